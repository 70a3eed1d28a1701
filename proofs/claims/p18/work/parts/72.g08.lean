/-! the class: forms of a way -/
set_option maxRecDepth 8000
theorem fb_X1_bit (d : Nat) (hd : 1 ≤ d) (μ : zM) (e : Bool) (f : Int32) : z_C d mi_X1_bit [.int (nB e), .int f] μ (zR μ (.long (lb e f))) := by
  refine z_C_in (by decide) (by omega) (fun d' Z ed hc hr => ?_)
  have hH : zH mi_X1_bit zt_X1_bit 79 1 2 := hh_X1_bit
  refine z_rcs hc hH 1 (pc' := 1) (lv' := [(0, .int (nB e)), (1, .int f)]) (st' := [.int (nB e)]) (μ' := μ) (by rfl) ?_
  have hJ1 : Z 0 11 [(0, .int (nB e)), (1, .int f)] [.long (bif e then 1 <<< (f.toInt64 &&& 63) else 0)] μ := by
    exact hr 0 11 _ _ _ (some (.long (bif e then 1 <<< (f.toInt64 &&& 63) else 0))) (by decide +kernel) (z_rx_ok hH (by rfl)) (⟨rfl, (by rfl)⟩)
  refine zq_if hc hH (by rfl) (tg := 10) (by rfl) (fun h2 => ?_) (fun h2 => ?_)
  · have h2 : (e) = false := nB_z.mp (cm_eq9.mp h2)
    refine z_rcs hc hH 1 (pc' := 11) (lv' := [(0, .int (nB e)), (1, .int f)]) (st' := [.long 0]) (μ' := μ) (by rfl) ?_
    exact zJ hJ1 rfl (by first | with_reducible rfl | (simp only [h2, lb_f, Int64.or_zero, Int32.add_zero, nB_t, nB_f, Bool.not_true, Bool.not_false, Bool.and_true, Bool.true_and, Bool.false_and, Bool.and_false, Bool.or_true, Bool.true_or, Bool.false_or, Bool.or_false, cond_true, cond_false]; done) | rfl) rfl
  · have h2 : (e) = true := nB_n.mp (cn_eq.mp h2)
    refine z_rcs hc hH 4 (pc' := 11) (lv' := [(0, .int (nB e)), (1, .int f)]) (st' := [.long (1 <<< (f.toInt64 &&& 63))]) (μ' := μ) (by rfl) ?_
    exact zJ hJ1 rfl (by first | with_reducible rfl | (simp only [h2, lb_f, Int64.or_zero, Int32.add_zero, nB_t, nB_f, Bool.not_true, Bool.not_false, Bool.and_true, Bool.true_and, Bool.false_and, Bool.and_false, Bool.or_true, Bool.true_or, Bool.false_or, Bool.or_false, cond_true, cond_false]; done) | rfl) rfl
noncomputable def xHd (ks : Int64) (k : Int32) : Bool := !(decide (k < 0)) && (!(decide (34 ≤ k)) && (!(decide ((lg_cmp (((ks.toUInt64 >>> (k.toInt64.toUInt64 &&& Int64.toUInt64 63)).toInt64) &&& 1) 0) = 0))))
theorem fb_X6_holds (d : Nat) (hd : 1 ≤ d) (μ : zM) (ks : Int64) (k : Int32) : z_C d mi_X6_holds [.long ks, .int k] μ (zR μ (.int (nB (xHd ks k)))) := by
  refine z_C_in (by decide) (by omega) (fun d' Z ed hc hr => ?_)
  have hH : zH mi_X6_holds zt_X6_holds 79 6 3 := hh_X6_holds
  refine z_rcs hc hH 1 (pc' := 1) (lv' := [(0, .long ks), (2, .int k)]) (st' := [.int k]) (μ' := μ) (by rfl) ?_
  have hJ1 : Z 0 25 [(0, .long ks), (2, .int k)] [.int (nB (!(decide (k < 0)) && (!(decide (34 ≤ k)) && (!(decide ((lg_cmp (((ks.toUInt64 >>> (k.toInt64.toUInt64 &&& Int64.toUInt64 63)).toInt64) &&& 1) 0) = 0))))))] μ := by
    generalize hee2 : (!(decide (k < 0)) && (!(decide (34 ≤ k)) && (!(decide ((lg_cmp (((ks.toUInt64 >>> (k.toInt64.toUInt64 &&& Int64.toUInt64 63)).toInt64) &&& 1) 0) = 0))))) = ee2
    exact hr 0 25 _ _ _ (some (.int (nB ee2))) (by decide +kernel) ((fun b : Bool => (by cases b <;> rfl : z_rn mi_X6_holds 25 [.int (nB b)] = some (some (.int (nB b))))) ee2) (⟨rfl, (by subst hee2; rfl)⟩)
  refine zq_if hc hH (by rfl) (tg := 24) (by rfl) (fun h3 => ?_) (fun h3 => ?_)
  · have h3 : (decide (k < 0)) = true := decide_eq_true (cm_lt.mp h3)
    refine z_rcs hc hH 1 (pc' := 25) (lv' := [(0, .long ks), (2, .int k)]) (st' := [.int 0]) (μ' := μ) (by rfl) ?_
    exact zJ hJ1 rfl (by first | with_reducible rfl | (simp only [h3, lb_f, Int64.or_zero, Int32.add_zero, nB_t, nB_f, Bool.not_true, Bool.not_false, Bool.and_true, Bool.true_and, Bool.false_and, Bool.and_false, Bool.or_true, Bool.true_or, Bool.false_or, Bool.or_false, cond_true, cond_false]; done) | rfl) rfl
  · have h3 : (decide (k < 0)) = false := decide_eq_false (cn_lt.mp h3)
    refine z_rcs hc hH 2 (pc' := 7) (lv' := [(0, .long ks), (2, .int k)]) (st' := [.int 34, .int k]) (μ' := μ) (by rfl) ?_
    refine zq_ic hc hH (by rfl) (tg := 24) (by rfl) (fun h4 => ?_) (fun h4 => ?_)
    · have h4 : (decide (34 ≤ k)) = true := decide_eq_true (cm_ge.mp h4)
      refine z_rcs hc hH 1 (pc' := 25) (lv' := [(0, .long ks), (2, .int k)]) (st' := [.int 0]) (μ' := μ) (by rfl) ?_
      exact zJ hJ1 rfl (by first | with_reducible rfl | (simp only [h3, h4, lb_f, Int64.or_zero, Int32.add_zero, nB_t, nB_f, Bool.not_true, Bool.not_false, Bool.and_true, Bool.true_and, Bool.false_and, Bool.and_false, Bool.or_true, Bool.true_or, Bool.false_or, Bool.or_false, cond_true, cond_false]; done) | rfl) rfl
    · have h4 : (decide (34 ≤ k)) = false := decide_eq_false (cn_ge.mp h4)
      refine z_rcs hc hH 7 (pc' := 17) (lv' := [(0, .long ks), (2, .int k)]) (st' := [.int (lg_cmp (((ks.toUInt64 >>> (k.toInt64.toUInt64 &&& Int64.toUInt64 63)).toInt64) &&& 1) 0)]) (μ' := μ) (by rfl) ?_
      refine zq_if hc hH (by rfl) (tg := 24) (by rfl) (fun h5 => ?_) (fun h5 => ?_)
      · have h5 : (decide ((lg_cmp (((ks.toUInt64 >>> (k.toInt64.toUInt64 &&& Int64.toUInt64 63)).toInt64) &&& 1) 0) = 0)) = true := decide_eq_true (cm_eq9.mp h5)
        refine z_rcs hc hH 1 (pc' := 25) (lv' := [(0, .long ks), (2, .int k)]) (st' := [.int 0]) (μ' := μ) (by rfl) ?_
        exact zJ hJ1 rfl (by first | with_reducible rfl | (simp only [h3, h4, h5, lb_f, Int64.or_zero, Int32.add_zero, nB_t, nB_f, Bool.not_true, Bool.not_false, Bool.and_true, Bool.true_and, Bool.false_and, Bool.and_false, Bool.or_true, Bool.true_or, Bool.false_or, Bool.or_false, cond_true, cond_false]; done) | rfl) rfl
      · have h5 : (decide ((lg_cmp (((ks.toUInt64 >>> (k.toInt64.toUInt64 &&& Int64.toUInt64 63)).toInt64) &&& 1) 0) = 0)) = false := decide_eq_false (cn_eq.mp h5)
        refine z_rcs hc hH 2 (pc' := 25) (lv' := [(0, .long ks), (2, .int k)]) (st' := [.int 1]) (μ' := μ) (by rfl) ?_
        exact zJ hJ1 rfl (by first | with_reducible rfl | (simp only [h3, h4, h5, lb_f, Int64.or_zero, Int32.add_zero, nB_t, nB_f, Bool.not_true, Bool.not_false, Bool.and_true, Bool.true_and, Bool.false_and, Bool.and_false, Bool.or_true, Bool.true_or, Bool.false_or, Bool.or_false, cond_true, cond_false]; done) | rfl) rfl
theorem fb_X1_waitFu_0 (d : Nat) (hd : 1 ≤ d) (μ : zM) : z_C d mi_X1_waitFu [.ref 14, .int 0] μ (zR μ (.int (bif decide ((μ.1 15 0) = 0) then bif decide (((μ.1 14 6) - (μ.1 16 0)) = 1) then (2 : Int32) else bif decide (((μ.1 14 6) - (μ.1 16 0)) = 2) then bif decide (((μ.1 16 0) - (μ.1 16 0) / 9 * 9) = 0) then (2 : Int32) else bif decide (((μ.1 14 6) - (μ.1 16 0)) = 0) then bif decide (((μ.1 16 0) - (μ.1 16 0) / 9 * 9) = 6) then (2 : Int32) else 0 else 0 else bif decide (((μ.1 14 6) - (μ.1 16 0)) = 0) then bif decide (((μ.1 16 0) - (μ.1 16 0) / 9 * 9) = 6) then (2 : Int32) else 0 else 0 else 0))) := by
  refine z_C_in (by decide) (by omega) (fun d' Z ed hc hr => ?_)
  have hH : zH mi_X1_waitFu zt_X1_waitFu 79 1 4 := hh_X1_waitFu
  refine z_rcs hc hH 8 (pc' := 16) (lv' := [(0, .ref 14), (1, .int 0)]) (st' := [.int 0, .ref 15]) (μ' := μ) (by rfl) ?_
  refine zq_iald hc hH (by rfl) 4 (by decide +kernel) (show vp_in (nI 0) 4 from vp_in_nI (by decide) (by decide)) ?_
  show Z 0 17 [(0, .ref 14), (1, .int 0)] [.int (μ.1 15 0)] μ
  refine zq_if hc hH (by rfl) (tg := 22) (by rfl) (fun h1 => ?_) (fun h1 => ?_)
  · have h1 : (decide ((μ.1 15 0) = 0)) = true := decide_eq_true (cm_eq9.mp h1)
    refine z_rcs hc hH 3 (pc' := 27) (lv' := [(0, .ref 14), (1, .int 0)]) (st' := [.int 0, .ref 16]) (μ' := μ) (by rfl) ?_
    refine zq_iald hc hH (by rfl) 4 (by decide +kernel) (show vp_in (nI 0) 4 from vp_in_nI (by decide) (by decide)) ?_
    show Z 0 28 [(0, .ref 14), (1, .int 0)] [.int (μ.1 16 0)] μ
    refine z_rcs hc hH 8 (pc' := 41) (lv' := [(2, .int ((μ.1 16 0) - (μ.1 16 0) / 9 * 9)), (0, .ref 14), (1, .int 0)]) (st' := [.int 0, .ref 16, .int (μ.1 14 6)]) (μ' := μ) (by rfl) ?_
    refine zq_iald hc hH (by rfl) 4 (by decide +kernel) (show vp_in (nI 0) 4 from vp_in_nI (by decide) (by decide)) ?_
    show Z 0 42 [(2, .int ((μ.1 16 0) - (μ.1 16 0) / 9 * 9)), (0, .ref 14), (1, .int 0)] [.int (μ.1 16 0), .int (μ.1 14 6)] μ
    refine z_rcs hc hH 4 (pc' := 46) (lv' := [(3, .int ((μ.1 14 6) - (μ.1 16 0))), (2, .int ((μ.1 16 0) - (μ.1 16 0) / 9 * 9)), (0, .ref 14), (1, .int 0)]) (st' := [.int 1, .int ((μ.1 14 6) - (μ.1 16 0))]) (μ' := μ) (by rfl) ?_
    have hJ2 : Z 0 73 [(3, .int ((μ.1 14 6) - (μ.1 16 0))), (2, .int ((μ.1 16 0) - (μ.1 16 0) / 9 * 9)), (0, .ref 14), (1, .int 0)] [.int (bif decide (((μ.1 14 6) - (μ.1 16 0)) = 1) then (2 : Int32) else bif decide (((μ.1 14 6) - (μ.1 16 0)) = 2) then bif decide (((μ.1 16 0) - (μ.1 16 0) / 9 * 9) = 0) then (2 : Int32) else bif decide (((μ.1 14 6) - (μ.1 16 0)) = 0) then bif decide (((μ.1 16 0) - (μ.1 16 0) / 9 * 9) = 6) then (2 : Int32) else 0 else 0 else bif decide (((μ.1 14 6) - (μ.1 16 0)) = 0) then bif decide (((μ.1 16 0) - (μ.1 16 0) / 9 * 9) = 6) then (2 : Int32) else 0 else 0)] μ := by
      generalize hyy3 : (bif decide (((μ.1 14 6) - (μ.1 16 0)) = 1) then (2 : Int32) else bif decide (((μ.1 14 6) - (μ.1 16 0)) = 2) then bif decide (((μ.1 16 0) - (μ.1 16 0) / 9 * 9) = 0) then (2 : Int32) else bif decide (((μ.1 14 6) - (μ.1 16 0)) = 0) then bif decide (((μ.1 16 0) - (μ.1 16 0) / 9 * 9) = 6) then (2 : Int32) else 0 else 0 else bif decide (((μ.1 14 6) - (μ.1 16 0)) = 0) then bif decide (((μ.1 16 0) - (μ.1 16 0) / 9 * 9) = 6) then (2 : Int32) else 0 else 0 : Int32) = yy3
      exact hr 0 73 _ _ _ (some (.int yy3)) (by decide +kernel) (z_rx_ok hH (by rfl)) (⟨rfl, (by try rw [hyy3]; simp only [h1, lb_f, Int64.or_zero, Int32.add_zero, nB_t, nB_f, Bool.not_true, Bool.not_false, Bool.and_true, Bool.true_and, Bool.false_and, Bool.and_false, Bool.or_true, Bool.true_or, Bool.false_or, Bool.or_false, cond_true, cond_false])⟩)
    refine zq_ic hc hH (by rfl) (tg := 68) (by rfl) (fun h4 => ?_) (fun h4 => ?_)
    · have h4 : (decide (((μ.1 14 6) - (μ.1 16 0)) = 1)) = true := decide_eq_true (cm_eq9.mp h4)
      refine z_rcs hc hH 2 (pc' := 73) (lv' := [(3, .int ((μ.1 14 6) - (μ.1 16 0))), (2, .int ((μ.1 16 0) - (μ.1 16 0) / 9 * 9)), (0, .ref 14), (1, .int 0)]) (st' := [.int 2]) (μ' := μ) (by rfl) ?_
      exact zJ hJ2 rfl (by first | with_reducible rfl | (simp only [h4, lb_f, Int64.or_zero, Int32.add_zero, nB_t, nB_f, Bool.not_true, Bool.not_false, Bool.and_true, Bool.true_and, Bool.false_and, Bool.and_false, Bool.or_true, Bool.true_or, Bool.false_or, Bool.or_false, cond_true, cond_false]; done) | rfl) rfl
    · have h4 : (decide (((μ.1 14 6) - (μ.1 16 0)) = 1)) = false := decide_eq_false (cn_eq.mp h4)
      refine z_rcs hc hH 2 (pc' := 51) (lv' := [(3, .int ((μ.1 14 6) - (μ.1 16 0))), (2, .int ((μ.1 16 0) - (μ.1 16 0) / 9 * 9)), (0, .ref 14), (1, .int 0)]) (st' := [.int 2, .int ((μ.1 14 6) - (μ.1 16 0))]) (μ' := μ) (by rfl) ?_
      refine zq_ic hc hH (by rfl) (tg := 58) (by rfl) (fun h5 => ?_) (fun h5 => ?_)
      · have h5 : (decide (((μ.1 14 6) - (μ.1 16 0)) = 2)) = false := decide_eq_false (cm_ne.mp h5)
        refine z_rcs hc hH 1 (pc' := 59) (lv' := [(3, .int ((μ.1 14 6) - (μ.1 16 0))), (2, .int ((μ.1 16 0) - (μ.1 16 0) / 9 * 9)), (0, .ref 14), (1, .int 0)]) (st' := [.int ((μ.1 14 6) - (μ.1 16 0))]) (μ' := μ) (by rfl) ?_
        refine zq_if hc hH (by rfl) (tg := 72) (by rfl) (fun h6 => ?_) (fun h6 => ?_)
        · have h6 : (decide (((μ.1 14 6) - (μ.1 16 0)) = 0)) = false := decide_eq_false (cm_ne.mp h6)
          refine z_rcs hc hH 1 (pc' := 73) (lv' := [(3, .int ((μ.1 14 6) - (μ.1 16 0))), (2, .int ((μ.1 16 0) - (μ.1 16 0) / 9 * 9)), (0, .ref 14), (1, .int 0)]) (st' := [.int 0]) (μ' := μ) (by rfl) ?_
          exact zJ hJ2 rfl (by first | with_reducible rfl | (simp only [h4, h5, h6, lb_f, Int64.or_zero, Int32.add_zero, nB_t, nB_f, Bool.not_true, Bool.not_false, Bool.and_true, Bool.true_and, Bool.false_and, Bool.and_false, Bool.or_true, Bool.true_or, Bool.false_or, Bool.or_false, cond_true, cond_false]; done) | rfl) rfl
        · have h6 : (decide (((μ.1 14 6) - (μ.1 16 0)) = 0)) = true := decide_eq_true (cn_ne.mp h6)
          refine z_rcs hc hH 2 (pc' := 65) (lv' := [(3, .int ((μ.1 14 6) - (μ.1 16 0))), (2, .int ((μ.1 16 0) - (μ.1 16 0) / 9 * 9)), (0, .ref 14), (1, .int 0)]) (st' := [.int 6, .int ((μ.1 16 0) - (μ.1 16 0) / 9 * 9)]) (μ' := μ) (by rfl) ?_
          refine zq_ic hc hH (by rfl) (tg := 72) (by rfl) (fun h7 => ?_) (fun h7 => ?_)
          · have h7 : (decide (((μ.1 16 0) - (μ.1 16 0) / 9 * 9) = 6)) = false := decide_eq_false (cm_ne.mp h7)
            refine z_rcs hc hH 1 (pc' := 73) (lv' := [(3, .int ((μ.1 14 6) - (μ.1 16 0))), (2, .int ((μ.1 16 0) - (μ.1 16 0) / 9 * 9)), (0, .ref 14), (1, .int 0)]) (st' := [.int 0]) (μ' := μ) (by rfl) ?_
            exact zJ hJ2 rfl (by first | with_reducible rfl | (simp only [h4, h5, h6, h7, lb_f, Int64.or_zero, Int32.add_zero, nB_t, nB_f, Bool.not_true, Bool.not_false, Bool.and_true, Bool.true_and, Bool.false_and, Bool.and_false, Bool.or_true, Bool.true_or, Bool.false_or, Bool.or_false, cond_true, cond_false]; done) | rfl) rfl
          · have h7 : (decide (((μ.1 16 0) - (μ.1 16 0) / 9 * 9) = 6)) = true := decide_eq_true (cn_ne.mp h7)
            refine z_rcs hc hH 2 (pc' := 73) (lv' := [(3, .int ((μ.1 14 6) - (μ.1 16 0))), (2, .int ((μ.1 16 0) - (μ.1 16 0) / 9 * 9)), (0, .ref 14), (1, .int 0)]) (st' := [.int 2]) (μ' := μ) (by rfl) ?_
            exact zJ hJ2 rfl (by first | with_reducible rfl | (simp only [h4, h5, h6, h7, lb_f, Int64.or_zero, Int32.add_zero, nB_t, nB_f, Bool.not_true, Bool.not_false, Bool.and_true, Bool.true_and, Bool.false_and, Bool.and_false, Bool.or_true, Bool.true_or, Bool.false_or, Bool.or_false, cond_true, cond_false]; done) | rfl) rfl
      · have h5 : (decide (((μ.1 14 6) - (μ.1 16 0)) = 2)) = true := decide_eq_true (cn_ne.mp h5)
        refine z_rcs hc hH 1 (pc' := 55) (lv' := [(3, .int ((μ.1 14 6) - (μ.1 16 0))), (2, .int ((μ.1 16 0) - (μ.1 16 0) / 9 * 9)), (0, .ref 14), (1, .int 0)]) (st' := [.int ((μ.1 16 0) - (μ.1 16 0) / 9 * 9)]) (μ' := μ) (by rfl) ?_
        refine zq_if hc hH (by rfl) (tg := 68) (by rfl) (fun h8 => ?_) (fun h8 => ?_)
        · have h8 : (decide (((μ.1 16 0) - (μ.1 16 0) / 9 * 9) = 0)) = true := decide_eq_true (cm_eq9.mp h8)
          refine z_rcs hc hH 2 (pc' := 73) (lv' := [(3, .int ((μ.1 14 6) - (μ.1 16 0))), (2, .int ((μ.1 16 0) - (μ.1 16 0) / 9 * 9)), (0, .ref 14), (1, .int 0)]) (st' := [.int 2]) (μ' := μ) (by rfl) ?_
          exact zJ hJ2 rfl (by first | with_reducible rfl | (simp only [h4, h5, h8, lb_f, Int64.or_zero, Int32.add_zero, nB_t, nB_f, Bool.not_true, Bool.not_false, Bool.and_true, Bool.true_and, Bool.false_and, Bool.and_false, Bool.or_true, Bool.true_or, Bool.false_or, Bool.or_false, cond_true, cond_false]; done) | rfl) rfl
        · have h8 : (decide (((μ.1 16 0) - (μ.1 16 0) / 9 * 9) = 0)) = false := decide_eq_false (cn_eq.mp h8)
          refine z_rcs hc hH 1 (pc' := 59) (lv' := [(3, .int ((μ.1 14 6) - (μ.1 16 0))), (2, .int ((μ.1 16 0) - (μ.1 16 0) / 9 * 9)), (0, .ref 14), (1, .int 0)]) (st' := [.int ((μ.1 14 6) - (μ.1 16 0))]) (μ' := μ) (by rfl) ?_
          refine zq_if hc hH (by rfl) (tg := 72) (by rfl) (fun h9 => ?_) (fun h9 => ?_)
          · have h9 : (decide (((μ.1 14 6) - (μ.1 16 0)) = 0)) = false := decide_eq_false (cm_ne.mp h9)
            refine z_rcs hc hH 1 (pc' := 73) (lv' := [(3, .int ((μ.1 14 6) - (μ.1 16 0))), (2, .int ((μ.1 16 0) - (μ.1 16 0) / 9 * 9)), (0, .ref 14), (1, .int 0)]) (st' := [.int 0]) (μ' := μ) (by rfl) ?_
            exact zJ hJ2 rfl (by first | with_reducible rfl | (simp only [h4, h5, h8, h9, lb_f, Int64.or_zero, Int32.add_zero, nB_t, nB_f, Bool.not_true, Bool.not_false, Bool.and_true, Bool.true_and, Bool.false_and, Bool.and_false, Bool.or_true, Bool.true_or, Bool.false_or, Bool.or_false, cond_true, cond_false]; done) | rfl) rfl
          · have h9 : (decide (((μ.1 14 6) - (μ.1 16 0)) = 0)) = true := decide_eq_true (cn_ne.mp h9)
            refine z_rcs hc hH 2 (pc' := 65) (lv' := [(3, .int ((μ.1 14 6) - (μ.1 16 0))), (2, .int ((μ.1 16 0) - (μ.1 16 0) / 9 * 9)), (0, .ref 14), (1, .int 0)]) (st' := [.int 6, .int ((μ.1 16 0) - (μ.1 16 0) / 9 * 9)]) (μ' := μ) (by rfl) ?_
            refine zq_ic hc hH (by rfl) (tg := 72) (by rfl) (fun h10 => ?_) (fun h10 => ?_)
            · have h10 : (decide (((μ.1 16 0) - (μ.1 16 0) / 9 * 9) = 6)) = false := decide_eq_false (cm_ne.mp h10)
              refine z_rcs hc hH 1 (pc' := 73) (lv' := [(3, .int ((μ.1 14 6) - (μ.1 16 0))), (2, .int ((μ.1 16 0) - (μ.1 16 0) / 9 * 9)), (0, .ref 14), (1, .int 0)]) (st' := [.int 0]) (μ' := μ) (by rfl) ?_
              exact zJ hJ2 rfl (by first | with_reducible rfl | (simp only [h4, h5, h8, h9, h10, lb_f, Int64.or_zero, Int32.add_zero, nB_t, nB_f, Bool.not_true, Bool.not_false, Bool.and_true, Bool.true_and, Bool.false_and, Bool.and_false, Bool.or_true, Bool.true_or, Bool.false_or, Bool.or_false, cond_true, cond_false]; done) | rfl) rfl
            · have h10 : (decide (((μ.1 16 0) - (μ.1 16 0) / 9 * 9) = 6)) = true := decide_eq_true (cn_ne.mp h10)
              refine z_rcs hc hH 2 (pc' := 73) (lv' := [(3, .int ((μ.1 14 6) - (μ.1 16 0))), (2, .int ((μ.1 16 0) - (μ.1 16 0) / 9 * 9)), (0, .ref 14), (1, .int 0)]) (st' := [.int 2]) (μ' := μ) (by rfl) ?_
              exact zJ hJ2 rfl (by first | with_reducible rfl | (simp only [h4, h5, h8, h9, h10, lb_f, Int64.or_zero, Int32.add_zero, nB_t, nB_f, Bool.not_true, Bool.not_false, Bool.and_true, Bool.true_and, Bool.false_and, Bool.and_false, Bool.or_true, Bool.true_or, Bool.false_or, Bool.or_false, cond_true, cond_false]; done) | rfl) rfl
  · have h1 : (decide ((μ.1 15 0) = 0)) = false := decide_eq_false (cn_eq.mp h1)
    refine z_rcs hc hH 1 (pc' := 21) (lv' := [(0, .ref 14), (1, .int 0)]) (st' := [.int 0]) (μ' := μ) (by rfl) ?_
    exact hr 0 21 _ _ _ (some (.int 0)) (by decide +kernel) (z_rx_ok hH (by rfl)) (⟨rfl, (by simp only [h1, lb_f, Int64.or_zero, Int32.add_zero, nB_t, nB_f, Bool.not_true, Bool.not_false, Bool.and_true, Bool.true_and, Bool.false_and, Bool.and_false, Bool.or_true, Bool.true_or, Bool.false_or, Bool.or_false, cond_true, cond_false])⟩)
theorem fb_X1_waitFu_1 (d : Nat) (hd : 1 ≤ d) (μ : zM) : z_C d mi_X1_waitFu [.ref 14, .int 1] μ (zR μ (.int (bif decide ((μ.1 15 1) = 0) then bif decide (((μ.1 14 6) - (μ.1 16 1)) = 1) then (2 : Int32) else bif decide (((μ.1 14 6) - (μ.1 16 1)) = 2) then bif decide (((μ.1 16 1) - (μ.1 16 1) / 9 * 9) = 0) then (2 : Int32) else bif decide (((μ.1 14 6) - (μ.1 16 1)) = 0) then bif decide (((μ.1 16 1) - (μ.1 16 1) / 9 * 9) = 6) then (2 : Int32) else 0 else 0 else bif decide (((μ.1 14 6) - (μ.1 16 1)) = 0) then bif decide (((μ.1 16 1) - (μ.1 16 1) / 9 * 9) = 6) then (2 : Int32) else 0 else 0 else 0))) := by
  refine z_C_in (by decide) (by omega) (fun d' Z ed hc hr => ?_)
  have hH : zH mi_X1_waitFu zt_X1_waitFu 79 1 4 := hh_X1_waitFu
  refine z_rcs hc hH 8 (pc' := 16) (lv' := [(0, .ref 14), (1, .int 1)]) (st' := [.int 1, .ref 15]) (μ' := μ) (by rfl) ?_
  refine zq_iald hc hH (by rfl) 4 (by decide +kernel) (show vp_in (nI 1) 4 from vp_in_nI (by decide) (by decide)) ?_
  show Z 0 17 [(0, .ref 14), (1, .int 1)] [.int (μ.1 15 1)] μ
  refine zq_if hc hH (by rfl) (tg := 22) (by rfl) (fun h1 => ?_) (fun h1 => ?_)
  · have h1 : (decide ((μ.1 15 1) = 0)) = true := decide_eq_true (cm_eq9.mp h1)
    refine z_rcs hc hH 3 (pc' := 27) (lv' := [(0, .ref 14), (1, .int 1)]) (st' := [.int 1, .ref 16]) (μ' := μ) (by rfl) ?_
    refine zq_iald hc hH (by rfl) 4 (by decide +kernel) (show vp_in (nI 1) 4 from vp_in_nI (by decide) (by decide)) ?_
    show Z 0 28 [(0, .ref 14), (1, .int 1)] [.int (μ.1 16 1)] μ
    refine z_rcs hc hH 8 (pc' := 41) (lv' := [(2, .int ((μ.1 16 1) - (μ.1 16 1) / 9 * 9)), (0, .ref 14), (1, .int 1)]) (st' := [.int 1, .ref 16, .int (μ.1 14 6)]) (μ' := μ) (by rfl) ?_
    refine zq_iald hc hH (by rfl) 4 (by decide +kernel) (show vp_in (nI 1) 4 from vp_in_nI (by decide) (by decide)) ?_
    show Z 0 42 [(2, .int ((μ.1 16 1) - (μ.1 16 1) / 9 * 9)), (0, .ref 14), (1, .int 1)] [.int (μ.1 16 1), .int (μ.1 14 6)] μ
    refine z_rcs hc hH 4 (pc' := 46) (lv' := [(3, .int ((μ.1 14 6) - (μ.1 16 1))), (2, .int ((μ.1 16 1) - (μ.1 16 1) / 9 * 9)), (0, .ref 14), (1, .int 1)]) (st' := [.int 1, .int ((μ.1 14 6) - (μ.1 16 1))]) (μ' := μ) (by rfl) ?_
    have hJ2 : Z 0 73 [(3, .int ((μ.1 14 6) - (μ.1 16 1))), (2, .int ((μ.1 16 1) - (μ.1 16 1) / 9 * 9)), (0, .ref 14), (1, .int 1)] [.int (bif decide (((μ.1 14 6) - (μ.1 16 1)) = 1) then (2 : Int32) else bif decide (((μ.1 14 6) - (μ.1 16 1)) = 2) then bif decide (((μ.1 16 1) - (μ.1 16 1) / 9 * 9) = 0) then (2 : Int32) else bif decide (((μ.1 14 6) - (μ.1 16 1)) = 0) then bif decide (((μ.1 16 1) - (μ.1 16 1) / 9 * 9) = 6) then (2 : Int32) else 0 else 0 else bif decide (((μ.1 14 6) - (μ.1 16 1)) = 0) then bif decide (((μ.1 16 1) - (μ.1 16 1) / 9 * 9) = 6) then (2 : Int32) else 0 else 0)] μ := by
      generalize hyy3 : (bif decide (((μ.1 14 6) - (μ.1 16 1)) = 1) then (2 : Int32) else bif decide (((μ.1 14 6) - (μ.1 16 1)) = 2) then bif decide (((μ.1 16 1) - (μ.1 16 1) / 9 * 9) = 0) then (2 : Int32) else bif decide (((μ.1 14 6) - (μ.1 16 1)) = 0) then bif decide (((μ.1 16 1) - (μ.1 16 1) / 9 * 9) = 6) then (2 : Int32) else 0 else 0 else bif decide (((μ.1 14 6) - (μ.1 16 1)) = 0) then bif decide (((μ.1 16 1) - (μ.1 16 1) / 9 * 9) = 6) then (2 : Int32) else 0 else 0 : Int32) = yy3
      exact hr 0 73 _ _ _ (some (.int yy3)) (by decide +kernel) (z_rx_ok hH (by rfl)) (⟨rfl, (by try rw [hyy3]; simp only [h1, lb_f, Int64.or_zero, Int32.add_zero, nB_t, nB_f, Bool.not_true, Bool.not_false, Bool.and_true, Bool.true_and, Bool.false_and, Bool.and_false, Bool.or_true, Bool.true_or, Bool.false_or, Bool.or_false, cond_true, cond_false])⟩)
    refine zq_ic hc hH (by rfl) (tg := 68) (by rfl) (fun h4 => ?_) (fun h4 => ?_)
    · have h4 : (decide (((μ.1 14 6) - (μ.1 16 1)) = 1)) = true := decide_eq_true (cm_eq9.mp h4)
      refine z_rcs hc hH 2 (pc' := 73) (lv' := [(3, .int ((μ.1 14 6) - (μ.1 16 1))), (2, .int ((μ.1 16 1) - (μ.1 16 1) / 9 * 9)), (0, .ref 14), (1, .int 1)]) (st' := [.int 2]) (μ' := μ) (by rfl) ?_
      exact zJ hJ2 rfl (by first | with_reducible rfl | (simp only [h4, lb_f, Int64.or_zero, Int32.add_zero, nB_t, nB_f, Bool.not_true, Bool.not_false, Bool.and_true, Bool.true_and, Bool.false_and, Bool.and_false, Bool.or_true, Bool.true_or, Bool.false_or, Bool.or_false, cond_true, cond_false]; done) | rfl) rfl
    · have h4 : (decide (((μ.1 14 6) - (μ.1 16 1)) = 1)) = false := decide_eq_false (cn_eq.mp h4)
      refine z_rcs hc hH 2 (pc' := 51) (lv' := [(3, .int ((μ.1 14 6) - (μ.1 16 1))), (2, .int ((μ.1 16 1) - (μ.1 16 1) / 9 * 9)), (0, .ref 14), (1, .int 1)]) (st' := [.int 2, .int ((μ.1 14 6) - (μ.1 16 1))]) (μ' := μ) (by rfl) ?_
      refine zq_ic hc hH (by rfl) (tg := 58) (by rfl) (fun h5 => ?_) (fun h5 => ?_)
      · have h5 : (decide (((μ.1 14 6) - (μ.1 16 1)) = 2)) = false := decide_eq_false (cm_ne.mp h5)
        refine z_rcs hc hH 1 (pc' := 59) (lv' := [(3, .int ((μ.1 14 6) - (μ.1 16 1))), (2, .int ((μ.1 16 1) - (μ.1 16 1) / 9 * 9)), (0, .ref 14), (1, .int 1)]) (st' := [.int ((μ.1 14 6) - (μ.1 16 1))]) (μ' := μ) (by rfl) ?_
        refine zq_if hc hH (by rfl) (tg := 72) (by rfl) (fun h6 => ?_) (fun h6 => ?_)
        · have h6 : (decide (((μ.1 14 6) - (μ.1 16 1)) = 0)) = false := decide_eq_false (cm_ne.mp h6)
          refine z_rcs hc hH 1 (pc' := 73) (lv' := [(3, .int ((μ.1 14 6) - (μ.1 16 1))), (2, .int ((μ.1 16 1) - (μ.1 16 1) / 9 * 9)), (0, .ref 14), (1, .int 1)]) (st' := [.int 0]) (μ' := μ) (by rfl) ?_
          exact zJ hJ2 rfl (by first | with_reducible rfl | (simp only [h4, h5, h6, lb_f, Int64.or_zero, Int32.add_zero, nB_t, nB_f, Bool.not_true, Bool.not_false, Bool.and_true, Bool.true_and, Bool.false_and, Bool.and_false, Bool.or_true, Bool.true_or, Bool.false_or, Bool.or_false, cond_true, cond_false]; done) | rfl) rfl
        · have h6 : (decide (((μ.1 14 6) - (μ.1 16 1)) = 0)) = true := decide_eq_true (cn_ne.mp h6)
          refine z_rcs hc hH 2 (pc' := 65) (lv' := [(3, .int ((μ.1 14 6) - (μ.1 16 1))), (2, .int ((μ.1 16 1) - (μ.1 16 1) / 9 * 9)), (0, .ref 14), (1, .int 1)]) (st' := [.int 6, .int ((μ.1 16 1) - (μ.1 16 1) / 9 * 9)]) (μ' := μ) (by rfl) ?_
          refine zq_ic hc hH (by rfl) (tg := 72) (by rfl) (fun h7 => ?_) (fun h7 => ?_)
          · have h7 : (decide (((μ.1 16 1) - (μ.1 16 1) / 9 * 9) = 6)) = false := decide_eq_false (cm_ne.mp h7)
            refine z_rcs hc hH 1 (pc' := 73) (lv' := [(3, .int ((μ.1 14 6) - (μ.1 16 1))), (2, .int ((μ.1 16 1) - (μ.1 16 1) / 9 * 9)), (0, .ref 14), (1, .int 1)]) (st' := [.int 0]) (μ' := μ) (by rfl) ?_
            exact zJ hJ2 rfl (by first | with_reducible rfl | (simp only [h4, h5, h6, h7, lb_f, Int64.or_zero, Int32.add_zero, nB_t, nB_f, Bool.not_true, Bool.not_false, Bool.and_true, Bool.true_and, Bool.false_and, Bool.and_false, Bool.or_true, Bool.true_or, Bool.false_or, Bool.or_false, cond_true, cond_false]; done) | rfl) rfl
          · have h7 : (decide (((μ.1 16 1) - (μ.1 16 1) / 9 * 9) = 6)) = true := decide_eq_true (cn_ne.mp h7)
            refine z_rcs hc hH 2 (pc' := 73) (lv' := [(3, .int ((μ.1 14 6) - (μ.1 16 1))), (2, .int ((μ.1 16 1) - (μ.1 16 1) / 9 * 9)), (0, .ref 14), (1, .int 1)]) (st' := [.int 2]) (μ' := μ) (by rfl) ?_
            exact zJ hJ2 rfl (by first | with_reducible rfl | (simp only [h4, h5, h6, h7, lb_f, Int64.or_zero, Int32.add_zero, nB_t, nB_f, Bool.not_true, Bool.not_false, Bool.and_true, Bool.true_and, Bool.false_and, Bool.and_false, Bool.or_true, Bool.true_or, Bool.false_or, Bool.or_false, cond_true, cond_false]; done) | rfl) rfl
      · have h5 : (decide (((μ.1 14 6) - (μ.1 16 1)) = 2)) = true := decide_eq_true (cn_ne.mp h5)
        refine z_rcs hc hH 1 (pc' := 55) (lv' := [(3, .int ((μ.1 14 6) - (μ.1 16 1))), (2, .int ((μ.1 16 1) - (μ.1 16 1) / 9 * 9)), (0, .ref 14), (1, .int 1)]) (st' := [.int ((μ.1 16 1) - (μ.1 16 1) / 9 * 9)]) (μ' := μ) (by rfl) ?_
        refine zq_if hc hH (by rfl) (tg := 68) (by rfl) (fun h8 => ?_) (fun h8 => ?_)
        · have h8 : (decide (((μ.1 16 1) - (μ.1 16 1) / 9 * 9) = 0)) = true := decide_eq_true (cm_eq9.mp h8)
          refine z_rcs hc hH 2 (pc' := 73) (lv' := [(3, .int ((μ.1 14 6) - (μ.1 16 1))), (2, .int ((μ.1 16 1) - (μ.1 16 1) / 9 * 9)), (0, .ref 14), (1, .int 1)]) (st' := [.int 2]) (μ' := μ) (by rfl) ?_
          exact zJ hJ2 rfl (by first | with_reducible rfl | (simp only [h4, h5, h8, lb_f, Int64.or_zero, Int32.add_zero, nB_t, nB_f, Bool.not_true, Bool.not_false, Bool.and_true, Bool.true_and, Bool.false_and, Bool.and_false, Bool.or_true, Bool.true_or, Bool.false_or, Bool.or_false, cond_true, cond_false]; done) | rfl) rfl
        · have h8 : (decide (((μ.1 16 1) - (μ.1 16 1) / 9 * 9) = 0)) = false := decide_eq_false (cn_eq.mp h8)
          refine z_rcs hc hH 1 (pc' := 59) (lv' := [(3, .int ((μ.1 14 6) - (μ.1 16 1))), (2, .int ((μ.1 16 1) - (μ.1 16 1) / 9 * 9)), (0, .ref 14), (1, .int 1)]) (st' := [.int ((μ.1 14 6) - (μ.1 16 1))]) (μ' := μ) (by rfl) ?_
          refine zq_if hc hH (by rfl) (tg := 72) (by rfl) (fun h9 => ?_) (fun h9 => ?_)
          · have h9 : (decide (((μ.1 14 6) - (μ.1 16 1)) = 0)) = false := decide_eq_false (cm_ne.mp h9)
            refine z_rcs hc hH 1 (pc' := 73) (lv' := [(3, .int ((μ.1 14 6) - (μ.1 16 1))), (2, .int ((μ.1 16 1) - (μ.1 16 1) / 9 * 9)), (0, .ref 14), (1, .int 1)]) (st' := [.int 0]) (μ' := μ) (by rfl) ?_
            exact zJ hJ2 rfl (by first | with_reducible rfl | (simp only [h4, h5, h8, h9, lb_f, Int64.or_zero, Int32.add_zero, nB_t, nB_f, Bool.not_true, Bool.not_false, Bool.and_true, Bool.true_and, Bool.false_and, Bool.and_false, Bool.or_true, Bool.true_or, Bool.false_or, Bool.or_false, cond_true, cond_false]; done) | rfl) rfl
          · have h9 : (decide (((μ.1 14 6) - (μ.1 16 1)) = 0)) = true := decide_eq_true (cn_ne.mp h9)
            refine z_rcs hc hH 2 (pc' := 65) (lv' := [(3, .int ((μ.1 14 6) - (μ.1 16 1))), (2, .int ((μ.1 16 1) - (μ.1 16 1) / 9 * 9)), (0, .ref 14), (1, .int 1)]) (st' := [.int 6, .int ((μ.1 16 1) - (μ.1 16 1) / 9 * 9)]) (μ' := μ) (by rfl) ?_
            refine zq_ic hc hH (by rfl) (tg := 72) (by rfl) (fun h10 => ?_) (fun h10 => ?_)
            · have h10 : (decide (((μ.1 16 1) - (μ.1 16 1) / 9 * 9) = 6)) = false := decide_eq_false (cm_ne.mp h10)
              refine z_rcs hc hH 1 (pc' := 73) (lv' := [(3, .int ((μ.1 14 6) - (μ.1 16 1))), (2, .int ((μ.1 16 1) - (μ.1 16 1) / 9 * 9)), (0, .ref 14), (1, .int 1)]) (st' := [.int 0]) (μ' := μ) (by rfl) ?_
              exact zJ hJ2 rfl (by first | with_reducible rfl | (simp only [h4, h5, h8, h9, h10, lb_f, Int64.or_zero, Int32.add_zero, nB_t, nB_f, Bool.not_true, Bool.not_false, Bool.and_true, Bool.true_and, Bool.false_and, Bool.and_false, Bool.or_true, Bool.true_or, Bool.false_or, Bool.or_false, cond_true, cond_false]; done) | rfl) rfl
            · have h10 : (decide (((μ.1 16 1) - (μ.1 16 1) / 9 * 9) = 6)) = true := decide_eq_true (cn_ne.mp h10)
              refine z_rcs hc hH 2 (pc' := 73) (lv' := [(3, .int ((μ.1 14 6) - (μ.1 16 1))), (2, .int ((μ.1 16 1) - (μ.1 16 1) / 9 * 9)), (0, .ref 14), (1, .int 1)]) (st' := [.int 2]) (μ' := μ) (by rfl) ?_
              exact zJ hJ2 rfl (by first | with_reducible rfl | (simp only [h4, h5, h8, h9, h10, lb_f, Int64.or_zero, Int32.add_zero, nB_t, nB_f, Bool.not_true, Bool.not_false, Bool.and_true, Bool.true_and, Bool.false_and, Bool.and_false, Bool.or_true, Bool.true_or, Bool.false_or, Bool.or_false, cond_true, cond_false]; done) | rfl) rfl
  · have h1 : (decide ((μ.1 15 1) = 0)) = false := decide_eq_false (cn_eq.mp h1)
    refine z_rcs hc hH 1 (pc' := 21) (lv' := [(0, .ref 14), (1, .int 1)]) (st' := [.int 0]) (μ' := μ) (by rfl) ?_
    exact hr 0 21 _ _ _ (some (.int 0)) (by decide +kernel) (z_rx_ok hH (by rfl)) (⟨rfl, (by simp only [h1, lb_f, Int64.or_zero, Int32.add_zero, nB_t, nB_f, Bool.not_true, Bool.not_false, Bool.and_true, Bool.true_and, Bool.false_and, Bool.and_false, Bool.or_true, Bool.true_or, Bool.false_or, Bool.or_false, cond_true, cond_false])⟩)
theorem fb_X1_waitFu_2 (d : Nat) (hd : 1 ≤ d) (μ : zM) : z_C d mi_X1_waitFu [.ref 14, .int 2] μ (zR μ (.int (bif decide ((μ.1 15 2) = 0) then bif decide (((μ.1 14 6) - (μ.1 16 2)) = 1) then (2 : Int32) else bif decide (((μ.1 14 6) - (μ.1 16 2)) = 2) then bif decide (((μ.1 16 2) - (μ.1 16 2) / 9 * 9) = 0) then (2 : Int32) else bif decide (((μ.1 14 6) - (μ.1 16 2)) = 0) then bif decide (((μ.1 16 2) - (μ.1 16 2) / 9 * 9) = 6) then (2 : Int32) else 0 else 0 else bif decide (((μ.1 14 6) - (μ.1 16 2)) = 0) then bif decide (((μ.1 16 2) - (μ.1 16 2) / 9 * 9) = 6) then (2 : Int32) else 0 else 0 else 0))) := by
  refine z_C_in (by decide) (by omega) (fun d' Z ed hc hr => ?_)
  have hH : zH mi_X1_waitFu zt_X1_waitFu 79 1 4 := hh_X1_waitFu
  refine z_rcs hc hH 8 (pc' := 16) (lv' := [(0, .ref 14), (1, .int 2)]) (st' := [.int 2, .ref 15]) (μ' := μ) (by rfl) ?_
  refine zq_iald hc hH (by rfl) 4 (by decide +kernel) (show vp_in (nI 2) 4 from vp_in_nI (by decide) (by decide)) ?_
  show Z 0 17 [(0, .ref 14), (1, .int 2)] [.int (μ.1 15 2)] μ
  refine zq_if hc hH (by rfl) (tg := 22) (by rfl) (fun h1 => ?_) (fun h1 => ?_)
  · have h1 : (decide ((μ.1 15 2) = 0)) = true := decide_eq_true (cm_eq9.mp h1)
    refine z_rcs hc hH 3 (pc' := 27) (lv' := [(0, .ref 14), (1, .int 2)]) (st' := [.int 2, .ref 16]) (μ' := μ) (by rfl) ?_
    refine zq_iald hc hH (by rfl) 4 (by decide +kernel) (show vp_in (nI 2) 4 from vp_in_nI (by decide) (by decide)) ?_
    show Z 0 28 [(0, .ref 14), (1, .int 2)] [.int (μ.1 16 2)] μ
    refine z_rcs hc hH 8 (pc' := 41) (lv' := [(2, .int ((μ.1 16 2) - (μ.1 16 2) / 9 * 9)), (0, .ref 14), (1, .int 2)]) (st' := [.int 2, .ref 16, .int (μ.1 14 6)]) (μ' := μ) (by rfl) ?_
    refine zq_iald hc hH (by rfl) 4 (by decide +kernel) (show vp_in (nI 2) 4 from vp_in_nI (by decide) (by decide)) ?_
    show Z 0 42 [(2, .int ((μ.1 16 2) - (μ.1 16 2) / 9 * 9)), (0, .ref 14), (1, .int 2)] [.int (μ.1 16 2), .int (μ.1 14 6)] μ
    refine z_rcs hc hH 4 (pc' := 46) (lv' := [(3, .int ((μ.1 14 6) - (μ.1 16 2))), (2, .int ((μ.1 16 2) - (μ.1 16 2) / 9 * 9)), (0, .ref 14), (1, .int 2)]) (st' := [.int 1, .int ((μ.1 14 6) - (μ.1 16 2))]) (μ' := μ) (by rfl) ?_
    have hJ2 : Z 0 73 [(3, .int ((μ.1 14 6) - (μ.1 16 2))), (2, .int ((μ.1 16 2) - (μ.1 16 2) / 9 * 9)), (0, .ref 14), (1, .int 2)] [.int (bif decide (((μ.1 14 6) - (μ.1 16 2)) = 1) then (2 : Int32) else bif decide (((μ.1 14 6) - (μ.1 16 2)) = 2) then bif decide (((μ.1 16 2) - (μ.1 16 2) / 9 * 9) = 0) then (2 : Int32) else bif decide (((μ.1 14 6) - (μ.1 16 2)) = 0) then bif decide (((μ.1 16 2) - (μ.1 16 2) / 9 * 9) = 6) then (2 : Int32) else 0 else 0 else bif decide (((μ.1 14 6) - (μ.1 16 2)) = 0) then bif decide (((μ.1 16 2) - (μ.1 16 2) / 9 * 9) = 6) then (2 : Int32) else 0 else 0)] μ := by
      generalize hyy3 : (bif decide (((μ.1 14 6) - (μ.1 16 2)) = 1) then (2 : Int32) else bif decide (((μ.1 14 6) - (μ.1 16 2)) = 2) then bif decide (((μ.1 16 2) - (μ.1 16 2) / 9 * 9) = 0) then (2 : Int32) else bif decide (((μ.1 14 6) - (μ.1 16 2)) = 0) then bif decide (((μ.1 16 2) - (μ.1 16 2) / 9 * 9) = 6) then (2 : Int32) else 0 else 0 else bif decide (((μ.1 14 6) - (μ.1 16 2)) = 0) then bif decide (((μ.1 16 2) - (μ.1 16 2) / 9 * 9) = 6) then (2 : Int32) else 0 else 0 : Int32) = yy3
      exact hr 0 73 _ _ _ (some (.int yy3)) (by decide +kernel) (z_rx_ok hH (by rfl)) (⟨rfl, (by try rw [hyy3]; simp only [h1, lb_f, Int64.or_zero, Int32.add_zero, nB_t, nB_f, Bool.not_true, Bool.not_false, Bool.and_true, Bool.true_and, Bool.false_and, Bool.and_false, Bool.or_true, Bool.true_or, Bool.false_or, Bool.or_false, cond_true, cond_false])⟩)
    refine zq_ic hc hH (by rfl) (tg := 68) (by rfl) (fun h4 => ?_) (fun h4 => ?_)
    · have h4 : (decide (((μ.1 14 6) - (μ.1 16 2)) = 1)) = true := decide_eq_true (cm_eq9.mp h4)
      refine z_rcs hc hH 2 (pc' := 73) (lv' := [(3, .int ((μ.1 14 6) - (μ.1 16 2))), (2, .int ((μ.1 16 2) - (μ.1 16 2) / 9 * 9)), (0, .ref 14), (1, .int 2)]) (st' := [.int 2]) (μ' := μ) (by rfl) ?_
      exact zJ hJ2 rfl (by first | with_reducible rfl | (simp only [h4, lb_f, Int64.or_zero, Int32.add_zero, nB_t, nB_f, Bool.not_true, Bool.not_false, Bool.and_true, Bool.true_and, Bool.false_and, Bool.and_false, Bool.or_true, Bool.true_or, Bool.false_or, Bool.or_false, cond_true, cond_false]; done) | rfl) rfl
    · have h4 : (decide (((μ.1 14 6) - (μ.1 16 2)) = 1)) = false := decide_eq_false (cn_eq.mp h4)
      refine z_rcs hc hH 2 (pc' := 51) (lv' := [(3, .int ((μ.1 14 6) - (μ.1 16 2))), (2, .int ((μ.1 16 2) - (μ.1 16 2) / 9 * 9)), (0, .ref 14), (1, .int 2)]) (st' := [.int 2, .int ((μ.1 14 6) - (μ.1 16 2))]) (μ' := μ) (by rfl) ?_
      refine zq_ic hc hH (by rfl) (tg := 58) (by rfl) (fun h5 => ?_) (fun h5 => ?_)
      · have h5 : (decide (((μ.1 14 6) - (μ.1 16 2)) = 2)) = false := decide_eq_false (cm_ne.mp h5)
        refine z_rcs hc hH 1 (pc' := 59) (lv' := [(3, .int ((μ.1 14 6) - (μ.1 16 2))), (2, .int ((μ.1 16 2) - (μ.1 16 2) / 9 * 9)), (0, .ref 14), (1, .int 2)]) (st' := [.int ((μ.1 14 6) - (μ.1 16 2))]) (μ' := μ) (by rfl) ?_
        refine zq_if hc hH (by rfl) (tg := 72) (by rfl) (fun h6 => ?_) (fun h6 => ?_)
        · have h6 : (decide (((μ.1 14 6) - (μ.1 16 2)) = 0)) = false := decide_eq_false (cm_ne.mp h6)
          refine z_rcs hc hH 1 (pc' := 73) (lv' := [(3, .int ((μ.1 14 6) - (μ.1 16 2))), (2, .int ((μ.1 16 2) - (μ.1 16 2) / 9 * 9)), (0, .ref 14), (1, .int 2)]) (st' := [.int 0]) (μ' := μ) (by rfl) ?_
          exact zJ hJ2 rfl (by first | with_reducible rfl | (simp only [h4, h5, h6, lb_f, Int64.or_zero, Int32.add_zero, nB_t, nB_f, Bool.not_true, Bool.not_false, Bool.and_true, Bool.true_and, Bool.false_and, Bool.and_false, Bool.or_true, Bool.true_or, Bool.false_or, Bool.or_false, cond_true, cond_false]; done) | rfl) rfl
        · have h6 : (decide (((μ.1 14 6) - (μ.1 16 2)) = 0)) = true := decide_eq_true (cn_ne.mp h6)
          refine z_rcs hc hH 2 (pc' := 65) (lv' := [(3, .int ((μ.1 14 6) - (μ.1 16 2))), (2, .int ((μ.1 16 2) - (μ.1 16 2) / 9 * 9)), (0, .ref 14), (1, .int 2)]) (st' := [.int 6, .int ((μ.1 16 2) - (μ.1 16 2) / 9 * 9)]) (μ' := μ) (by rfl) ?_
          refine zq_ic hc hH (by rfl) (tg := 72) (by rfl) (fun h7 => ?_) (fun h7 => ?_)
          · have h7 : (decide (((μ.1 16 2) - (μ.1 16 2) / 9 * 9) = 6)) = false := decide_eq_false (cm_ne.mp h7)
            refine z_rcs hc hH 1 (pc' := 73) (lv' := [(3, .int ((μ.1 14 6) - (μ.1 16 2))), (2, .int ((μ.1 16 2) - (μ.1 16 2) / 9 * 9)), (0, .ref 14), (1, .int 2)]) (st' := [.int 0]) (μ' := μ) (by rfl) ?_
            exact zJ hJ2 rfl (by first | with_reducible rfl | (simp only [h4, h5, h6, h7, lb_f, Int64.or_zero, Int32.add_zero, nB_t, nB_f, Bool.not_true, Bool.not_false, Bool.and_true, Bool.true_and, Bool.false_and, Bool.and_false, Bool.or_true, Bool.true_or, Bool.false_or, Bool.or_false, cond_true, cond_false]; done) | rfl) rfl
          · have h7 : (decide (((μ.1 16 2) - (μ.1 16 2) / 9 * 9) = 6)) = true := decide_eq_true (cn_ne.mp h7)
            refine z_rcs hc hH 2 (pc' := 73) (lv' := [(3, .int ((μ.1 14 6) - (μ.1 16 2))), (2, .int ((μ.1 16 2) - (μ.1 16 2) / 9 * 9)), (0, .ref 14), (1, .int 2)]) (st' := [.int 2]) (μ' := μ) (by rfl) ?_
            exact zJ hJ2 rfl (by first | with_reducible rfl | (simp only [h4, h5, h6, h7, lb_f, Int64.or_zero, Int32.add_zero, nB_t, nB_f, Bool.not_true, Bool.not_false, Bool.and_true, Bool.true_and, Bool.false_and, Bool.and_false, Bool.or_true, Bool.true_or, Bool.false_or, Bool.or_false, cond_true, cond_false]; done) | rfl) rfl
      · have h5 : (decide (((μ.1 14 6) - (μ.1 16 2)) = 2)) = true := decide_eq_true (cn_ne.mp h5)
        refine z_rcs hc hH 1 (pc' := 55) (lv' := [(3, .int ((μ.1 14 6) - (μ.1 16 2))), (2, .int ((μ.1 16 2) - (μ.1 16 2) / 9 * 9)), (0, .ref 14), (1, .int 2)]) (st' := [.int ((μ.1 16 2) - (μ.1 16 2) / 9 * 9)]) (μ' := μ) (by rfl) ?_
        refine zq_if hc hH (by rfl) (tg := 68) (by rfl) (fun h8 => ?_) (fun h8 => ?_)
        · have h8 : (decide (((μ.1 16 2) - (μ.1 16 2) / 9 * 9) = 0)) = true := decide_eq_true (cm_eq9.mp h8)
          refine z_rcs hc hH 2 (pc' := 73) (lv' := [(3, .int ((μ.1 14 6) - (μ.1 16 2))), (2, .int ((μ.1 16 2) - (μ.1 16 2) / 9 * 9)), (0, .ref 14), (1, .int 2)]) (st' := [.int 2]) (μ' := μ) (by rfl) ?_
          exact zJ hJ2 rfl (by first | with_reducible rfl | (simp only [h4, h5, h8, lb_f, Int64.or_zero, Int32.add_zero, nB_t, nB_f, Bool.not_true, Bool.not_false, Bool.and_true, Bool.true_and, Bool.false_and, Bool.and_false, Bool.or_true, Bool.true_or, Bool.false_or, Bool.or_false, cond_true, cond_false]; done) | rfl) rfl
        · have h8 : (decide (((μ.1 16 2) - (μ.1 16 2) / 9 * 9) = 0)) = false := decide_eq_false (cn_eq.mp h8)
          refine z_rcs hc hH 1 (pc' := 59) (lv' := [(3, .int ((μ.1 14 6) - (μ.1 16 2))), (2, .int ((μ.1 16 2) - (μ.1 16 2) / 9 * 9)), (0, .ref 14), (1, .int 2)]) (st' := [.int ((μ.1 14 6) - (μ.1 16 2))]) (μ' := μ) (by rfl) ?_
          refine zq_if hc hH (by rfl) (tg := 72) (by rfl) (fun h9 => ?_) (fun h9 => ?_)
          · have h9 : (decide (((μ.1 14 6) - (μ.1 16 2)) = 0)) = false := decide_eq_false (cm_ne.mp h9)
            refine z_rcs hc hH 1 (pc' := 73) (lv' := [(3, .int ((μ.1 14 6) - (μ.1 16 2))), (2, .int ((μ.1 16 2) - (μ.1 16 2) / 9 * 9)), (0, .ref 14), (1, .int 2)]) (st' := [.int 0]) (μ' := μ) (by rfl) ?_
            exact zJ hJ2 rfl (by first | with_reducible rfl | (simp only [h4, h5, h8, h9, lb_f, Int64.or_zero, Int32.add_zero, nB_t, nB_f, Bool.not_true, Bool.not_false, Bool.and_true, Bool.true_and, Bool.false_and, Bool.and_false, Bool.or_true, Bool.true_or, Bool.false_or, Bool.or_false, cond_true, cond_false]; done) | rfl) rfl
          · have h9 : (decide (((μ.1 14 6) - (μ.1 16 2)) = 0)) = true := decide_eq_true (cn_ne.mp h9)
            refine z_rcs hc hH 2 (pc' := 65) (lv' := [(3, .int ((μ.1 14 6) - (μ.1 16 2))), (2, .int ((μ.1 16 2) - (μ.1 16 2) / 9 * 9)), (0, .ref 14), (1, .int 2)]) (st' := [.int 6, .int ((μ.1 16 2) - (μ.1 16 2) / 9 * 9)]) (μ' := μ) (by rfl) ?_
            refine zq_ic hc hH (by rfl) (tg := 72) (by rfl) (fun h10 => ?_) (fun h10 => ?_)
            · have h10 : (decide (((μ.1 16 2) - (μ.1 16 2) / 9 * 9) = 6)) = false := decide_eq_false (cm_ne.mp h10)
              refine z_rcs hc hH 1 (pc' := 73) (lv' := [(3, .int ((μ.1 14 6) - (μ.1 16 2))), (2, .int ((μ.1 16 2) - (μ.1 16 2) / 9 * 9)), (0, .ref 14), (1, .int 2)]) (st' := [.int 0]) (μ' := μ) (by rfl) ?_
              exact zJ hJ2 rfl (by first | with_reducible rfl | (simp only [h4, h5, h8, h9, h10, lb_f, Int64.or_zero, Int32.add_zero, nB_t, nB_f, Bool.not_true, Bool.not_false, Bool.and_true, Bool.true_and, Bool.false_and, Bool.and_false, Bool.or_true, Bool.true_or, Bool.false_or, Bool.or_false, cond_true, cond_false]; done) | rfl) rfl
            · have h10 : (decide (((μ.1 16 2) - (μ.1 16 2) / 9 * 9) = 6)) = true := decide_eq_true (cn_ne.mp h10)
              refine z_rcs hc hH 2 (pc' := 73) (lv' := [(3, .int ((μ.1 14 6) - (μ.1 16 2))), (2, .int ((μ.1 16 2) - (μ.1 16 2) / 9 * 9)), (0, .ref 14), (1, .int 2)]) (st' := [.int 2]) (μ' := μ) (by rfl) ?_
              exact zJ hJ2 rfl (by first | with_reducible rfl | (simp only [h4, h5, h8, h9, h10, lb_f, Int64.or_zero, Int32.add_zero, nB_t, nB_f, Bool.not_true, Bool.not_false, Bool.and_true, Bool.true_and, Bool.false_and, Bool.and_false, Bool.or_true, Bool.true_or, Bool.false_or, Bool.or_false, cond_true, cond_false]; done) | rfl) rfl
  · have h1 : (decide ((μ.1 15 2) = 0)) = false := decide_eq_false (cn_eq.mp h1)
    refine z_rcs hc hH 1 (pc' := 21) (lv' := [(0, .ref 14), (1, .int 2)]) (st' := [.int 0]) (μ' := μ) (by rfl) ?_
    exact hr 0 21 _ _ _ (some (.int 0)) (by decide +kernel) (z_rx_ok hH (by rfl)) (⟨rfl, (by simp only [h1, lb_f, Int64.or_zero, Int32.add_zero, nB_t, nB_f, Bool.not_true, Bool.not_false, Bool.and_true, Bool.true_and, Bool.false_and, Bool.and_false, Bool.or_true, Bool.true_or, Bool.false_or, Bool.or_false, cond_true, cond_false])⟩)
theorem fb_X1_waitFu_3 (d : Nat) (hd : 1 ≤ d) (μ : zM) : z_C d mi_X1_waitFu [.ref 14, .int 3] μ (zR μ (.int (bif decide ((μ.1 15 3) = 0) then bif decide (((μ.1 14 6) - (μ.1 16 3)) = 1) then (2 : Int32) else bif decide (((μ.1 14 6) - (μ.1 16 3)) = 2) then bif decide (((μ.1 16 3) - (μ.1 16 3) / 9 * 9) = 0) then (2 : Int32) else bif decide (((μ.1 14 6) - (μ.1 16 3)) = 0) then bif decide (((μ.1 16 3) - (μ.1 16 3) / 9 * 9) = 6) then (2 : Int32) else 0 else 0 else bif decide (((μ.1 14 6) - (μ.1 16 3)) = 0) then bif decide (((μ.1 16 3) - (μ.1 16 3) / 9 * 9) = 6) then (2 : Int32) else 0 else 0 else 0))) := by
  refine z_C_in (by decide) (by omega) (fun d' Z ed hc hr => ?_)
  have hH : zH mi_X1_waitFu zt_X1_waitFu 79 1 4 := hh_X1_waitFu
  refine z_rcs hc hH 8 (pc' := 16) (lv' := [(0, .ref 14), (1, .int 3)]) (st' := [.int 3, .ref 15]) (μ' := μ) (by rfl) ?_
  refine zq_iald hc hH (by rfl) 4 (by decide +kernel) (show vp_in (nI 3) 4 from vp_in_nI (by decide) (by decide)) ?_
  show Z 0 17 [(0, .ref 14), (1, .int 3)] [.int (μ.1 15 3)] μ
  refine zq_if hc hH (by rfl) (tg := 22) (by rfl) (fun h1 => ?_) (fun h1 => ?_)
  · have h1 : (decide ((μ.1 15 3) = 0)) = true := decide_eq_true (cm_eq9.mp h1)
    refine z_rcs hc hH 3 (pc' := 27) (lv' := [(0, .ref 14), (1, .int 3)]) (st' := [.int 3, .ref 16]) (μ' := μ) (by rfl) ?_
    refine zq_iald hc hH (by rfl) 4 (by decide +kernel) (show vp_in (nI 3) 4 from vp_in_nI (by decide) (by decide)) ?_
    show Z 0 28 [(0, .ref 14), (1, .int 3)] [.int (μ.1 16 3)] μ
    refine z_rcs hc hH 8 (pc' := 41) (lv' := [(2, .int ((μ.1 16 3) - (μ.1 16 3) / 9 * 9)), (0, .ref 14), (1, .int 3)]) (st' := [.int 3, .ref 16, .int (μ.1 14 6)]) (μ' := μ) (by rfl) ?_
    refine zq_iald hc hH (by rfl) 4 (by decide +kernel) (show vp_in (nI 3) 4 from vp_in_nI (by decide) (by decide)) ?_
    show Z 0 42 [(2, .int ((μ.1 16 3) - (μ.1 16 3) / 9 * 9)), (0, .ref 14), (1, .int 3)] [.int (μ.1 16 3), .int (μ.1 14 6)] μ
    refine z_rcs hc hH 4 (pc' := 46) (lv' := [(3, .int ((μ.1 14 6) - (μ.1 16 3))), (2, .int ((μ.1 16 3) - (μ.1 16 3) / 9 * 9)), (0, .ref 14), (1, .int 3)]) (st' := [.int 1, .int ((μ.1 14 6) - (μ.1 16 3))]) (μ' := μ) (by rfl) ?_
    have hJ2 : Z 0 73 [(3, .int ((μ.1 14 6) - (μ.1 16 3))), (2, .int ((μ.1 16 3) - (μ.1 16 3) / 9 * 9)), (0, .ref 14), (1, .int 3)] [.int (bif decide (((μ.1 14 6) - (μ.1 16 3)) = 1) then (2 : Int32) else bif decide (((μ.1 14 6) - (μ.1 16 3)) = 2) then bif decide (((μ.1 16 3) - (μ.1 16 3) / 9 * 9) = 0) then (2 : Int32) else bif decide (((μ.1 14 6) - (μ.1 16 3)) = 0) then bif decide (((μ.1 16 3) - (μ.1 16 3) / 9 * 9) = 6) then (2 : Int32) else 0 else 0 else bif decide (((μ.1 14 6) - (μ.1 16 3)) = 0) then bif decide (((μ.1 16 3) - (μ.1 16 3) / 9 * 9) = 6) then (2 : Int32) else 0 else 0)] μ := by
      generalize hyy3 : (bif decide (((μ.1 14 6) - (μ.1 16 3)) = 1) then (2 : Int32) else bif decide (((μ.1 14 6) - (μ.1 16 3)) = 2) then bif decide (((μ.1 16 3) - (μ.1 16 3) / 9 * 9) = 0) then (2 : Int32) else bif decide (((μ.1 14 6) - (μ.1 16 3)) = 0) then bif decide (((μ.1 16 3) - (μ.1 16 3) / 9 * 9) = 6) then (2 : Int32) else 0 else 0 else bif decide (((μ.1 14 6) - (μ.1 16 3)) = 0) then bif decide (((μ.1 16 3) - (μ.1 16 3) / 9 * 9) = 6) then (2 : Int32) else 0 else 0 : Int32) = yy3
      exact hr 0 73 _ _ _ (some (.int yy3)) (by decide +kernel) (z_rx_ok hH (by rfl)) (⟨rfl, (by try rw [hyy3]; simp only [h1, lb_f, Int64.or_zero, Int32.add_zero, nB_t, nB_f, Bool.not_true, Bool.not_false, Bool.and_true, Bool.true_and, Bool.false_and, Bool.and_false, Bool.or_true, Bool.true_or, Bool.false_or, Bool.or_false, cond_true, cond_false])⟩)
    refine zq_ic hc hH (by rfl) (tg := 68) (by rfl) (fun h4 => ?_) (fun h4 => ?_)
    · have h4 : (decide (((μ.1 14 6) - (μ.1 16 3)) = 1)) = true := decide_eq_true (cm_eq9.mp h4)
      refine z_rcs hc hH 2 (pc' := 73) (lv' := [(3, .int ((μ.1 14 6) - (μ.1 16 3))), (2, .int ((μ.1 16 3) - (μ.1 16 3) / 9 * 9)), (0, .ref 14), (1, .int 3)]) (st' := [.int 2]) (μ' := μ) (by rfl) ?_
      exact zJ hJ2 rfl (by first | with_reducible rfl | (simp only [h4, lb_f, Int64.or_zero, Int32.add_zero, nB_t, nB_f, Bool.not_true, Bool.not_false, Bool.and_true, Bool.true_and, Bool.false_and, Bool.and_false, Bool.or_true, Bool.true_or, Bool.false_or, Bool.or_false, cond_true, cond_false]; done) | rfl) rfl
    · have h4 : (decide (((μ.1 14 6) - (μ.1 16 3)) = 1)) = false := decide_eq_false (cn_eq.mp h4)
      refine z_rcs hc hH 2 (pc' := 51) (lv' := [(3, .int ((μ.1 14 6) - (μ.1 16 3))), (2, .int ((μ.1 16 3) - (μ.1 16 3) / 9 * 9)), (0, .ref 14), (1, .int 3)]) (st' := [.int 2, .int ((μ.1 14 6) - (μ.1 16 3))]) (μ' := μ) (by rfl) ?_
      refine zq_ic hc hH (by rfl) (tg := 58) (by rfl) (fun h5 => ?_) (fun h5 => ?_)
      · have h5 : (decide (((μ.1 14 6) - (μ.1 16 3)) = 2)) = false := decide_eq_false (cm_ne.mp h5)
        refine z_rcs hc hH 1 (pc' := 59) (lv' := [(3, .int ((μ.1 14 6) - (μ.1 16 3))), (2, .int ((μ.1 16 3) - (μ.1 16 3) / 9 * 9)), (0, .ref 14), (1, .int 3)]) (st' := [.int ((μ.1 14 6) - (μ.1 16 3))]) (μ' := μ) (by rfl) ?_
        refine zq_if hc hH (by rfl) (tg := 72) (by rfl) (fun h6 => ?_) (fun h6 => ?_)
        · have h6 : (decide (((μ.1 14 6) - (μ.1 16 3)) = 0)) = false := decide_eq_false (cm_ne.mp h6)
          refine z_rcs hc hH 1 (pc' := 73) (lv' := [(3, .int ((μ.1 14 6) - (μ.1 16 3))), (2, .int ((μ.1 16 3) - (μ.1 16 3) / 9 * 9)), (0, .ref 14), (1, .int 3)]) (st' := [.int 0]) (μ' := μ) (by rfl) ?_
          exact zJ hJ2 rfl (by first | with_reducible rfl | (simp only [h4, h5, h6, lb_f, Int64.or_zero, Int32.add_zero, nB_t, nB_f, Bool.not_true, Bool.not_false, Bool.and_true, Bool.true_and, Bool.false_and, Bool.and_false, Bool.or_true, Bool.true_or, Bool.false_or, Bool.or_false, cond_true, cond_false]; done) | rfl) rfl
        · have h6 : (decide (((μ.1 14 6) - (μ.1 16 3)) = 0)) = true := decide_eq_true (cn_ne.mp h6)
          refine z_rcs hc hH 2 (pc' := 65) (lv' := [(3, .int ((μ.1 14 6) - (μ.1 16 3))), (2, .int ((μ.1 16 3) - (μ.1 16 3) / 9 * 9)), (0, .ref 14), (1, .int 3)]) (st' := [.int 6, .int ((μ.1 16 3) - (μ.1 16 3) / 9 * 9)]) (μ' := μ) (by rfl) ?_
          refine zq_ic hc hH (by rfl) (tg := 72) (by rfl) (fun h7 => ?_) (fun h7 => ?_)
          · have h7 : (decide (((μ.1 16 3) - (μ.1 16 3) / 9 * 9) = 6)) = false := decide_eq_false (cm_ne.mp h7)
            refine z_rcs hc hH 1 (pc' := 73) (lv' := [(3, .int ((μ.1 14 6) - (μ.1 16 3))), (2, .int ((μ.1 16 3) - (μ.1 16 3) / 9 * 9)), (0, .ref 14), (1, .int 3)]) (st' := [.int 0]) (μ' := μ) (by rfl) ?_
            exact zJ hJ2 rfl (by first | with_reducible rfl | (simp only [h4, h5, h6, h7, lb_f, Int64.or_zero, Int32.add_zero, nB_t, nB_f, Bool.not_true, Bool.not_false, Bool.and_true, Bool.true_and, Bool.false_and, Bool.and_false, Bool.or_true, Bool.true_or, Bool.false_or, Bool.or_false, cond_true, cond_false]; done) | rfl) rfl
          · have h7 : (decide (((μ.1 16 3) - (μ.1 16 3) / 9 * 9) = 6)) = true := decide_eq_true (cn_ne.mp h7)
            refine z_rcs hc hH 2 (pc' := 73) (lv' := [(3, .int ((μ.1 14 6) - (μ.1 16 3))), (2, .int ((μ.1 16 3) - (μ.1 16 3) / 9 * 9)), (0, .ref 14), (1, .int 3)]) (st' := [.int 2]) (μ' := μ) (by rfl) ?_
            exact zJ hJ2 rfl (by first | with_reducible rfl | (simp only [h4, h5, h6, h7, lb_f, Int64.or_zero, Int32.add_zero, nB_t, nB_f, Bool.not_true, Bool.not_false, Bool.and_true, Bool.true_and, Bool.false_and, Bool.and_false, Bool.or_true, Bool.true_or, Bool.false_or, Bool.or_false, cond_true, cond_false]; done) | rfl) rfl
      · have h5 : (decide (((μ.1 14 6) - (μ.1 16 3)) = 2)) = true := decide_eq_true (cn_ne.mp h5)
        refine z_rcs hc hH 1 (pc' := 55) (lv' := [(3, .int ((μ.1 14 6) - (μ.1 16 3))), (2, .int ((μ.1 16 3) - (μ.1 16 3) / 9 * 9)), (0, .ref 14), (1, .int 3)]) (st' := [.int ((μ.1 16 3) - (μ.1 16 3) / 9 * 9)]) (μ' := μ) (by rfl) ?_
        refine zq_if hc hH (by rfl) (tg := 68) (by rfl) (fun h8 => ?_) (fun h8 => ?_)
        · have h8 : (decide (((μ.1 16 3) - (μ.1 16 3) / 9 * 9) = 0)) = true := decide_eq_true (cm_eq9.mp h8)
          refine z_rcs hc hH 2 (pc' := 73) (lv' := [(3, .int ((μ.1 14 6) - (μ.1 16 3))), (2, .int ((μ.1 16 3) - (μ.1 16 3) / 9 * 9)), (0, .ref 14), (1, .int 3)]) (st' := [.int 2]) (μ' := μ) (by rfl) ?_
          exact zJ hJ2 rfl (by first | with_reducible rfl | (simp only [h4, h5, h8, lb_f, Int64.or_zero, Int32.add_zero, nB_t, nB_f, Bool.not_true, Bool.not_false, Bool.and_true, Bool.true_and, Bool.false_and, Bool.and_false, Bool.or_true, Bool.true_or, Bool.false_or, Bool.or_false, cond_true, cond_false]; done) | rfl) rfl
        · have h8 : (decide (((μ.1 16 3) - (μ.1 16 3) / 9 * 9) = 0)) = false := decide_eq_false (cn_eq.mp h8)
          refine z_rcs hc hH 1 (pc' := 59) (lv' := [(3, .int ((μ.1 14 6) - (μ.1 16 3))), (2, .int ((μ.1 16 3) - (μ.1 16 3) / 9 * 9)), (0, .ref 14), (1, .int 3)]) (st' := [.int ((μ.1 14 6) - (μ.1 16 3))]) (μ' := μ) (by rfl) ?_
          refine zq_if hc hH (by rfl) (tg := 72) (by rfl) (fun h9 => ?_) (fun h9 => ?_)
          · have h9 : (decide (((μ.1 14 6) - (μ.1 16 3)) = 0)) = false := decide_eq_false (cm_ne.mp h9)
            refine z_rcs hc hH 1 (pc' := 73) (lv' := [(3, .int ((μ.1 14 6) - (μ.1 16 3))), (2, .int ((μ.1 16 3) - (μ.1 16 3) / 9 * 9)), (0, .ref 14), (1, .int 3)]) (st' := [.int 0]) (μ' := μ) (by rfl) ?_
            exact zJ hJ2 rfl (by first | with_reducible rfl | (simp only [h4, h5, h8, h9, lb_f, Int64.or_zero, Int32.add_zero, nB_t, nB_f, Bool.not_true, Bool.not_false, Bool.and_true, Bool.true_and, Bool.false_and, Bool.and_false, Bool.or_true, Bool.true_or, Bool.false_or, Bool.or_false, cond_true, cond_false]; done) | rfl) rfl
          · have h9 : (decide (((μ.1 14 6) - (μ.1 16 3)) = 0)) = true := decide_eq_true (cn_ne.mp h9)
            refine z_rcs hc hH 2 (pc' := 65) (lv' := [(3, .int ((μ.1 14 6) - (μ.1 16 3))), (2, .int ((μ.1 16 3) - (μ.1 16 3) / 9 * 9)), (0, .ref 14), (1, .int 3)]) (st' := [.int 6, .int ((μ.1 16 3) - (μ.1 16 3) / 9 * 9)]) (μ' := μ) (by rfl) ?_
            refine zq_ic hc hH (by rfl) (tg := 72) (by rfl) (fun h10 => ?_) (fun h10 => ?_)
            · have h10 : (decide (((μ.1 16 3) - (μ.1 16 3) / 9 * 9) = 6)) = false := decide_eq_false (cm_ne.mp h10)
              refine z_rcs hc hH 1 (pc' := 73) (lv' := [(3, .int ((μ.1 14 6) - (μ.1 16 3))), (2, .int ((μ.1 16 3) - (μ.1 16 3) / 9 * 9)), (0, .ref 14), (1, .int 3)]) (st' := [.int 0]) (μ' := μ) (by rfl) ?_
              exact zJ hJ2 rfl (by first | with_reducible rfl | (simp only [h4, h5, h8, h9, h10, lb_f, Int64.or_zero, Int32.add_zero, nB_t, nB_f, Bool.not_true, Bool.not_false, Bool.and_true, Bool.true_and, Bool.false_and, Bool.and_false, Bool.or_true, Bool.true_or, Bool.false_or, Bool.or_false, cond_true, cond_false]; done) | rfl) rfl
            · have h10 : (decide (((μ.1 16 3) - (μ.1 16 3) / 9 * 9) = 6)) = true := decide_eq_true (cn_ne.mp h10)
              refine z_rcs hc hH 2 (pc' := 73) (lv' := [(3, .int ((μ.1 14 6) - (μ.1 16 3))), (2, .int ((μ.1 16 3) - (μ.1 16 3) / 9 * 9)), (0, .ref 14), (1, .int 3)]) (st' := [.int 2]) (μ' := μ) (by rfl) ?_
              exact zJ hJ2 rfl (by first | with_reducible rfl | (simp only [h4, h5, h8, h9, h10, lb_f, Int64.or_zero, Int32.add_zero, nB_t, nB_f, Bool.not_true, Bool.not_false, Bool.and_true, Bool.true_and, Bool.false_and, Bool.and_false, Bool.or_true, Bool.true_or, Bool.false_or, Bool.or_false, cond_true, cond_false]; done) | rfl) rfl
  · have h1 : (decide ((μ.1 15 3) = 0)) = false := decide_eq_false (cn_eq.mp h1)
    refine z_rcs hc hH 1 (pc' := 21) (lv' := [(0, .ref 14), (1, .int 3)]) (st' := [.int 0]) (μ' := μ) (by rfl) ?_
    exact hr 0 21 _ _ _ (some (.int 0)) (by decide +kernel) (z_rx_ok hH (by rfl)) (⟨rfl, (by simp only [h1, lb_f, Int64.or_zero, Int32.add_zero, nB_t, nB_f, Bool.not_true, Bool.not_false, Bool.and_true, Bool.true_and, Bool.false_and, Bool.and_false, Bool.or_true, Bool.true_or, Bool.false_or, Bool.or_false, cond_true, cond_false])⟩)
theorem fb_X1_waitFu_4 (d : Nat) (hd : 1 ≤ d) (μ : zM) : z_C d mi_X1_waitFu [.ref 14, .int 4] μ (zR μ (.int 2)) := by
  refine z_C_in (by decide) (by omega) (fun d' Z ed hc hr => ?_)
  have hH : zH mi_X1_waitFu zt_X1_waitFu 79 1 4 := hh_X1_waitFu
  refine z_rcs hc hH 6 (pc' := 10) (lv' := [(0, .ref 14), (1, .int 4)]) (st' := [.int 2]) (μ' := μ) (by rfl) ?_
  exact hr 0 10 _ _ _ (some (.int 2)) (by decide +kernel) (z_rx_ok hH (by rfl)) (⟨rfl, (by rfl)⟩)
theorem fb_X1_endForms (d : Nat) (hd : 2 ≤ d) (μ : zM) : z_C d mi_X1_endForms [.ref 14] μ (zR μ (.long ((lb ((((((xHd 17113154305 (μ.1 14 15)) && (!(decide ((lg_cmp (((bif decide ((μ.1 15 0) = 0) then (7 : Int64) else 1) <<< ((μ.1 16 0).toInt64 &&& 63)) &&& 17113154305) 0) = 0)))) && (!(decide ((lg_cmp (((bif decide ((μ.1 15 1) = 0) then (7 : Int64) else 1) <<< ((μ.1 16 1).toInt64 &&& 63)) &&& 17113154305) 0) = 0)))) && (!(decide ((lg_cmp (((bif decide ((μ.1 15 2) = 0) then (7 : Int64) else 1) <<< ((μ.1 16 2).toInt64 &&& 63)) &&& 17113154305) 0) = 0)))) && (!(decide ((lg_cmp (((bif decide ((μ.1 15 3) = 0) then (7 : Int64) else 1) <<< ((μ.1 16 3).toInt64 &&& 63)) &&& 17113154305) 0) = 0)))) && (((xHd 17045651456 (μ.1 14 15)) || (!(decide ((lg_cmp ((μ.2.1 14 17) &&& 17045651456) 0) = 0)))) && (!(decide ((lg_cmp (μ.2.1 14 16) 0) = 0))))) 23) ||| (lb ((((((xHd 67502849 (μ.1 14 15)) && (!(decide ((lg_cmp (((bif decide ((μ.1 15 0) = 0) then (7 : Int64) else 1) <<< ((μ.1 16 0).toInt64 &&& 63)) &&& 67502849) 0) = 0)))) && (!(decide ((lg_cmp (((bif decide ((μ.1 15 1) = 0) then (7 : Int64) else 1) <<< ((μ.1 16 1).toInt64 &&& 63)) &&& 67502849) 0) = 0)))) && (!(decide ((lg_cmp (((bif decide ((μ.1 15 2) = 0) then (7 : Int64) else 1) <<< ((μ.1 16 2).toInt64 &&& 63)) &&& 67502849) 0) = 0)))) && (!(decide ((lg_cmp (((bif decide ((μ.1 15 3) = 0) then (7 : Int64) else 1) <<< ((μ.1 16 3).toInt64 &&& 63)) &&& 67502849) 0) = 0)))) && (!(decide ((lg_cmp (μ.2.1 14 16) 0) = 0)))) 27)))) := by
  refine z_C_in (by decide) (by omega) (fun d' Z ed hc hr => ?_)
  have hH : zH mi_X1_endForms zt_X1_endForms 79 1 7 := hh_X1_endForms
  refine z_rcs hc hH 3 (pc' := 7) (lv' := [(0, .ref 14)]) (st' := [.int (μ.1 14 15), .long 17113154305]) (μ' := μ) (by rfl) ?_
  refine zq_call hc (z_cx_ok hH (by rfl)) (fb_X6_holds d' (by omega) μ (17113154305 : Int64) (μ.1 14 15)) (by decide +kernel) (fun r9 μ9 hq => ?_)
  obtain ⟨hμ9, rfl⟩ := hq
  rw [hμ9]
  clear hμ9 μ9
  show Z 0 10 [(0, .ref 14)] [.int (nB (xHd 17113154305 (μ.1 14 15)))] μ
  refine z_rcs hc hH 4 (pc' := 18) (lv' := [(1, .int (nB (xHd 17113154305 (μ.1 14 15)))), (0, .ref 14)]) (st' := [.int (μ.1 14 15), .long 67502849]) (μ' := μ) (by rfl) ?_
  refine zq_call hc (z_cx_ok hH (by rfl)) (fb_X6_holds d' (by omega) μ (67502849 : Int64) (μ.1 14 15)) (by decide +kernel) (fun r9 μ9 hq => ?_)
  obtain ⟨hμ9, rfl⟩ := hq
  rw [hμ9]
  clear hμ9 μ9
  show Z 0 21 [(1, .int (nB (xHd 17113154305 (μ.1 14 15)))), (0, .ref 14)] [.int (nB (xHd 67502849 (μ.1 14 15)))] μ
  refine z_rcs hc hH 4 (pc' := 29) (lv' := [(2, .int (nB (xHd 67502849 (μ.1 14 15)))), (1, .int (nB (xHd 17113154305 (μ.1 14 15)))), (0, .ref 14)]) (st' := [.int (μ.1 14 15), .long 17045651456]) (μ' := μ) (by rfl) ?_
  refine zq_call hc (z_cx_ok hH (by rfl)) (fb_X6_holds d' (by omega) μ (17045651456 : Int64) (μ.1 14 15)) (by decide +kernel) (fun r9 μ9 hq => ?_)
  obtain ⟨hμ9, rfl⟩ := hq
  rw [hμ9]
  clear hμ9 μ9
  show Z 0 32 [(2, .int (nB (xHd 67502849 (μ.1 14 15)))), (1, .int (nB (xHd 17113154305 (μ.1 14 15)))), (0, .ref 14)] [.int (nB (xHd 17045651456 (μ.1 14 15)))] μ
  have hJ1 : Z 0 53 [(2, .int (nB (xHd 67502849 (μ.1 14 15)))), (1, .int (nB (xHd 17113154305 (μ.1 14 15)))), (0, .ref 14)] [.int (nB ((xHd 17045651456 (μ.1 14 15)) || (!(decide ((lg_cmp ((μ.2.1 14 17) &&& 17045651456) 0) = 0)))))] μ := by
    generalize hee2 : ((xHd 17045651456 (μ.1 14 15)) || (!(decide ((lg_cmp ((μ.2.1 14 17) &&& 17045651456) 0) = 0)))) = ee2
    refine z_rcs hc hH 9 (pc' := 69) (lv' := [(4, .int 0), (3, .int (nB ee2)), (2, .int (nB (xHd 67502849 (μ.1 14 15)))), (1, .int (nB (xHd 17113154305 (μ.1 14 15)))), (0, .ref 14)]) (st' := [.int 0, .ref 15]) (μ' := μ) (by rfl) ?_
    refine zq_iald hc hH (by rfl) 4 (by decide +kernel) (show vp_in (nI 0) 4 from vp_in_nI (by decide) (by decide)) ?_
    show Z 0 70 [(4, .int 0), (3, .int (nB ee2)), (2, .int (nB (xHd 67502849 (μ.1 14 15)))), (1, .int (nB (xHd 17113154305 (μ.1 14 15)))), (0, .ref 14)] [.int (μ.1 15 0)] μ
    have hJ3 : Z 0 80 [(4, .int 0), (3, .int (nB ee2)), (2, .int (nB (xHd 67502849 (μ.1 14 15)))), (1, .int (nB (xHd 17113154305 (μ.1 14 15)))), (0, .ref 14)] [.long (bif decide ((μ.1 15 0) = 0) then (7 : Int64) else 1)] μ := by
      refine z_rcs hc hH 3 (pc' := 86) (lv' := [(4, .int 0), (3, .int (nB ee2)), (2, .int (nB (xHd 67502849 (μ.1 14 15)))), (1, .int (nB (xHd 17113154305 (μ.1 14 15)))), (0, .ref 14)]) (st' := [.int 0, .ref 16, .long (bif decide ((μ.1 15 0) = 0) then (7 : Int64) else 1)]) (μ' := μ) (by rfl) ?_
      refine zq_iald hc hH (by rfl) 4 (by decide +kernel) (show vp_in (nI 0) 4 from vp_in_nI (by decide) (by decide)) ?_
      show Z 0 87 [(4, .int 0), (3, .int (nB ee2)), (2, .int (nB (xHd 67502849 (μ.1 14 15)))), (1, .int (nB (xHd 17113154305 (μ.1 14 15)))), (0, .ref 14)] [.int (μ.1 16 0), .long (bif decide ((μ.1 15 0) = 0) then (7 : Int64) else 1)] μ
      refine z_rcs hc hH 3 (pc' := 91) (lv' := [(5, .long ((bif decide ((μ.1 15 0) = 0) then (7 : Int64) else 1) <<< ((μ.1 16 0).toInt64 &&& 63))), (4, .int 0), (3, .int (nB ee2)), (2, .int (nB (xHd 67502849 (μ.1 14 15)))), (1, .int (nB (xHd 17113154305 (μ.1 14 15)))), (0, .ref 14)]) (st' := [.int (nB (xHd 17113154305 (μ.1 14 15)))]) (μ' := μ) (by rfl) ?_
      have hJ4 : Z 0 110 [(5, .long ((bif decide ((μ.1 15 0) = 0) then (7 : Int64) else 1) <<< ((μ.1 16 0).toInt64 &&& 63))), (4, .int 0), (3, .int (nB ee2)), (2, .int (nB (xHd 67502849 (μ.1 14 15)))), (1, .int (nB (xHd 17113154305 (μ.1 14 15)))), (0, .ref 14)] [.int (nB ((xHd 17113154305 (μ.1 14 15)) && (!(decide ((lg_cmp (((bif decide ((μ.1 15 0) = 0) then (7 : Int64) else 1) <<< ((μ.1 16 0).toInt64 &&& 63)) &&& 17113154305) 0) = 0)))))] μ := by
        generalize hyy5 : ((bif decide ((μ.1 15 0) = 0) then (7 : Int64) else 1) <<< ((μ.1 16 0).toInt64 &&& 63) : Int64) = yy5
        generalize hee6 : ((xHd 17113154305 (μ.1 14 15)) && (!(decide ((lg_cmp (yy5 &&& 17113154305) 0) = 0)))) = ee6
        refine z_rcs hc hH 2 (pc' := 112) (lv' := [(1, .int (nB ee6)), (5, .long yy5), (4, .int 0), (3, .int (nB ee2)), (2, .int (nB (xHd 67502849 (μ.1 14 15)))), (0, .ref 14)]) (st' := [.int (nB (xHd 67502849 (μ.1 14 15)))]) (μ' := μ) (by rfl) ?_
        have hJ7 : Z 0 131 [(1, .int (nB ee6)), (5, .long yy5), (4, .int 0), (3, .int (nB ee2)), (2, .int (nB (xHd 67502849 (μ.1 14 15)))), (0, .ref 14)] [.int (nB ((xHd 67502849 (μ.1 14 15)) && (!(decide ((lg_cmp (yy5 &&& 67502849) 0) = 0)))))] μ := by
          generalize hee8 : ((xHd 67502849 (μ.1 14 15)) && (!(decide ((lg_cmp (yy5 &&& 67502849) 0) = 0)))) = ee8
          refine z_rcs hc hH 9 (pc' := 69) (lv' := [(4, .int 1), (2, .int (nB ee8)), (1, .int (nB ee6)), (5, .long yy5), (3, .int (nB ee2)), (0, .ref 14)]) (st' := [.int 1, .ref 15]) (μ' := μ) (by rfl) ?_
          refine zq_iald hc hH (by rfl) 4 (by decide +kernel) (show vp_in (nI 1) 4 from vp_in_nI (by decide) (by decide)) ?_
          show Z 0 70 [(4, .int 1), (2, .int (nB ee8)), (1, .int (nB ee6)), (5, .long yy5), (3, .int (nB ee2)), (0, .ref 14)] [.int (μ.1 15 1)] μ
          have hJ9 : Z 0 80 [(4, .int 1), (2, .int (nB ee8)), (1, .int (nB ee6)), (5, .long yy5), (3, .int (nB ee2)), (0, .ref 14)] [.long (bif decide ((μ.1 15 1) = 0) then (7 : Int64) else 1)] μ := by
            refine z_rcs hc hH 3 (pc' := 86) (lv' := [(4, .int 1), (2, .int (nB ee8)), (1, .int (nB ee6)), (5, .long yy5), (3, .int (nB ee2)), (0, .ref 14)]) (st' := [.int 1, .ref 16, .long (bif decide ((μ.1 15 1) = 0) then (7 : Int64) else 1)]) (μ' := μ) (by rfl) ?_
            refine zq_iald hc hH (by rfl) 4 (by decide +kernel) (show vp_in (nI 1) 4 from vp_in_nI (by decide) (by decide)) ?_
            show Z 0 87 [(4, .int 1), (2, .int (nB ee8)), (1, .int (nB ee6)), (5, .long yy5), (3, .int (nB ee2)), (0, .ref 14)] [.int (μ.1 16 1), .long (bif decide ((μ.1 15 1) = 0) then (7 : Int64) else 1)] μ
            refine z_rcs hc hH 3 (pc' := 91) (lv' := [(5, .long ((bif decide ((μ.1 15 1) = 0) then (7 : Int64) else 1) <<< ((μ.1 16 1).toInt64 &&& 63))), (4, .int 1), (2, .int (nB ee8)), (1, .int (nB ee6)), (3, .int (nB ee2)), (0, .ref 14)]) (st' := [.int (nB ee6)]) (μ' := μ) (by rfl) ?_
            have hJ10 : Z 0 110 [(5, .long ((bif decide ((μ.1 15 1) = 0) then (7 : Int64) else 1) <<< ((μ.1 16 1).toInt64 &&& 63))), (4, .int 1), (2, .int (nB ee8)), (1, .int (nB ee6)), (3, .int (nB ee2)), (0, .ref 14)] [.int (nB (ee6 && (!(decide ((lg_cmp (((bif decide ((μ.1 15 1) = 0) then (7 : Int64) else 1) <<< ((μ.1 16 1).toInt64 &&& 63)) &&& 17113154305) 0) = 0)))))] μ := by
              generalize hyy11 : ((bif decide ((μ.1 15 1) = 0) then (7 : Int64) else 1) <<< ((μ.1 16 1).toInt64 &&& 63) : Int64) = yy11
              refine z_rcs hc hH 2 (pc' := 112) (lv' := [(1, .int (nB (ee6 && (!(decide ((lg_cmp (yy11 &&& 17113154305) 0) = 0)))))), (5, .long yy11), (4, .int 1), (2, .int (nB ee8)), (3, .int (nB ee2)), (0, .ref 14)]) (st' := [.int (nB ee8)]) (μ' := μ) (by rfl) ?_
              have hJ12 : Z 0 131 [(1, .int (nB (ee6 && (!(decide ((lg_cmp (yy11 &&& 17113154305) 0) = 0)))))), (5, .long yy11), (4, .int 1), (2, .int (nB ee8)), (3, .int (nB ee2)), (0, .ref 14)] [.int (nB (ee8 && (!(decide ((lg_cmp (yy11 &&& 67502849) 0) = 0)))))] μ := by
                refine z_rcs hc hH 9 (pc' := 69) (lv' := [(4, .int 2), (2, .int (nB (ee8 && (!(decide ((lg_cmp (yy11 &&& 67502849) 0) = 0)))))), (1, .int (nB (ee6 && (!(decide ((lg_cmp (yy11 &&& 17113154305) 0) = 0)))))), (5, .long yy11), (3, .int (nB ee2)), (0, .ref 14)]) (st' := [.int 2, .ref 15]) (μ' := μ) (by rfl) ?_
                refine zq_iald hc hH (by rfl) 4 (by decide +kernel) (show vp_in (nI 2) 4 from vp_in_nI (by decide) (by decide)) ?_
                show Z 0 70 [(4, .int 2), (2, .int (nB (ee8 && (!(decide ((lg_cmp (yy11 &&& 67502849) 0) = 0)))))), (1, .int (nB (ee6 && (!(decide ((lg_cmp (yy11 &&& 17113154305) 0) = 0)))))), (5, .long yy11), (3, .int (nB ee2)), (0, .ref 14)] [.int (μ.1 15 2)] μ
                have hJ13 : Z 0 80 [(4, .int 2), (2, .int (nB (ee8 && (!(decide ((lg_cmp (yy11 &&& 67502849) 0) = 0)))))), (1, .int (nB (ee6 && (!(decide ((lg_cmp (yy11 &&& 17113154305) 0) = 0)))))), (5, .long yy11), (3, .int (nB ee2)), (0, .ref 14)] [.long (bif decide ((μ.1 15 2) = 0) then (7 : Int64) else 1)] μ := by
                  refine z_rcs hc hH 3 (pc' := 86) (lv' := [(4, .int 2), (2, .int (nB (ee8 && (!(decide ((lg_cmp (yy11 &&& 67502849) 0) = 0)))))), (1, .int (nB (ee6 && (!(decide ((lg_cmp (yy11 &&& 17113154305) 0) = 0)))))), (5, .long yy11), (3, .int (nB ee2)), (0, .ref 14)]) (st' := [.int 2, .ref 16, .long (bif decide ((μ.1 15 2) = 0) then (7 : Int64) else 1)]) (μ' := μ) (by rfl) ?_
                  refine zq_iald hc hH (by rfl) 4 (by decide +kernel) (show vp_in (nI 2) 4 from vp_in_nI (by decide) (by decide)) ?_
                  show Z 0 87 [(4, .int 2), (2, .int (nB (ee8 && (!(decide ((lg_cmp (yy11 &&& 67502849) 0) = 0)))))), (1, .int (nB (ee6 && (!(decide ((lg_cmp (yy11 &&& 17113154305) 0) = 0)))))), (5, .long yy11), (3, .int (nB ee2)), (0, .ref 14)] [.int (μ.1 16 2), .long (bif decide ((μ.1 15 2) = 0) then (7 : Int64) else 1)] μ
                  refine z_rcs hc hH 3 (pc' := 91) (lv' := [(5, .long ((bif decide ((μ.1 15 2) = 0) then (7 : Int64) else 1) <<< ((μ.1 16 2).toInt64 &&& 63))), (4, .int 2), (2, .int (nB (ee8 && (!(decide ((lg_cmp (yy11 &&& 67502849) 0) = 0)))))), (1, .int (nB (ee6 && (!(decide ((lg_cmp (yy11 &&& 17113154305) 0) = 0)))))), (3, .int (nB ee2)), (0, .ref 14)]) (st' := [.int (nB (ee6 && (!(decide ((lg_cmp (yy11 &&& 17113154305) 0) = 0)))))]) (μ' := μ) (by rfl) ?_
                  have hJ14 : Z 0 110 [(5, .long ((bif decide ((μ.1 15 2) = 0) then (7 : Int64) else 1) <<< ((μ.1 16 2).toInt64 &&& 63))), (4, .int 2), (2, .int (nB (ee8 && (!(decide ((lg_cmp (yy11 &&& 67502849) 0) = 0)))))), (1, .int (nB (ee6 && (!(decide ((lg_cmp (yy11 &&& 17113154305) 0) = 0)))))), (3, .int (nB ee2)), (0, .ref 14)] [.int (nB ((ee6 && (!(decide ((lg_cmp (yy11 &&& 17113154305) 0) = 0)))) && (!(decide ((lg_cmp (((bif decide ((μ.1 15 2) = 0) then (7 : Int64) else 1) <<< ((μ.1 16 2).toInt64 &&& 63)) &&& 17113154305) 0) = 0)))))] μ := by
                    generalize hyy15 : ((bif decide ((μ.1 15 2) = 0) then (7 : Int64) else 1) <<< ((μ.1 16 2).toInt64 &&& 63) : Int64) = yy15
                    generalize hee16 : ((ee6 && (!(decide ((lg_cmp (yy11 &&& 17113154305) 0) = 0)))) && (!(decide ((lg_cmp (yy15 &&& 17113154305) 0) = 0)))) = ee16
                    refine z_rcs hc hH 2 (pc' := 112) (lv' := [(1, .int (nB ee16)), (5, .long yy15), (4, .int 2), (2, .int (nB (ee8 && (!(decide ((lg_cmp (yy11 &&& 67502849) 0) = 0)))))), (3, .int (nB ee2)), (0, .ref 14)]) (st' := [.int (nB (ee8 && (!(decide ((lg_cmp (yy11 &&& 67502849) 0) = 0)))))]) (μ' := μ) (by rfl) ?_
                    have hJ17 : Z 0 131 [(1, .int (nB ee16)), (5, .long yy15), (4, .int 2), (2, .int (nB (ee8 && (!(decide ((lg_cmp (yy11 &&& 67502849) 0) = 0)))))), (3, .int (nB ee2)), (0, .ref 14)] [.int (nB ((ee8 && (!(decide ((lg_cmp (yy11 &&& 67502849) 0) = 0)))) && (!(decide ((lg_cmp (yy15 &&& 67502849) 0) = 0)))))] μ := by
                      generalize hee18 : ((ee8 && (!(decide ((lg_cmp (yy11 &&& 67502849) 0) = 0)))) && (!(decide ((lg_cmp (yy15 &&& 67502849) 0) = 0)))) = ee18
                      refine z_rcs hc hH 9 (pc' := 69) (lv' := [(4, .int 3), (2, .int (nB ee18)), (1, .int (nB ee16)), (5, .long yy15), (3, .int (nB ee2)), (0, .ref 14)]) (st' := [.int 3, .ref 15]) (μ' := μ) (by rfl) ?_
                      refine zq_iald hc hH (by rfl) 4 (by decide +kernel) (show vp_in (nI 3) 4 from vp_in_nI (by decide) (by decide)) ?_
                      show Z 0 70 [(4, .int 3), (2, .int (nB ee18)), (1, .int (nB ee16)), (5, .long yy15), (3, .int (nB ee2)), (0, .ref 14)] [.int (μ.1 15 3)] μ
                      have hJ19 : Z 0 80 [(4, .int 3), (2, .int (nB ee18)), (1, .int (nB ee16)), (5, .long yy15), (3, .int (nB ee2)), (0, .ref 14)] [.long (bif decide ((μ.1 15 3) = 0) then (7 : Int64) else 1)] μ := by
                        refine z_rcs hc hH 3 (pc' := 86) (lv' := [(4, .int 3), (2, .int (nB ee18)), (1, .int (nB ee16)), (5, .long yy15), (3, .int (nB ee2)), (0, .ref 14)]) (st' := [.int 3, .ref 16, .long (bif decide ((μ.1 15 3) = 0) then (7 : Int64) else 1)]) (μ' := μ) (by rfl) ?_
                        refine zq_iald hc hH (by rfl) 4 (by decide +kernel) (show vp_in (nI 3) 4 from vp_in_nI (by decide) (by decide)) ?_
                        show Z 0 87 [(4, .int 3), (2, .int (nB ee18)), (1, .int (nB ee16)), (5, .long yy15), (3, .int (nB ee2)), (0, .ref 14)] [.int (μ.1 16 3), .long (bif decide ((μ.1 15 3) = 0) then (7 : Int64) else 1)] μ
                        refine z_rcs hc hH 3 (pc' := 91) (lv' := [(5, .long ((bif decide ((μ.1 15 3) = 0) then (7 : Int64) else 1) <<< ((μ.1 16 3).toInt64 &&& 63))), (4, .int 3), (2, .int (nB ee18)), (1, .int (nB ee16)), (3, .int (nB ee2)), (0, .ref 14)]) (st' := [.int (nB ee16)]) (μ' := μ) (by rfl) ?_
                        have hJ20 : Z 0 110 [(5, .long ((bif decide ((μ.1 15 3) = 0) then (7 : Int64) else 1) <<< ((μ.1 16 3).toInt64 &&& 63))), (4, .int 3), (2, .int (nB ee18)), (1, .int (nB ee16)), (3, .int (nB ee2)), (0, .ref 14)] [.int (nB (ee16 && (!(decide ((lg_cmp (((bif decide ((μ.1 15 3) = 0) then (7 : Int64) else 1) <<< ((μ.1 16 3).toInt64 &&& 63)) &&& 17113154305) 0) = 0)))))] μ := by
                          generalize hyy21 : ((bif decide ((μ.1 15 3) = 0) then (7 : Int64) else 1) <<< ((μ.1 16 3).toInt64 &&& 63) : Int64) = yy21
                          refine z_rcs hc hH 2 (pc' := 112) (lv' := [(1, .int (nB (ee16 && (!(decide ((lg_cmp (yy21 &&& 17113154305) 0) = 0)))))), (5, .long yy21), (4, .int 3), (2, .int (nB ee18)), (3, .int (nB ee2)), (0, .ref 14)]) (st' := [.int (nB ee18)]) (μ' := μ) (by rfl) ?_
                          have hJ22 : Z 0 131 [(1, .int (nB (ee16 && (!(decide ((lg_cmp (yy21 &&& 17113154305) 0) = 0)))))), (5, .long yy21), (4, .int 3), (2, .int (nB ee18)), (3, .int (nB ee2)), (0, .ref 14)] [.int (nB (ee18 && (!(decide ((lg_cmp (yy21 &&& 67502849) 0) = 0)))))] μ := by
                            refine z_rcs hc hH 7 (pc' := 139) (lv' := [(4, .int 4), (2, .int (nB (ee18 && (!(decide ((lg_cmp (yy21 &&& 67502849) 0) = 0)))))), (1, .int (nB (ee16 && (!(decide ((lg_cmp (yy21 &&& 17113154305) 0) = 0)))))), (5, .long yy21), (3, .int (nB ee2)), (0, .ref 14)]) (st' := [.int (nB (ee16 && (!(decide ((lg_cmp (yy21 &&& 17113154305) 0) = 0)))))]) (μ' := μ) (by rfl) ?_
                            have hJ23 : Z 0 160 [(4, .int 4), (2, .int (nB (ee18 && (!(decide ((lg_cmp (yy21 &&& 67502849) 0) = 0)))))), (1, .int (nB (ee16 && (!(decide ((lg_cmp (yy21 &&& 17113154305) 0) = 0)))))), (5, .long yy21), (3, .int (nB ee2)), (0, .ref 14)] [.int (nB ((ee16 && (!(decide ((lg_cmp (yy21 &&& 17113154305) 0) = 0)))) && (ee2 && (!(decide ((lg_cmp (μ.2.1 14 16) 0) = 0))))))] μ := by
                              generalize hee24 : ((ee16 && (!(decide ((lg_cmp (yy21 &&& 17113154305) 0) = 0)))) && (ee2 && (!(decide ((lg_cmp (μ.2.1 14 16) 0) = 0))))) = ee24
                              refine z_rcs hc hH 1 (pc' := 162) (lv' := [(4, .int 4), (2, .int (nB (ee18 && (!(decide ((lg_cmp (yy21 &&& 67502849) 0) = 0)))))), (1, .int (nB (ee16 && (!(decide ((lg_cmp (yy21 &&& 17113154305) 0) = 0)))))), (5, .long yy21), (3, .int (nB ee2)), (0, .ref 14)]) (st' := [.int 23, .int (nB ee24)]) (μ' := μ) (by rfl) ?_
                              refine zq_call hc (z_cx_ok hH (by rfl)) (fb_X1_bit d' (by omega) μ ee24 23) (by decide +kernel) (fun r9 μ9 hq => ?_)
                              obtain ⟨hμ9, rfl⟩ := hq
                              rw [hμ9]
                              clear hμ9 μ9
                              show Z 0 165 [(4, .int 4), (2, .int (nB (ee18 && (!(decide ((lg_cmp (yy21 &&& 67502849) 0) = 0)))))), (1, .int (nB (ee16 && (!(decide ((lg_cmp (yy21 &&& 17113154305) 0) = 0)))))), (5, .long yy21), (3, .int (nB ee2)), (0, .ref 14)] [.long (lb ee24 23)] μ
                              refine z_rcs hc hH 1 (pc' := 166) (lv' := [(4, .int 4), (2, .int (nB (ee18 && (!(decide ((lg_cmp (yy21 &&& 67502849) 0) = 0)))))), (1, .int (nB (ee16 && (!(decide ((lg_cmp (yy21 &&& 17113154305) 0) = 0)))))), (5, .long yy21), (3, .int (nB ee2)), (0, .ref 14)]) (st' := [.int (nB (ee18 && (!(decide ((lg_cmp (yy21 &&& 67502849) 0) = 0))))), .long (lb ee24 23)]) (μ' := μ) (by rfl) ?_
                              have hJ25 : Z 0 183 [(4, .int 4), (2, .int (nB (ee18 && (!(decide ((lg_cmp (yy21 &&& 67502849) 0) = 0)))))), (1, .int (nB (ee16 && (!(decide ((lg_cmp (yy21 &&& 17113154305) 0) = 0)))))), (5, .long yy21), (3, .int (nB ee2)), (0, .ref 14)] [.int (nB ((ee18 && (!(decide ((lg_cmp (yy21 &&& 67502849) 0) = 0)))) && (!(decide ((lg_cmp (μ.2.1 14 16) 0) = 0))))), .long (lb ee24 23)] μ := by
                                generalize hee26 : ((ee18 && (!(decide ((lg_cmp (yy21 &&& 67502849) 0) = 0)))) && (!(decide ((lg_cmp (μ.2.1 14 16) 0) = 0)))) = ee26
                                refine z_rcs hc hH 1 (pc' := 185) (lv' := [(4, .int 4), (2, .int (nB (ee18 && (!(decide ((lg_cmp (yy21 &&& 67502849) 0) = 0)))))), (1, .int (nB (ee16 && (!(decide ((lg_cmp (yy21 &&& 17113154305) 0) = 0)))))), (5, .long yy21), (3, .int (nB ee2)), (0, .ref 14)]) (st' := [.int 27, .int (nB ee26), .long (lb ee24 23)]) (μ' := μ) (by rfl) ?_
                                refine zq_call hc (z_cx_ok hH (by rfl)) (fb_X1_bit d' (by omega) μ ee26 27) (by decide +kernel) (fun r9 μ9 hq => ?_)
                                obtain ⟨hμ9, rfl⟩ := hq
                                rw [hμ9]
                                clear hμ9 μ9
                                show Z 0 188 [(4, .int 4), (2, .int (nB (ee18 && (!(decide ((lg_cmp (yy21 &&& 67502849) 0) = 0)))))), (1, .int (nB (ee16 && (!(decide ((lg_cmp (yy21 &&& 17113154305) 0) = 0)))))), (5, .long yy21), (3, .int (nB ee2)), (0, .ref 14)] [.long (lb ee26 27), .long (lb ee24 23)] μ
                                refine z_rcs hc hH 1 (pc' := 189) (lv' := [(4, .int 4), (2, .int (nB (ee18 && (!(decide ((lg_cmp (yy21 &&& 67502849) 0) = 0)))))), (1, .int (nB (ee16 && (!(decide ((lg_cmp (yy21 &&& 17113154305) 0) = 0)))))), (5, .long yy21), (3, .int (nB ee2)), (0, .ref 14)]) (st' := [.long ((lb ee24 23) ||| (lb ee26 27))]) (μ' := μ) (by rfl) ?_
                                exact hr 0 189 _ _ _ (some (.long ((lb ee24 23) ||| (lb ee26 27)))) (by decide +kernel) (z_rx_ok hH (by rfl)) (⟨rfl, (by subst hee26; subst hee24; subst hyy21; subst hee18; subst hee16; subst hyy15; subst hyy11; subst hee8; subst hee6; subst hyy5; subst hee2; rfl)⟩)
                              refine zq_if hc hH (by rfl) (tg := 182) (by rfl) (fun h27 => ?_) (fun h27 => ?_)
                              · have h27 : (ee18 && (!(decide ((lg_cmp (yy21 &&& 67502849) 0) = 0)))) = false := nB_z.mp (cm_eq9.mp h27)
                                refine z_rcs hc hH 1 (pc' := 183) (lv' := [(4, .int 4), (2, .int (nB (ee18 && (!(decide ((lg_cmp (yy21 &&& 67502849) 0) = 0)))))), (1, .int (nB (ee16 && (!(decide ((lg_cmp (yy21 &&& 17113154305) 0) = 0)))))), (5, .long yy21), (3, .int (nB ee2)), (0, .ref 14)]) (st' := [.int 0, .long (lb ee24 23)]) (μ' := μ) (by rfl) ?_
                                exact zJ hJ25 rfl (by first | with_reducible rfl | (simp only [h27, lb_f, Int64.or_zero, Int32.add_zero, nB_t, nB_f, Bool.not_true, Bool.not_false, Bool.and_true, Bool.true_and, Bool.false_and, Bool.and_false, Bool.or_true, Bool.true_or, Bool.false_or, Bool.or_false, cond_true, cond_false]; done) | rfl) rfl
                              · have h27 : (ee18 && (!(decide ((lg_cmp (yy21 &&& 67502849) 0) = 0)))) = true := nB_n.mp (cn_eq.mp h27)
                                refine z_rcs hc hH 4 (pc' := 175) (lv' := [(4, .int 4), (2, .int (nB (ee18 && (!(decide ((lg_cmp (yy21 &&& 67502849) 0) = 0)))))), (1, .int (nB (ee16 && (!(decide ((lg_cmp (yy21 &&& 17113154305) 0) = 0)))))), (5, .long yy21), (3, .int (nB ee2)), (0, .ref 14)]) (st' := [.int (lg_cmp (μ.2.1 14 16) 0), .long (lb ee24 23)]) (μ' := μ) (by rfl) ?_
                                refine zq_if hc hH (by rfl) (tg := 182) (by rfl) (fun h28 => ?_) (fun h28 => ?_)
                                · have h28 : (decide ((lg_cmp (μ.2.1 14 16) 0) = 0)) = true := decide_eq_true (cm_eq9.mp h28)
                                  refine z_rcs hc hH 1 (pc' := 183) (lv' := [(4, .int 4), (2, .int (nB (ee18 && (!(decide ((lg_cmp (yy21 &&& 67502849) 0) = 0)))))), (1, .int (nB (ee16 && (!(decide ((lg_cmp (yy21 &&& 17113154305) 0) = 0)))))), (5, .long yy21), (3, .int (nB ee2)), (0, .ref 14)]) (st' := [.int 0, .long (lb ee24 23)]) (μ' := μ) (by rfl) ?_
                                  exact zJ hJ25 rfl (by first | with_reducible rfl | (simp only [h27, h28, lb_f, Int64.or_zero, Int32.add_zero, nB_t, nB_f, Bool.not_true, Bool.not_false, Bool.and_true, Bool.true_and, Bool.false_and, Bool.and_false, Bool.or_true, Bool.true_or, Bool.false_or, Bool.or_false, cond_true, cond_false]; done) | rfl) rfl
                                · have h28 : (decide ((lg_cmp (μ.2.1 14 16) 0) = 0)) = false := decide_eq_false (cn_eq.mp h28)
                                  refine z_rcs hc hH 2 (pc' := 183) (lv' := [(4, .int 4), (2, .int (nB (ee18 && (!(decide ((lg_cmp (yy21 &&& 67502849) 0) = 0)))))), (1, .int (nB (ee16 && (!(decide ((lg_cmp (yy21 &&& 17113154305) 0) = 0)))))), (5, .long yy21), (3, .int (nB ee2)), (0, .ref 14)]) (st' := [.int 1, .long (lb ee24 23)]) (μ' := μ) (by rfl) ?_
                                  exact zJ hJ25 rfl (by first | with_reducible rfl | (simp only [h27, h28, lb_f, Int64.or_zero, Int32.add_zero, nB_t, nB_f, Bool.not_true, Bool.not_false, Bool.and_true, Bool.true_and, Bool.false_and, Bool.and_false, Bool.or_true, Bool.true_or, Bool.false_or, Bool.or_false, cond_true, cond_false]; done) | rfl) rfl
                            refine zq_if hc hH (by rfl) (tg := 159) (by rfl) (fun h29 => ?_) (fun h29 => ?_)
                            · have h29 : (ee16 && (!(decide ((lg_cmp (yy21 &&& 17113154305) 0) = 0)))) = false := nB_z.mp (cm_eq9.mp h29)
                              refine z_rcs hc hH 1 (pc' := 160) (lv' := [(4, .int 4), (2, .int (nB (ee18 && (!(decide ((lg_cmp (yy21 &&& 67502849) 0) = 0)))))), (1, .int (nB (ee16 && (!(decide ((lg_cmp (yy21 &&& 17113154305) 0) = 0)))))), (5, .long yy21), (3, .int (nB ee2)), (0, .ref 14)]) (st' := [.int 0]) (μ' := μ) (by rfl) ?_
                              exact zJ hJ23 rfl (by first | with_reducible rfl | (simp only [h29, lb_f, Int64.or_zero, Int32.add_zero, nB_t, nB_f, Bool.not_true, Bool.not_false, Bool.and_true, Bool.true_and, Bool.false_and, Bool.and_false, Bool.or_true, Bool.true_or, Bool.false_or, Bool.or_false, cond_true, cond_false]; done) | rfl) rfl
                            · have h29 : (ee16 && (!(decide ((lg_cmp (yy21 &&& 17113154305) 0) = 0)))) = true := nB_n.mp (cn_eq.mp h29)
                              refine z_rcs hc hH 1 (pc' := 143) (lv' := [(4, .int 4), (2, .int (nB (ee18 && (!(decide ((lg_cmp (yy21 &&& 67502849) 0) = 0)))))), (1, .int (nB (ee16 && (!(decide ((lg_cmp (yy21 &&& 17113154305) 0) = 0)))))), (5, .long yy21), (3, .int (nB ee2)), (0, .ref 14)]) (st' := [.int (nB ee2)]) (μ' := μ) (by rfl) ?_
                              refine zq_if hc hH (by rfl) (tg := 159) (by rfl) (fun h30 => ?_) (fun h30 => ?_)
                              · have h30 : (ee2) = false := nB_z.mp (cm_eq9.mp h30)
                                refine z_rcs hc hH 1 (pc' := 160) (lv' := [(4, .int 4), (2, .int (nB (ee18 && (!(decide ((lg_cmp (yy21 &&& 67502849) 0) = 0)))))), (1, .int (nB (ee16 && (!(decide ((lg_cmp (yy21 &&& 17113154305) 0) = 0)))))), (5, .long yy21), (3, .int (nB ee2)), (0, .ref 14)]) (st' := [.int 0]) (μ' := μ) (by rfl) ?_
                                exact zJ hJ23 rfl (by first | with_reducible rfl | (simp only [h29, h30, lb_f, Int64.or_zero, Int32.add_zero, nB_t, nB_f, Bool.not_true, Bool.not_false, Bool.and_true, Bool.true_and, Bool.false_and, Bool.and_false, Bool.or_true, Bool.true_or, Bool.false_or, Bool.or_false, cond_true, cond_false]; done) | rfl) rfl
                              · have h30 : (ee2) = true := nB_n.mp (cn_eq.mp h30)
                                refine z_rcs hc hH 4 (pc' := 152) (lv' := [(4, .int 4), (2, .int (nB (ee18 && (!(decide ((lg_cmp (yy21 &&& 67502849) 0) = 0)))))), (1, .int (nB (ee16 && (!(decide ((lg_cmp (yy21 &&& 17113154305) 0) = 0)))))), (5, .long yy21), (3, .int (nB ee2)), (0, .ref 14)]) (st' := [.int (lg_cmp (μ.2.1 14 16) 0)]) (μ' := μ) (by rfl) ?_
                                refine zq_if hc hH (by rfl) (tg := 159) (by rfl) (fun h31 => ?_) (fun h31 => ?_)
                                · have h31 : (decide ((lg_cmp (μ.2.1 14 16) 0) = 0)) = true := decide_eq_true (cm_eq9.mp h31)
                                  refine z_rcs hc hH 1 (pc' := 160) (lv' := [(4, .int 4), (2, .int (nB (ee18 && (!(decide ((lg_cmp (yy21 &&& 67502849) 0) = 0)))))), (1, .int (nB (ee16 && (!(decide ((lg_cmp (yy21 &&& 17113154305) 0) = 0)))))), (5, .long yy21), (3, .int (nB ee2)), (0, .ref 14)]) (st' := [.int 0]) (μ' := μ) (by rfl) ?_
                                  exact zJ hJ23 rfl (by first | with_reducible rfl | (simp only [h29, h30, h31, lb_f, Int64.or_zero, Int32.add_zero, nB_t, nB_f, Bool.not_true, Bool.not_false, Bool.and_true, Bool.true_and, Bool.false_and, Bool.and_false, Bool.or_true, Bool.true_or, Bool.false_or, Bool.or_false, cond_true, cond_false]; done) | rfl) rfl
                                · have h31 : (decide ((lg_cmp (μ.2.1 14 16) 0) = 0)) = false := decide_eq_false (cn_eq.mp h31)
                                  refine z_rcs hc hH 2 (pc' := 160) (lv' := [(4, .int 4), (2, .int (nB (ee18 && (!(decide ((lg_cmp (yy21 &&& 67502849) 0) = 0)))))), (1, .int (nB (ee16 && (!(decide ((lg_cmp (yy21 &&& 17113154305) 0) = 0)))))), (5, .long yy21), (3, .int (nB ee2)), (0, .ref 14)]) (st' := [.int 1]) (μ' := μ) (by rfl) ?_
                                  exact zJ hJ23 rfl (by first | with_reducible rfl | (simp only [h29, h30, h31, lb_f, Int64.or_zero, Int32.add_zero, nB_t, nB_f, Bool.not_true, Bool.not_false, Bool.and_true, Bool.true_and, Bool.false_and, Bool.and_false, Bool.or_true, Bool.true_or, Bool.false_or, Bool.or_false, cond_true, cond_false]; done) | rfl) rfl
                          refine zq_if hc hH (by rfl) (tg := 130) (by rfl) (fun h32 => ?_) (fun h32 => ?_)
                          · have h32 : (ee18) = false := nB_z.mp (cm_eq9.mp h32)
                            refine z_rcs hc hH 1 (pc' := 131) (lv' := [(1, .int (nB (ee16 && (!(decide ((lg_cmp (yy21 &&& 17113154305) 0) = 0)))))), (5, .long yy21), (4, .int 3), (2, .int (nB ee18)), (3, .int (nB ee2)), (0, .ref 14)]) (st' := [.int 0]) (μ' := μ) (by rfl) ?_
                            exact zJ hJ22 rfl (by first | with_reducible rfl | (simp only [h32, lb_f, Int64.or_zero, Int32.add_zero, nB_t, nB_f, Bool.not_true, Bool.not_false, Bool.and_true, Bool.true_and, Bool.false_and, Bool.and_false, Bool.or_true, Bool.true_or, Bool.false_or, Bool.or_false, cond_true, cond_false]; done) | rfl) rfl
                          · have h32 : (ee18) = true := nB_n.mp (cn_eq.mp h32)
                            refine z_rcs hc hH 5 (pc' := 123) (lv' := [(1, .int (nB (ee16 && (!(decide ((lg_cmp (yy21 &&& 17113154305) 0) = 0)))))), (5, .long yy21), (4, .int 3), (2, .int (nB ee18)), (3, .int (nB ee2)), (0, .ref 14)]) (st' := [.int (lg_cmp (yy21 &&& 67502849) 0)]) (μ' := μ) (by rfl) ?_
                            refine zq_if hc hH (by rfl) (tg := 130) (by rfl) (fun h33 => ?_) (fun h33 => ?_)
                            · have h33 : (decide ((lg_cmp (yy21 &&& 67502849) 0) = 0)) = true := decide_eq_true (cm_eq9.mp h33)
                              refine z_rcs hc hH 1 (pc' := 131) (lv' := [(1, .int (nB (ee16 && (!(decide ((lg_cmp (yy21 &&& 17113154305) 0) = 0)))))), (5, .long yy21), (4, .int 3), (2, .int (nB ee18)), (3, .int (nB ee2)), (0, .ref 14)]) (st' := [.int 0]) (μ' := μ) (by rfl) ?_
                              exact zJ hJ22 rfl (by first | with_reducible rfl | (simp only [h32, h33, lb_f, Int64.or_zero, Int32.add_zero, nB_t, nB_f, Bool.not_true, Bool.not_false, Bool.and_true, Bool.true_and, Bool.false_and, Bool.and_false, Bool.or_true, Bool.true_or, Bool.false_or, Bool.or_false, cond_true, cond_false]; done) | rfl) rfl
                            · have h33 : (decide ((lg_cmp (yy21 &&& 67502849) 0) = 0)) = false := decide_eq_false (cn_eq.mp h33)
                              refine z_rcs hc hH 2 (pc' := 131) (lv' := [(1, .int (nB (ee16 && (!(decide ((lg_cmp (yy21 &&& 17113154305) 0) = 0)))))), (5, .long yy21), (4, .int 3), (2, .int (nB ee18)), (3, .int (nB ee2)), (0, .ref 14)]) (st' := [.int 1]) (μ' := μ) (by rfl) ?_
                              exact zJ hJ22 rfl (by first | with_reducible rfl | (simp only [h32, h33, lb_f, Int64.or_zero, Int32.add_zero, nB_t, nB_f, Bool.not_true, Bool.not_false, Bool.and_true, Bool.true_and, Bool.false_and, Bool.and_false, Bool.or_true, Bool.true_or, Bool.false_or, Bool.or_false, cond_true, cond_false]; done) | rfl) rfl
                        refine zq_if hc hH (by rfl) (tg := 109) (by rfl) (fun h34 => ?_) (fun h34 => ?_)
                        · have h34 : (ee16) = false := nB_z.mp (cm_eq9.mp h34)
                          refine z_rcs hc hH 1 (pc' := 110) (lv' := [(5, .long ((bif decide ((μ.1 15 3) = 0) then (7 : Int64) else 1) <<< ((μ.1 16 3).toInt64 &&& 63))), (4, .int 3), (2, .int (nB ee18)), (1, .int (nB ee16)), (3, .int (nB ee2)), (0, .ref 14)]) (st' := [.int 0]) (μ' := μ) (by rfl) ?_
                          exact zJ hJ20 rfl (by first | with_reducible rfl | (simp only [h34, lb_f, Int64.or_zero, Int32.add_zero, nB_t, nB_f, Bool.not_true, Bool.not_false, Bool.and_true, Bool.true_and, Bool.false_and, Bool.and_false, Bool.or_true, Bool.true_or, Bool.false_or, Bool.or_false, cond_true, cond_false]; done) | rfl) rfl
                        · have h34 : (ee16) = true := nB_n.mp (cn_eq.mp h34)
                          refine z_rcs hc hH 5 (pc' := 102) (lv' := [(5, .long ((bif decide ((μ.1 15 3) = 0) then (7 : Int64) else 1) <<< ((μ.1 16 3).toInt64 &&& 63))), (4, .int 3), (2, .int (nB ee18)), (1, .int (nB ee16)), (3, .int (nB ee2)), (0, .ref 14)]) (st' := [.int (lg_cmp (((bif decide ((μ.1 15 3) = 0) then (7 : Int64) else 1) <<< ((μ.1 16 3).toInt64 &&& 63)) &&& 17113154305) 0)]) (μ' := μ) (by rfl) ?_
                          refine zq_if hc hH (by rfl) (tg := 109) (by rfl) (fun h35 => ?_) (fun h35 => ?_)
                          · have h35 : (decide ((lg_cmp (((bif decide ((μ.1 15 3) = 0) then (7 : Int64) else 1) <<< ((μ.1 16 3).toInt64 &&& 63)) &&& 17113154305) 0) = 0)) = true := decide_eq_true (cm_eq9.mp h35)
                            refine z_rcs hc hH 1 (pc' := 110) (lv' := [(5, .long ((bif decide ((μ.1 15 3) = 0) then (7 : Int64) else 1) <<< ((μ.1 16 3).toInt64 &&& 63))), (4, .int 3), (2, .int (nB ee18)), (1, .int (nB ee16)), (3, .int (nB ee2)), (0, .ref 14)]) (st' := [.int 0]) (μ' := μ) (by rfl) ?_
                            exact zJ hJ20 rfl (by first | with_reducible rfl | (simp only [h34, h35, lb_f, Int64.or_zero, Int32.add_zero, nB_t, nB_f, Bool.not_true, Bool.not_false, Bool.and_true, Bool.true_and, Bool.false_and, Bool.and_false, Bool.or_true, Bool.true_or, Bool.false_or, Bool.or_false, cond_true, cond_false]; done) | rfl) rfl
                          · have h35 : (decide ((lg_cmp (((bif decide ((μ.1 15 3) = 0) then (7 : Int64) else 1) <<< ((μ.1 16 3).toInt64 &&& 63)) &&& 17113154305) 0) = 0)) = false := decide_eq_false (cn_eq.mp h35)
                            refine z_rcs hc hH 2 (pc' := 110) (lv' := [(5, .long ((bif decide ((μ.1 15 3) = 0) then (7 : Int64) else 1) <<< ((μ.1 16 3).toInt64 &&& 63))), (4, .int 3), (2, .int (nB ee18)), (1, .int (nB ee16)), (3, .int (nB ee2)), (0, .ref 14)]) (st' := [.int 1]) (μ' := μ) (by rfl) ?_
                            exact zJ hJ20 rfl (by first | with_reducible rfl | (simp only [h34, h35, lb_f, Int64.or_zero, Int32.add_zero, nB_t, nB_f, Bool.not_true, Bool.not_false, Bool.and_true, Bool.true_and, Bool.false_and, Bool.and_false, Bool.or_true, Bool.true_or, Bool.false_or, Bool.or_false, cond_true, cond_false]; done) | rfl) rfl
                      refine zq_if hc hH (by rfl) (tg := 79) (by rfl) (fun h36 => ?_) (fun h36 => ?_)
                      · have h36 : (decide ((μ.1 15 3) = 0)) = false := decide_eq_false (cm_ne.mp h36)
                        refine z_rcs hc hH 1 (pc' := 80) (lv' := [(4, .int 3), (2, .int (nB ee18)), (1, .int (nB ee16)), (5, .long yy15), (3, .int (nB ee2)), (0, .ref 14)]) (st' := [.long 1]) (μ' := μ) (by rfl) ?_
                        exact zJ hJ19 rfl (by first | with_reducible rfl | (simp only [h36, lb_f, Int64.or_zero, Int32.add_zero, nB_t, nB_f, Bool.not_true, Bool.not_false, Bool.and_true, Bool.true_and, Bool.false_and, Bool.and_false, Bool.or_true, Bool.true_or, Bool.false_or, Bool.or_false, cond_true, cond_false]; done) | rfl) rfl
                      · have h36 : (decide ((μ.1 15 3) = 0)) = true := decide_eq_true (cn_ne.mp h36)
                        refine z_rcs hc hH 2 (pc' := 80) (lv' := [(4, .int 3), (2, .int (nB ee18)), (1, .int (nB ee16)), (5, .long yy15), (3, .int (nB ee2)), (0, .ref 14)]) (st' := [.long 7]) (μ' := μ) (by rfl) ?_
                        exact zJ hJ19 rfl (by first | with_reducible rfl | (simp only [h36, lb_f, Int64.or_zero, Int32.add_zero, nB_t, nB_f, Bool.not_true, Bool.not_false, Bool.and_true, Bool.true_and, Bool.false_and, Bool.and_false, Bool.or_true, Bool.true_or, Bool.false_or, Bool.or_false, cond_true, cond_false]; done) | rfl) rfl
                    refine zq_if hc hH (by rfl) (tg := 130) (by rfl) (fun h37 => ?_) (fun h37 => ?_)
                    · have h37 : (ee8 && (!(decide ((lg_cmp (yy11 &&& 67502849) 0) = 0)))) = false := nB_z.mp (cm_eq9.mp h37)
                      refine z_rcs hc hH 1 (pc' := 131) (lv' := [(1, .int (nB ee16)), (5, .long yy15), (4, .int 2), (2, .int (nB (ee8 && (!(decide ((lg_cmp (yy11 &&& 67502849) 0) = 0)))))), (3, .int (nB ee2)), (0, .ref 14)]) (st' := [.int 0]) (μ' := μ) (by rfl) ?_
                      exact zJ hJ17 rfl (by first | with_reducible rfl | (simp only [h37, lb_f, Int64.or_zero, Int32.add_zero, nB_t, nB_f, Bool.not_true, Bool.not_false, Bool.and_true, Bool.true_and, Bool.false_and, Bool.and_false, Bool.or_true, Bool.true_or, Bool.false_or, Bool.or_false, cond_true, cond_false]; done) | rfl) rfl
                    · have h37 : (ee8 && (!(decide ((lg_cmp (yy11 &&& 67502849) 0) = 0)))) = true := nB_n.mp (cn_eq.mp h37)
                      refine z_rcs hc hH 5 (pc' := 123) (lv' := [(1, .int (nB ee16)), (5, .long yy15), (4, .int 2), (2, .int (nB (ee8 && (!(decide ((lg_cmp (yy11 &&& 67502849) 0) = 0)))))), (3, .int (nB ee2)), (0, .ref 14)]) (st' := [.int (lg_cmp (yy15 &&& 67502849) 0)]) (μ' := μ) (by rfl) ?_
                      refine zq_if hc hH (by rfl) (tg := 130) (by rfl) (fun h38 => ?_) (fun h38 => ?_)
                      · have h38 : (decide ((lg_cmp (yy15 &&& 67502849) 0) = 0)) = true := decide_eq_true (cm_eq9.mp h38)
                        refine z_rcs hc hH 1 (pc' := 131) (lv' := [(1, .int (nB ee16)), (5, .long yy15), (4, .int 2), (2, .int (nB (ee8 && (!(decide ((lg_cmp (yy11 &&& 67502849) 0) = 0)))))), (3, .int (nB ee2)), (0, .ref 14)]) (st' := [.int 0]) (μ' := μ) (by rfl) ?_
                        exact zJ hJ17 rfl (by first | with_reducible rfl | (simp only [h37, h38, lb_f, Int64.or_zero, Int32.add_zero, nB_t, nB_f, Bool.not_true, Bool.not_false, Bool.and_true, Bool.true_and, Bool.false_and, Bool.and_false, Bool.or_true, Bool.true_or, Bool.false_or, Bool.or_false, cond_true, cond_false]; done) | rfl) rfl
                      · have h38 : (decide ((lg_cmp (yy15 &&& 67502849) 0) = 0)) = false := decide_eq_false (cn_eq.mp h38)
                        refine z_rcs hc hH 2 (pc' := 131) (lv' := [(1, .int (nB ee16)), (5, .long yy15), (4, .int 2), (2, .int (nB (ee8 && (!(decide ((lg_cmp (yy11 &&& 67502849) 0) = 0)))))), (3, .int (nB ee2)), (0, .ref 14)]) (st' := [.int 1]) (μ' := μ) (by rfl) ?_
                        exact zJ hJ17 rfl (by first | with_reducible rfl | (simp only [h37, h38, lb_f, Int64.or_zero, Int32.add_zero, nB_t, nB_f, Bool.not_true, Bool.not_false, Bool.and_true, Bool.true_and, Bool.false_and, Bool.and_false, Bool.or_true, Bool.true_or, Bool.false_or, Bool.or_false, cond_true, cond_false]; done) | rfl) rfl
                  refine zq_if hc hH (by rfl) (tg := 109) (by rfl) (fun h39 => ?_) (fun h39 => ?_)
                  · have h39 : (ee6 && (!(decide ((lg_cmp (yy11 &&& 17113154305) 0) = 0)))) = false := nB_z.mp (cm_eq9.mp h39)
                    refine z_rcs hc hH 1 (pc' := 110) (lv' := [(5, .long ((bif decide ((μ.1 15 2) = 0) then (7 : Int64) else 1) <<< ((μ.1 16 2).toInt64 &&& 63))), (4, .int 2), (2, .int (nB (ee8 && (!(decide ((lg_cmp (yy11 &&& 67502849) 0) = 0)))))), (1, .int (nB (ee6 && (!(decide ((lg_cmp (yy11 &&& 17113154305) 0) = 0)))))), (3, .int (nB ee2)), (0, .ref 14)]) (st' := [.int 0]) (μ' := μ) (by rfl) ?_
                    exact zJ hJ14 rfl (by first | with_reducible rfl | (simp only [h39, lb_f, Int64.or_zero, Int32.add_zero, nB_t, nB_f, Bool.not_true, Bool.not_false, Bool.and_true, Bool.true_and, Bool.false_and, Bool.and_false, Bool.or_true, Bool.true_or, Bool.false_or, Bool.or_false, cond_true, cond_false]; done) | rfl) rfl
                  · have h39 : (ee6 && (!(decide ((lg_cmp (yy11 &&& 17113154305) 0) = 0)))) = true := nB_n.mp (cn_eq.mp h39)
                    refine z_rcs hc hH 5 (pc' := 102) (lv' := [(5, .long ((bif decide ((μ.1 15 2) = 0) then (7 : Int64) else 1) <<< ((μ.1 16 2).toInt64 &&& 63))), (4, .int 2), (2, .int (nB (ee8 && (!(decide ((lg_cmp (yy11 &&& 67502849) 0) = 0)))))), (1, .int (nB (ee6 && (!(decide ((lg_cmp (yy11 &&& 17113154305) 0) = 0)))))), (3, .int (nB ee2)), (0, .ref 14)]) (st' := [.int (lg_cmp (((bif decide ((μ.1 15 2) = 0) then (7 : Int64) else 1) <<< ((μ.1 16 2).toInt64 &&& 63)) &&& 17113154305) 0)]) (μ' := μ) (by rfl) ?_
                    refine zq_if hc hH (by rfl) (tg := 109) (by rfl) (fun h40 => ?_) (fun h40 => ?_)
                    · have h40 : (decide ((lg_cmp (((bif decide ((μ.1 15 2) = 0) then (7 : Int64) else 1) <<< ((μ.1 16 2).toInt64 &&& 63)) &&& 17113154305) 0) = 0)) = true := decide_eq_true (cm_eq9.mp h40)
                      refine z_rcs hc hH 1 (pc' := 110) (lv' := [(5, .long ((bif decide ((μ.1 15 2) = 0) then (7 : Int64) else 1) <<< ((μ.1 16 2).toInt64 &&& 63))), (4, .int 2), (2, .int (nB (ee8 && (!(decide ((lg_cmp (yy11 &&& 67502849) 0) = 0)))))), (1, .int (nB (ee6 && (!(decide ((lg_cmp (yy11 &&& 17113154305) 0) = 0)))))), (3, .int (nB ee2)), (0, .ref 14)]) (st' := [.int 0]) (μ' := μ) (by rfl) ?_
                      exact zJ hJ14 rfl (by first | with_reducible rfl | (simp only [h39, h40, lb_f, Int64.or_zero, Int32.add_zero, nB_t, nB_f, Bool.not_true, Bool.not_false, Bool.and_true, Bool.true_and, Bool.false_and, Bool.and_false, Bool.or_true, Bool.true_or, Bool.false_or, Bool.or_false, cond_true, cond_false]; done) | rfl) rfl
                    · have h40 : (decide ((lg_cmp (((bif decide ((μ.1 15 2) = 0) then (7 : Int64) else 1) <<< ((μ.1 16 2).toInt64 &&& 63)) &&& 17113154305) 0) = 0)) = false := decide_eq_false (cn_eq.mp h40)
                      refine z_rcs hc hH 2 (pc' := 110) (lv' := [(5, .long ((bif decide ((μ.1 15 2) = 0) then (7 : Int64) else 1) <<< ((μ.1 16 2).toInt64 &&& 63))), (4, .int 2), (2, .int (nB (ee8 && (!(decide ((lg_cmp (yy11 &&& 67502849) 0) = 0)))))), (1, .int (nB (ee6 && (!(decide ((lg_cmp (yy11 &&& 17113154305) 0) = 0)))))), (3, .int (nB ee2)), (0, .ref 14)]) (st' := [.int 1]) (μ' := μ) (by rfl) ?_
                      exact zJ hJ14 rfl (by first | with_reducible rfl | (simp only [h39, h40, lb_f, Int64.or_zero, Int32.add_zero, nB_t, nB_f, Bool.not_true, Bool.not_false, Bool.and_true, Bool.true_and, Bool.false_and, Bool.and_false, Bool.or_true, Bool.true_or, Bool.false_or, Bool.or_false, cond_true, cond_false]; done) | rfl) rfl
                refine zq_if hc hH (by rfl) (tg := 79) (by rfl) (fun h41 => ?_) (fun h41 => ?_)
                · have h41 : (decide ((μ.1 15 2) = 0)) = false := decide_eq_false (cm_ne.mp h41)
                  refine z_rcs hc hH 1 (pc' := 80) (lv' := [(4, .int 2), (2, .int (nB (ee8 && (!(decide ((lg_cmp (yy11 &&& 67502849) 0) = 0)))))), (1, .int (nB (ee6 && (!(decide ((lg_cmp (yy11 &&& 17113154305) 0) = 0)))))), (5, .long yy11), (3, .int (nB ee2)), (0, .ref 14)]) (st' := [.long 1]) (μ' := μ) (by rfl) ?_
                  exact zJ hJ13 rfl (by first | with_reducible rfl | (simp only [h41, lb_f, Int64.or_zero, Int32.add_zero, nB_t, nB_f, Bool.not_true, Bool.not_false, Bool.and_true, Bool.true_and, Bool.false_and, Bool.and_false, Bool.or_true, Bool.true_or, Bool.false_or, Bool.or_false, cond_true, cond_false]; done) | rfl) rfl
                · have h41 : (decide ((μ.1 15 2) = 0)) = true := decide_eq_true (cn_ne.mp h41)
                  refine z_rcs hc hH 2 (pc' := 80) (lv' := [(4, .int 2), (2, .int (nB (ee8 && (!(decide ((lg_cmp (yy11 &&& 67502849) 0) = 0)))))), (1, .int (nB (ee6 && (!(decide ((lg_cmp (yy11 &&& 17113154305) 0) = 0)))))), (5, .long yy11), (3, .int (nB ee2)), (0, .ref 14)]) (st' := [.long 7]) (μ' := μ) (by rfl) ?_
                  exact zJ hJ13 rfl (by first | with_reducible rfl | (simp only [h41, lb_f, Int64.or_zero, Int32.add_zero, nB_t, nB_f, Bool.not_true, Bool.not_false, Bool.and_true, Bool.true_and, Bool.false_and, Bool.and_false, Bool.or_true, Bool.true_or, Bool.false_or, Bool.or_false, cond_true, cond_false]; done) | rfl) rfl
              refine zq_if hc hH (by rfl) (tg := 130) (by rfl) (fun h42 => ?_) (fun h42 => ?_)
              · have h42 : (ee8) = false := nB_z.mp (cm_eq9.mp h42)
                refine z_rcs hc hH 1 (pc' := 131) (lv' := [(1, .int (nB (ee6 && (!(decide ((lg_cmp (yy11 &&& 17113154305) 0) = 0)))))), (5, .long yy11), (4, .int 1), (2, .int (nB ee8)), (3, .int (nB ee2)), (0, .ref 14)]) (st' := [.int 0]) (μ' := μ) (by rfl) ?_
                exact zJ hJ12 rfl (by first | with_reducible rfl | (simp only [h42, lb_f, Int64.or_zero, Int32.add_zero, nB_t, nB_f, Bool.not_true, Bool.not_false, Bool.and_true, Bool.true_and, Bool.false_and, Bool.and_false, Bool.or_true, Bool.true_or, Bool.false_or, Bool.or_false, cond_true, cond_false]; done) | rfl) rfl
              · have h42 : (ee8) = true := nB_n.mp (cn_eq.mp h42)
                refine z_rcs hc hH 5 (pc' := 123) (lv' := [(1, .int (nB (ee6 && (!(decide ((lg_cmp (yy11 &&& 17113154305) 0) = 0)))))), (5, .long yy11), (4, .int 1), (2, .int (nB ee8)), (3, .int (nB ee2)), (0, .ref 14)]) (st' := [.int (lg_cmp (yy11 &&& 67502849) 0)]) (μ' := μ) (by rfl) ?_
                refine zq_if hc hH (by rfl) (tg := 130) (by rfl) (fun h43 => ?_) (fun h43 => ?_)
                · have h43 : (decide ((lg_cmp (yy11 &&& 67502849) 0) = 0)) = true := decide_eq_true (cm_eq9.mp h43)
                  refine z_rcs hc hH 1 (pc' := 131) (lv' := [(1, .int (nB (ee6 && (!(decide ((lg_cmp (yy11 &&& 17113154305) 0) = 0)))))), (5, .long yy11), (4, .int 1), (2, .int (nB ee8)), (3, .int (nB ee2)), (0, .ref 14)]) (st' := [.int 0]) (μ' := μ) (by rfl) ?_
                  exact zJ hJ12 rfl (by first | with_reducible rfl | (simp only [h42, h43, lb_f, Int64.or_zero, Int32.add_zero, nB_t, nB_f, Bool.not_true, Bool.not_false, Bool.and_true, Bool.true_and, Bool.false_and, Bool.and_false, Bool.or_true, Bool.true_or, Bool.false_or, Bool.or_false, cond_true, cond_false]; done) | rfl) rfl
                · have h43 : (decide ((lg_cmp (yy11 &&& 67502849) 0) = 0)) = false := decide_eq_false (cn_eq.mp h43)
                  refine z_rcs hc hH 2 (pc' := 131) (lv' := [(1, .int (nB (ee6 && (!(decide ((lg_cmp (yy11 &&& 17113154305) 0) = 0)))))), (5, .long yy11), (4, .int 1), (2, .int (nB ee8)), (3, .int (nB ee2)), (0, .ref 14)]) (st' := [.int 1]) (μ' := μ) (by rfl) ?_
                  exact zJ hJ12 rfl (by first | with_reducible rfl | (simp only [h42, h43, lb_f, Int64.or_zero, Int32.add_zero, nB_t, nB_f, Bool.not_true, Bool.not_false, Bool.and_true, Bool.true_and, Bool.false_and, Bool.and_false, Bool.or_true, Bool.true_or, Bool.false_or, Bool.or_false, cond_true, cond_false]; done) | rfl) rfl
            refine zq_if hc hH (by rfl) (tg := 109) (by rfl) (fun h44 => ?_) (fun h44 => ?_)
            · have h44 : (ee6) = false := nB_z.mp (cm_eq9.mp h44)
              refine z_rcs hc hH 1 (pc' := 110) (lv' := [(5, .long ((bif decide ((μ.1 15 1) = 0) then (7 : Int64) else 1) <<< ((μ.1 16 1).toInt64 &&& 63))), (4, .int 1), (2, .int (nB ee8)), (1, .int (nB ee6)), (3, .int (nB ee2)), (0, .ref 14)]) (st' := [.int 0]) (μ' := μ) (by rfl) ?_
              exact zJ hJ10 rfl (by first | with_reducible rfl | (simp only [h44, lb_f, Int64.or_zero, Int32.add_zero, nB_t, nB_f, Bool.not_true, Bool.not_false, Bool.and_true, Bool.true_and, Bool.false_and, Bool.and_false, Bool.or_true, Bool.true_or, Bool.false_or, Bool.or_false, cond_true, cond_false]; done) | rfl) rfl
            · have h44 : (ee6) = true := nB_n.mp (cn_eq.mp h44)
              refine z_rcs hc hH 5 (pc' := 102) (lv' := [(5, .long ((bif decide ((μ.1 15 1) = 0) then (7 : Int64) else 1) <<< ((μ.1 16 1).toInt64 &&& 63))), (4, .int 1), (2, .int (nB ee8)), (1, .int (nB ee6)), (3, .int (nB ee2)), (0, .ref 14)]) (st' := [.int (lg_cmp (((bif decide ((μ.1 15 1) = 0) then (7 : Int64) else 1) <<< ((μ.1 16 1).toInt64 &&& 63)) &&& 17113154305) 0)]) (μ' := μ) (by rfl) ?_
              refine zq_if hc hH (by rfl) (tg := 109) (by rfl) (fun h45 => ?_) (fun h45 => ?_)
              · have h45 : (decide ((lg_cmp (((bif decide ((μ.1 15 1) = 0) then (7 : Int64) else 1) <<< ((μ.1 16 1).toInt64 &&& 63)) &&& 17113154305) 0) = 0)) = true := decide_eq_true (cm_eq9.mp h45)
                refine z_rcs hc hH 1 (pc' := 110) (lv' := [(5, .long ((bif decide ((μ.1 15 1) = 0) then (7 : Int64) else 1) <<< ((μ.1 16 1).toInt64 &&& 63))), (4, .int 1), (2, .int (nB ee8)), (1, .int (nB ee6)), (3, .int (nB ee2)), (0, .ref 14)]) (st' := [.int 0]) (μ' := μ) (by rfl) ?_
                exact zJ hJ10 rfl (by first | with_reducible rfl | (simp only [h44, h45, lb_f, Int64.or_zero, Int32.add_zero, nB_t, nB_f, Bool.not_true, Bool.not_false, Bool.and_true, Bool.true_and, Bool.false_and, Bool.and_false, Bool.or_true, Bool.true_or, Bool.false_or, Bool.or_false, cond_true, cond_false]; done) | rfl) rfl
              · have h45 : (decide ((lg_cmp (((bif decide ((μ.1 15 1) = 0) then (7 : Int64) else 1) <<< ((μ.1 16 1).toInt64 &&& 63)) &&& 17113154305) 0) = 0)) = false := decide_eq_false (cn_eq.mp h45)
                refine z_rcs hc hH 2 (pc' := 110) (lv' := [(5, .long ((bif decide ((μ.1 15 1) = 0) then (7 : Int64) else 1) <<< ((μ.1 16 1).toInt64 &&& 63))), (4, .int 1), (2, .int (nB ee8)), (1, .int (nB ee6)), (3, .int (nB ee2)), (0, .ref 14)]) (st' := [.int 1]) (μ' := μ) (by rfl) ?_
                exact zJ hJ10 rfl (by first | with_reducible rfl | (simp only [h44, h45, lb_f, Int64.or_zero, Int32.add_zero, nB_t, nB_f, Bool.not_true, Bool.not_false, Bool.and_true, Bool.true_and, Bool.false_and, Bool.and_false, Bool.or_true, Bool.true_or, Bool.false_or, Bool.or_false, cond_true, cond_false]; done) | rfl) rfl
          refine zq_if hc hH (by rfl) (tg := 79) (by rfl) (fun h46 => ?_) (fun h46 => ?_)
          · have h46 : (decide ((μ.1 15 1) = 0)) = false := decide_eq_false (cm_ne.mp h46)
            refine z_rcs hc hH 1 (pc' := 80) (lv' := [(4, .int 1), (2, .int (nB ee8)), (1, .int (nB ee6)), (5, .long yy5), (3, .int (nB ee2)), (0, .ref 14)]) (st' := [.long 1]) (μ' := μ) (by rfl) ?_
            exact zJ hJ9 rfl (by first | with_reducible rfl | (simp only [h46, lb_f, Int64.or_zero, Int32.add_zero, nB_t, nB_f, Bool.not_true, Bool.not_false, Bool.and_true, Bool.true_and, Bool.false_and, Bool.and_false, Bool.or_true, Bool.true_or, Bool.false_or, Bool.or_false, cond_true, cond_false]; done) | rfl) rfl
          · have h46 : (decide ((μ.1 15 1) = 0)) = true := decide_eq_true (cn_ne.mp h46)
            refine z_rcs hc hH 2 (pc' := 80) (lv' := [(4, .int 1), (2, .int (nB ee8)), (1, .int (nB ee6)), (5, .long yy5), (3, .int (nB ee2)), (0, .ref 14)]) (st' := [.long 7]) (μ' := μ) (by rfl) ?_
            exact zJ hJ9 rfl (by first | with_reducible rfl | (simp only [h46, lb_f, Int64.or_zero, Int32.add_zero, nB_t, nB_f, Bool.not_true, Bool.not_false, Bool.and_true, Bool.true_and, Bool.false_and, Bool.and_false, Bool.or_true, Bool.true_or, Bool.false_or, Bool.or_false, cond_true, cond_false]; done) | rfl) rfl
        refine zq_if hc hH (by rfl) (tg := 130) (by rfl) (fun h47 => ?_) (fun h47 => ?_)
        · have h47 : (xHd 67502849 (μ.1 14 15)) = false := nB_z.mp (cm_eq9.mp h47)
          refine z_rcs hc hH 1 (pc' := 131) (lv' := [(1, .int (nB ee6)), (5, .long yy5), (4, .int 0), (3, .int (nB ee2)), (2, .int (nB (xHd 67502849 (μ.1 14 15)))), (0, .ref 14)]) (st' := [.int 0]) (μ' := μ) (by rfl) ?_
          exact zJ hJ7 rfl (by first | with_reducible rfl | (simp only [h47, lb_f, Int64.or_zero, Int32.add_zero, nB_t, nB_f, Bool.not_true, Bool.not_false, Bool.and_true, Bool.true_and, Bool.false_and, Bool.and_false, Bool.or_true, Bool.true_or, Bool.false_or, Bool.or_false, cond_true, cond_false]; done) | rfl) rfl
        · have h47 : (xHd 67502849 (μ.1 14 15)) = true := nB_n.mp (cn_eq.mp h47)
          refine z_rcs hc hH 5 (pc' := 123) (lv' := [(1, .int (nB ee6)), (5, .long yy5), (4, .int 0), (3, .int (nB ee2)), (2, .int (nB (xHd 67502849 (μ.1 14 15)))), (0, .ref 14)]) (st' := [.int (lg_cmp (yy5 &&& 67502849) 0)]) (μ' := μ) (by rfl) ?_
          refine zq_if hc hH (by rfl) (tg := 130) (by rfl) (fun h48 => ?_) (fun h48 => ?_)
          · have h48 : (decide ((lg_cmp (yy5 &&& 67502849) 0) = 0)) = true := decide_eq_true (cm_eq9.mp h48)
            refine z_rcs hc hH 1 (pc' := 131) (lv' := [(1, .int (nB ee6)), (5, .long yy5), (4, .int 0), (3, .int (nB ee2)), (2, .int (nB (xHd 67502849 (μ.1 14 15)))), (0, .ref 14)]) (st' := [.int 0]) (μ' := μ) (by rfl) ?_
            exact zJ hJ7 rfl (by first | with_reducible rfl | (simp only [h47, h48, lb_f, Int64.or_zero, Int32.add_zero, nB_t, nB_f, Bool.not_true, Bool.not_false, Bool.and_true, Bool.true_and, Bool.false_and, Bool.and_false, Bool.or_true, Bool.true_or, Bool.false_or, Bool.or_false, cond_true, cond_false]; done) | rfl) rfl
          · have h48 : (decide ((lg_cmp (yy5 &&& 67502849) 0) = 0)) = false := decide_eq_false (cn_eq.mp h48)
            refine z_rcs hc hH 2 (pc' := 131) (lv' := [(1, .int (nB ee6)), (5, .long yy5), (4, .int 0), (3, .int (nB ee2)), (2, .int (nB (xHd 67502849 (μ.1 14 15)))), (0, .ref 14)]) (st' := [.int 1]) (μ' := μ) (by rfl) ?_
            exact zJ hJ7 rfl (by first | with_reducible rfl | (simp only [h47, h48, lb_f, Int64.or_zero, Int32.add_zero, nB_t, nB_f, Bool.not_true, Bool.not_false, Bool.and_true, Bool.true_and, Bool.false_and, Bool.and_false, Bool.or_true, Bool.true_or, Bool.false_or, Bool.or_false, cond_true, cond_false]; done) | rfl) rfl
      refine zq_if hc hH (by rfl) (tg := 109) (by rfl) (fun h49 => ?_) (fun h49 => ?_)
      · have h49 : (xHd 17113154305 (μ.1 14 15)) = false := nB_z.mp (cm_eq9.mp h49)
        refine z_rcs hc hH 1 (pc' := 110) (lv' := [(5, .long ((bif decide ((μ.1 15 0) = 0) then (7 : Int64) else 1) <<< ((μ.1 16 0).toInt64 &&& 63))), (4, .int 0), (3, .int (nB ee2)), (2, .int (nB (xHd 67502849 (μ.1 14 15)))), (1, .int (nB (xHd 17113154305 (μ.1 14 15)))), (0, .ref 14)]) (st' := [.int 0]) (μ' := μ) (by rfl) ?_
        exact zJ hJ4 rfl (by first | with_reducible rfl | (simp only [h49, lb_f, Int64.or_zero, Int32.add_zero, nB_t, nB_f, Bool.not_true, Bool.not_false, Bool.and_true, Bool.true_and, Bool.false_and, Bool.and_false, Bool.or_true, Bool.true_or, Bool.false_or, Bool.or_false, cond_true, cond_false]; done) | rfl) rfl
      · have h49 : (xHd 17113154305 (μ.1 14 15)) = true := nB_n.mp (cn_eq.mp h49)
        refine z_rcs hc hH 5 (pc' := 102) (lv' := [(5, .long ((bif decide ((μ.1 15 0) = 0) then (7 : Int64) else 1) <<< ((μ.1 16 0).toInt64 &&& 63))), (4, .int 0), (3, .int (nB ee2)), (2, .int (nB (xHd 67502849 (μ.1 14 15)))), (1, .int (nB (xHd 17113154305 (μ.1 14 15)))), (0, .ref 14)]) (st' := [.int (lg_cmp (((bif decide ((μ.1 15 0) = 0) then (7 : Int64) else 1) <<< ((μ.1 16 0).toInt64 &&& 63)) &&& 17113154305) 0)]) (μ' := μ) (by rfl) ?_
        refine zq_if hc hH (by rfl) (tg := 109) (by rfl) (fun h50 => ?_) (fun h50 => ?_)
        · have h50 : (decide ((lg_cmp (((bif decide ((μ.1 15 0) = 0) then (7 : Int64) else 1) <<< ((μ.1 16 0).toInt64 &&& 63)) &&& 17113154305) 0) = 0)) = true := decide_eq_true (cm_eq9.mp h50)
          refine z_rcs hc hH 1 (pc' := 110) (lv' := [(5, .long ((bif decide ((μ.1 15 0) = 0) then (7 : Int64) else 1) <<< ((μ.1 16 0).toInt64 &&& 63))), (4, .int 0), (3, .int (nB ee2)), (2, .int (nB (xHd 67502849 (μ.1 14 15)))), (1, .int (nB (xHd 17113154305 (μ.1 14 15)))), (0, .ref 14)]) (st' := [.int 0]) (μ' := μ) (by rfl) ?_
          exact zJ hJ4 rfl (by first | with_reducible rfl | (simp only [h49, h50, lb_f, Int64.or_zero, Int32.add_zero, nB_t, nB_f, Bool.not_true, Bool.not_false, Bool.and_true, Bool.true_and, Bool.false_and, Bool.and_false, Bool.or_true, Bool.true_or, Bool.false_or, Bool.or_false, cond_true, cond_false]; done) | rfl) rfl
        · have h50 : (decide ((lg_cmp (((bif decide ((μ.1 15 0) = 0) then (7 : Int64) else 1) <<< ((μ.1 16 0).toInt64 &&& 63)) &&& 17113154305) 0) = 0)) = false := decide_eq_false (cn_eq.mp h50)
          refine z_rcs hc hH 2 (pc' := 110) (lv' := [(5, .long ((bif decide ((μ.1 15 0) = 0) then (7 : Int64) else 1) <<< ((μ.1 16 0).toInt64 &&& 63))), (4, .int 0), (3, .int (nB ee2)), (2, .int (nB (xHd 67502849 (μ.1 14 15)))), (1, .int (nB (xHd 17113154305 (μ.1 14 15)))), (0, .ref 14)]) (st' := [.int 1]) (μ' := μ) (by rfl) ?_
          exact zJ hJ4 rfl (by first | with_reducible rfl | (simp only [h49, h50, lb_f, Int64.or_zero, Int32.add_zero, nB_t, nB_f, Bool.not_true, Bool.not_false, Bool.and_true, Bool.true_and, Bool.false_and, Bool.and_false, Bool.or_true, Bool.true_or, Bool.false_or, Bool.or_false, cond_true, cond_false]; done) | rfl) rfl
    refine zq_if hc hH (by rfl) (tg := 79) (by rfl) (fun h51 => ?_) (fun h51 => ?_)
    · have h51 : (decide ((μ.1 15 0) = 0)) = false := decide_eq_false (cm_ne.mp h51)
      refine z_rcs hc hH 1 (pc' := 80) (lv' := [(4, .int 0), (3, .int (nB ee2)), (2, .int (nB (xHd 67502849 (μ.1 14 15)))), (1, .int (nB (xHd 17113154305 (μ.1 14 15)))), (0, .ref 14)]) (st' := [.long 1]) (μ' := μ) (by rfl) ?_
      exact zJ hJ3 rfl (by first | with_reducible rfl | (simp only [h51, lb_f, Int64.or_zero, Int32.add_zero, nB_t, nB_f, Bool.not_true, Bool.not_false, Bool.and_true, Bool.true_and, Bool.false_and, Bool.and_false, Bool.or_true, Bool.true_or, Bool.false_or, Bool.or_false, cond_true, cond_false]; done) | rfl) rfl
    · have h51 : (decide ((μ.1 15 0) = 0)) = true := decide_eq_true (cn_ne.mp h51)
      refine z_rcs hc hH 2 (pc' := 80) (lv' := [(4, .int 0), (3, .int (nB ee2)), (2, .int (nB (xHd 67502849 (μ.1 14 15)))), (1, .int (nB (xHd 17113154305 (μ.1 14 15)))), (0, .ref 14)]) (st' := [.long 7]) (μ' := μ) (by rfl) ?_
      exact zJ hJ3 rfl (by first | with_reducible rfl | (simp only [h51, lb_f, Int64.or_zero, Int32.add_zero, nB_t, nB_f, Bool.not_true, Bool.not_false, Bool.and_true, Bool.true_and, Bool.false_and, Bool.and_false, Bool.or_true, Bool.true_or, Bool.false_or, Bool.or_false, cond_true, cond_false]; done) | rfl) rfl
  refine zq_if hc hH (by rfl) (tg := 48) (by rfl) (fun h52 => ?_) (fun h52 => ?_)
  · have h52 : (xHd 17045651456 (μ.1 14 15)) = true := nB_n.mp (cm_ne.mp h52)
    refine z_rcs hc hH 2 (pc' := 53) (lv' := [(2, .int (nB (xHd 67502849 (μ.1 14 15)))), (1, .int (nB (xHd 17113154305 (μ.1 14 15)))), (0, .ref 14)]) (st' := [.int 1]) (μ' := μ) (by rfl) ?_
    exact zJ hJ1 rfl (by first | with_reducible rfl | (simp only [h52, lb_f, Int64.or_zero, Int32.add_zero, nB_t, nB_f, Bool.not_true, Bool.not_false, Bool.and_true, Bool.true_and, Bool.false_and, Bool.and_false, Bool.or_true, Bool.true_or, Bool.false_or, Bool.or_false, cond_true, cond_false]; done) | rfl) rfl
  · have h52 : (xHd 17045651456 (μ.1 14 15)) = false := nB_z.mp (cn_ne.mp h52)
    refine z_rcs hc hH 6 (pc' := 45) (lv' := [(2, .int (nB (xHd 67502849 (μ.1 14 15)))), (1, .int (nB (xHd 17113154305 (μ.1 14 15)))), (0, .ref 14)]) (st' := [.int (lg_cmp ((μ.2.1 14 17) &&& 17045651456) 0)]) (μ' := μ) (by rfl) ?_
    refine zq_if hc hH (by rfl) (tg := 52) (by rfl) (fun h53 => ?_) (fun h53 => ?_)
    · have h53 : (decide ((lg_cmp ((μ.2.1 14 17) &&& 17045651456) 0) = 0)) = true := decide_eq_true (cm_eq9.mp h53)
      refine z_rcs hc hH 1 (pc' := 53) (lv' := [(2, .int (nB (xHd 67502849 (μ.1 14 15)))), (1, .int (nB (xHd 17113154305 (μ.1 14 15)))), (0, .ref 14)]) (st' := [.int 0]) (μ' := μ) (by rfl) ?_
      exact zJ hJ1 rfl (by first | with_reducible rfl | (simp only [h52, h53, lb_f, Int64.or_zero, Int32.add_zero, nB_t, nB_f, Bool.not_true, Bool.not_false, Bool.and_true, Bool.true_and, Bool.false_and, Bool.and_false, Bool.or_true, Bool.true_or, Bool.false_or, Bool.or_false, cond_true, cond_false]; done) | rfl) rfl
    · have h53 : (decide ((lg_cmp ((μ.2.1 14 17) &&& 17045651456) 0) = 0)) = false := decide_eq_false (cn_eq.mp h53)
      refine z_rcs hc hH 2 (pc' := 53) (lv' := [(2, .int (nB (xHd 67502849 (μ.1 14 15)))), (1, .int (nB (xHd 17113154305 (μ.1 14 15)))), (0, .ref 14)]) (st' := [.int 1]) (μ' := μ) (by rfl) ?_
      exact zJ hJ1 rfl (by first | with_reducible rfl | (simp only [h52, h53, lb_f, Int64.or_zero, Int32.add_zero, nB_t, nB_f, Bool.not_true, Bool.not_false, Bool.and_true, Bool.true_and, Bool.false_and, Bool.and_false, Bool.or_true, Bool.true_or, Bool.false_or, Bool.or_false, cond_true, cond_false]; done) | rfl) rfl
theorem fb_X1_likeRuns (d : Nat) (hd : 2 ≤ d) (μ : zM) : z_C d mi_X1_likeRuns [.ref 14] μ (zR μ (.long ((lb (decide ((((0 + ((0 + (nB ((decide ((μ.1 15 1) = 0)) && ((decide ((μ.1 15 0) = 0)) && (decide ((μ.1 16 1) = (μ.1 16 0))))))) - (0 + (nB ((decide ((μ.1 15 1) = 0)) && ((decide ((μ.1 15 0) = 0)) && (decide ((μ.1 16 1) = (μ.1 16 0))))))) / 2 * 2)) + (((0 + (nB ((decide ((μ.1 15 2) = 0)) && ((decide ((μ.1 15 0) = 0)) && (decide ((μ.1 16 2) = (μ.1 16 0))))))) + (nB ((decide ((μ.1 15 2) = 0)) && ((decide ((μ.1 15 1) = 0)) && (decide ((μ.1 16 2) = (μ.1 16 1))))))) - ((0 + (nB ((decide ((μ.1 15 2) = 0)) && ((decide ((μ.1 15 0) = 0)) && (decide ((μ.1 16 2) = (μ.1 16 0))))))) + (nB ((decide ((μ.1 15 2) = 0)) && ((decide ((μ.1 15 1) = 0)) && (decide ((μ.1 16 2) = (μ.1 16 1))))))) / 2 * 2)) + ((((0 + (nB ((decide ((μ.1 15 3) = 0)) && ((decide ((μ.1 15 0) = 0)) && (decide ((μ.1 16 3) = (μ.1 16 0))))))) + (nB ((decide ((μ.1 15 3) = 0)) && ((decide ((μ.1 15 1) = 0)) && (decide ((μ.1 16 3) = (μ.1 16 1))))))) + (nB ((decide ((μ.1 15 3) = 0)) && ((decide ((μ.1 15 2) = 0)) && (decide ((μ.1 16 3) = (μ.1 16 2))))))) - (((0 + (nB ((decide ((μ.1 15 3) = 0)) && ((decide ((μ.1 15 0) = 0)) && (decide ((μ.1 16 3) = (μ.1 16 0))))))) + (nB ((decide ((μ.1 15 3) = 0)) && ((decide ((μ.1 15 1) = 0)) && (decide ((μ.1 16 3) = (μ.1 16 1))))))) + (nB ((decide ((μ.1 15 3) = 0)) && ((decide ((μ.1 15 2) = 0)) && (decide ((μ.1 16 3) = (μ.1 16 2))))))) / 2 * 2)) = 1)) 10) ||| (lb (decide ((((0 + ((0 + (nB ((decide ((μ.1 15 1) = 0)) && ((decide ((μ.1 15 0) = 0)) && (decide ((μ.1 16 1) = (μ.1 16 0))))))) - (0 + (nB ((decide ((μ.1 15 1) = 0)) && ((decide ((μ.1 15 0) = 0)) && (decide ((μ.1 16 1) = (μ.1 16 0))))))) / 2 * 2)) + (((0 + (nB ((decide ((μ.1 15 2) = 0)) && ((decide ((μ.1 15 0) = 0)) && (decide ((μ.1 16 2) = (μ.1 16 0))))))) + (nB ((decide ((μ.1 15 2) = 0)) && ((decide ((μ.1 15 1) = 0)) && (decide ((μ.1 16 2) = (μ.1 16 1))))))) - ((0 + (nB ((decide ((μ.1 15 2) = 0)) && ((decide ((μ.1 15 0) = 0)) && (decide ((μ.1 16 2) = (μ.1 16 0))))))) + (nB ((decide ((μ.1 15 2) = 0)) && ((decide ((μ.1 15 1) = 0)) && (decide ((μ.1 16 2) = (μ.1 16 1))))))) / 2 * 2)) + ((((0 + (nB ((decide ((μ.1 15 3) = 0)) && ((decide ((μ.1 15 0) = 0)) && (decide ((μ.1 16 3) = (μ.1 16 0))))))) + (nB ((decide ((μ.1 15 3) = 0)) && ((decide ((μ.1 15 1) = 0)) && (decide ((μ.1 16 3) = (μ.1 16 1))))))) + (nB ((decide ((μ.1 15 3) = 0)) && ((decide ((μ.1 15 2) = 0)) && (decide ((μ.1 16 3) = (μ.1 16 2))))))) - (((0 + (nB ((decide ((μ.1 15 3) = 0)) && ((decide ((μ.1 15 0) = 0)) && (decide ((μ.1 16 3) = (μ.1 16 0))))))) + (nB ((decide ((μ.1 15 3) = 0)) && ((decide ((μ.1 15 1) = 0)) && (decide ((μ.1 16 3) = (μ.1 16 1))))))) + (nB ((decide ((μ.1 15 3) = 0)) && ((decide ((μ.1 15 2) = 0)) && (decide ((μ.1 16 3) = (μ.1 16 2))))))) / 2 * 2)) = 2)) 28)))) := by
  refine z_C_in (by decide) (by omega) (fun d' Z ed hc hr => ?_)
  have hH : zH mi_X1_likeRuns zt_X1_likeRuns 79 1 5 := hh_X1_likeRuns
  refine z_rcs hc hH 36 (pc' := 26) (lv' := [(4, .int 0), (3, .int 0), (2, .int 1), (1, .int 0), (0, .ref 14)]) (st' := [.int 1, .ref 15, .int 0]) (μ' := μ) (by rfl) ?_
  refine zq_iald hc hH (by rfl) 4 (by decide +kernel) (show vp_in (nI 1) 4 from vp_in_nI (by decide) (by decide)) ?_
  show Z 0 27 [(4, .int 0), (3, .int 0), (2, .int 1), (1, .int 0), (0, .ref 14)] [.int (μ.1 15 1), .int 0] μ
  have hJ1 : Z 0 61 [(4, .int 0), (3, .int 0), (2, .int 1), (1, .int 0), (0, .ref 14)] [.int (nB ((decide ((μ.1 15 1) = 0)) && ((decide ((μ.1 15 0) = 0)) && (decide ((μ.1 16 1) = (μ.1 16 0)))))), .int 0] μ := by
    generalize hee2 : ((decide ((μ.1 15 1) = 0)) && ((decide ((μ.1 15 0) = 0)) && (decide ((μ.1 16 1) = (μ.1 16 0))))) = ee2
    refine z_rcs hc hH 29 (pc' := 26) (lv' := [(4, .int 0), (3, .int 0), (2, .int 2), (1, .int (0 + ((0 + (nB ee2)) - (0 + (nB ee2)) / 2 * 2))), (0, .ref 14)]) (st' := [.int 2, .ref 15, .int 0]) (μ' := μ) (by rfl) ?_
    refine zq_iald hc hH (by rfl) 4 (by decide +kernel) (show vp_in (nI 2) 4 from vp_in_nI (by decide) (by decide)) ?_
    show Z 0 27 [(4, .int 0), (3, .int 0), (2, .int 2), (1, .int (0 + ((0 + (nB ee2)) - (0 + (nB ee2)) / 2 * 2))), (0, .ref 14)] [.int (μ.1 15 2), .int 0] μ
    have hJ3 : Z 0 61 [(4, .int 0), (3, .int 0), (2, .int 2), (1, .int (0 + ((0 + (nB ee2)) - (0 + (nB ee2)) / 2 * 2))), (0, .ref 14)] [.int (nB ((decide ((μ.1 15 2) = 0)) && ((decide ((μ.1 15 0) = 0)) && (decide ((μ.1 16 2) = (μ.1 16 0)))))), .int 0] μ := by
      generalize hee4 : ((decide ((μ.1 15 2) = 0)) && ((decide ((μ.1 15 0) = 0)) && (decide ((μ.1 16 2) = (μ.1 16 0))))) = ee4
      refine z_rcs hc hH 11 (pc' := 26) (lv' := [(4, .int 1), (3, .int (0 + (nB ee4))), (2, .int 2), (1, .int (0 + ((0 + (nB ee2)) - (0 + (nB ee2)) / 2 * 2))), (0, .ref 14)]) (st' := [.int 2, .ref 15, .int (0 + (nB ee4))]) (μ' := μ) (by rfl) ?_
      refine zq_iald hc hH (by rfl) 4 (by decide +kernel) (show vp_in (nI 2) 4 from vp_in_nI (by decide) (by decide)) ?_
      show Z 0 27 [(4, .int 1), (3, .int (0 + (nB ee4))), (2, .int 2), (1, .int (0 + ((0 + (nB ee2)) - (0 + (nB ee2)) / 2 * 2))), (0, .ref 14)] [.int (μ.1 15 2), .int (0 + (nB ee4))] μ
      have hJ5 : Z 0 61 [(4, .int 1), (3, .int (0 + (nB ee4))), (2, .int 2), (1, .int (0 + ((0 + (nB ee2)) - (0 + (nB ee2)) / 2 * 2))), (0, .ref 14)] [.int (nB ((decide ((μ.1 15 2) = 0)) && ((decide ((μ.1 15 1) = 0)) && (decide ((μ.1 16 2) = (μ.1 16 1)))))), .int (0 + (nB ee4))] μ := by
        generalize hee6 : ((decide ((μ.1 15 2) = 0)) && ((decide ((μ.1 15 1) = 0)) && (decide ((μ.1 16 2) = (μ.1 16 1))))) = ee6
        refine z_rcs hc hH 29 (pc' := 26) (lv' := [(4, .int 0), (3, .int 0), (2, .int 3), (1, .int ((0 + ((0 + (nB ee2)) - (0 + (nB ee2)) / 2 * 2)) + (((0 + (nB ee4)) + (nB ee6)) - ((0 + (nB ee4)) + (nB ee6)) / 2 * 2))), (0, .ref 14)]) (st' := [.int 3, .ref 15, .int 0]) (μ' := μ) (by rfl) ?_
        refine zq_iald hc hH (by rfl) 4 (by decide +kernel) (show vp_in (nI 3) 4 from vp_in_nI (by decide) (by decide)) ?_
        show Z 0 27 [(4, .int 0), (3, .int 0), (2, .int 3), (1, .int ((0 + ((0 + (nB ee2)) - (0 + (nB ee2)) / 2 * 2)) + (((0 + (nB ee4)) + (nB ee6)) - ((0 + (nB ee4)) + (nB ee6)) / 2 * 2))), (0, .ref 14)] [.int (μ.1 15 3), .int 0] μ
        have hJ7 : Z 0 61 [(4, .int 0), (3, .int 0), (2, .int 3), (1, .int ((0 + ((0 + (nB ee2)) - (0 + (nB ee2)) / 2 * 2)) + (((0 + (nB ee4)) + (nB ee6)) - ((0 + (nB ee4)) + (nB ee6)) / 2 * 2))), (0, .ref 14)] [.int (nB ((decide ((μ.1 15 3) = 0)) && ((decide ((μ.1 15 0) = 0)) && (decide ((μ.1 16 3) = (μ.1 16 0)))))), .int 0] μ := by
          generalize hyy8 : ((0 + ((0 + (nB ee2)) - (0 + (nB ee2)) / 2 * 2)) + (((0 + (nB ee4)) + (nB ee6)) - ((0 + (nB ee4)) + (nB ee6)) / 2 * 2) : Int32) = yy8
          generalize hee9 : ((decide ((μ.1 15 3) = 0)) && ((decide ((μ.1 15 0) = 0)) && (decide ((μ.1 16 3) = (μ.1 16 0))))) = ee9
          refine z_rcs hc hH 11 (pc' := 26) (lv' := [(4, .int 1), (3, .int (0 + (nB ee9))), (2, .int 3), (1, .int yy8), (0, .ref 14)]) (st' := [.int 3, .ref 15, .int (0 + (nB ee9))]) (μ' := μ) (by rfl) ?_
          refine zq_iald hc hH (by rfl) 4 (by decide +kernel) (show vp_in (nI 3) 4 from vp_in_nI (by decide) (by decide)) ?_
          show Z 0 27 [(4, .int 1), (3, .int (0 + (nB ee9))), (2, .int 3), (1, .int yy8), (0, .ref 14)] [.int (μ.1 15 3), .int (0 + (nB ee9))] μ
          have hJ10 : Z 0 61 [(4, .int 1), (3, .int (0 + (nB ee9))), (2, .int 3), (1, .int yy8), (0, .ref 14)] [.int (nB ((decide ((μ.1 15 3) = 0)) && ((decide ((μ.1 15 1) = 0)) && (decide ((μ.1 16 3) = (μ.1 16 1)))))), .int (0 + (nB ee9))] μ := by
            generalize hee11 : ((decide ((μ.1 15 3) = 0)) && ((decide ((μ.1 15 1) = 0)) && (decide ((μ.1 16 3) = (μ.1 16 1))))) = ee11
            refine z_rcs hc hH 11 (pc' := 26) (lv' := [(4, .int 2), (3, .int ((0 + (nB ee9)) + (nB ee11))), (2, .int 3), (1, .int yy8), (0, .ref 14)]) (st' := [.int 3, .ref 15, .int ((0 + (nB ee9)) + (nB ee11))]) (μ' := μ) (by rfl) ?_
            refine zq_iald hc hH (by rfl) 4 (by decide +kernel) (show vp_in (nI 3) 4 from vp_in_nI (by decide) (by decide)) ?_
            show Z 0 27 [(4, .int 2), (3, .int ((0 + (nB ee9)) + (nB ee11))), (2, .int 3), (1, .int yy8), (0, .ref 14)] [.int (μ.1 15 3), .int ((0 + (nB ee9)) + (nB ee11))] μ
            have hJ12 : Z 0 61 [(4, .int 2), (3, .int ((0 + (nB ee9)) + (nB ee11))), (2, .int 3), (1, .int yy8), (0, .ref 14)] [.int (nB ((decide ((μ.1 15 3) = 0)) && ((decide ((μ.1 15 2) = 0)) && (decide ((μ.1 16 3) = (μ.1 16 2)))))), .int ((0 + (nB ee9)) + (nB ee11))] μ := by
              generalize hee13 : ((decide ((μ.1 15 3) = 0)) && ((decide ((μ.1 15 2) = 0)) && (decide ((μ.1 16 3) = (μ.1 16 2))))) = ee13
              refine z_rcs hc hH 20 (pc' := 83) (lv' := [(2, .int 4), (1, .int (yy8 + ((((0 + (nB ee9)) + (nB ee11)) + (nB ee13)) - (((0 + (nB ee9)) + (nB ee11)) + (nB ee13)) / 2 * 2))), (4, .int 3), (3, .int (((0 + (nB ee9)) + (nB ee11)) + (nB ee13))), (0, .ref 14)]) (st' := [.int 1, .int (yy8 + ((((0 + (nB ee9)) + (nB ee11)) + (nB ee13)) - (((0 + (nB ee9)) + (nB ee11)) + (nB ee13)) / 2 * 2))]) (μ' := μ) (by rfl) ?_
              have hJ14 : Z 0 91 [(2, .int 4), (1, .int (yy8 + ((((0 + (nB ee9)) + (nB ee11)) + (nB ee13)) - (((0 + (nB ee9)) + (nB ee11)) + (nB ee13)) / 2 * 2))), (4, .int 3), (3, .int (((0 + (nB ee9)) + (nB ee11)) + (nB ee13))), (0, .ref 14)] [.int (nB (decide ((yy8 + ((((0 + (nB ee9)) + (nB ee11)) + (nB ee13)) - (((0 + (nB ee9)) + (nB ee11)) + (nB ee13)) / 2 * 2)) = 1)))] μ := by
                generalize hyy15 : (yy8 + ((((0 + (nB ee9)) + (nB ee11)) + (nB ee13)) - (((0 + (nB ee9)) + (nB ee11)) + (nB ee13)) / 2 * 2) : Int32) = yy15
                refine z_rcs hc hH 1 (pc' := 93) (lv' := [(2, .int 4), (1, .int yy15), (4, .int 3), (3, .int (((0 + (nB ee9)) + (nB ee11)) + (nB ee13))), (0, .ref 14)]) (st' := [.int 10, .int (nB (decide (yy15 = 1)))]) (μ' := μ) (by rfl) ?_
                refine zq_call hc (z_cx_ok hH (by rfl)) (fb_X1_bit d' (by omega) μ (decide (yy15 = 1)) 10) (by decide +kernel) (fun r9 μ9 hq => ?_)
                obtain ⟨hμ9, rfl⟩ := hq
                rw [hμ9]
                clear hμ9 μ9
                show Z 0 96 [(2, .int 4), (1, .int yy15), (4, .int 3), (3, .int (((0 + (nB ee9)) + (nB ee11)) + (nB ee13))), (0, .ref 14)] [.long (lb (decide (yy15 = 1)) 10)] μ
                refine z_rcs hc hH 2 (pc' := 98) (lv' := [(2, .int 4), (1, .int yy15), (4, .int 3), (3, .int (((0 + (nB ee9)) + (nB ee11)) + (nB ee13))), (0, .ref 14)]) (st' := [.int 2, .int yy15, .long (lb (decide (yy15 = 1)) 10)]) (μ' := μ) (by rfl) ?_
                have hJ16 : Z 0 106 [(2, .int 4), (1, .int yy15), (4, .int 3), (3, .int (((0 + (nB ee9)) + (nB ee11)) + (nB ee13))), (0, .ref 14)] [.int (nB (decide (yy15 = 2))), .long (lb (decide (yy15 = 1)) 10)] μ := by
                  refine z_rcs hc hH 1 (pc' := 108) (lv' := [(2, .int 4), (1, .int yy15), (4, .int 3), (3, .int (((0 + (nB ee9)) + (nB ee11)) + (nB ee13))), (0, .ref 14)]) (st' := [.int 28, .int (nB (decide (yy15 = 2))), .long (lb (decide (yy15 = 1)) 10)]) (μ' := μ) (by rfl) ?_
                  refine zq_call hc (z_cx_ok hH (by rfl)) (fb_X1_bit d' (by omega) μ (decide (yy15 = 2)) 28) (by decide +kernel) (fun r9 μ9 hq => ?_)
                  obtain ⟨hμ9, rfl⟩ := hq
                  rw [hμ9]
                  clear hμ9 μ9
                  show Z 0 111 [(2, .int 4), (1, .int yy15), (4, .int 3), (3, .int (((0 + (nB ee9)) + (nB ee11)) + (nB ee13))), (0, .ref 14)] [.long (lb (decide (yy15 = 2)) 28), .long (lb (decide (yy15 = 1)) 10)] μ
                  refine z_rcs hc hH 1 (pc' := 112) (lv' := [(2, .int 4), (1, .int yy15), (4, .int 3), (3, .int (((0 + (nB ee9)) + (nB ee11)) + (nB ee13))), (0, .ref 14)]) (st' := [.long ((lb (decide (yy15 = 1)) 10) ||| (lb (decide (yy15 = 2)) 28))]) (μ' := μ) (by rfl) ?_
                  exact hr 0 112 _ _ _ (some (.long ((lb (decide (yy15 = 1)) 10) ||| (lb (decide (yy15 = 2)) 28)))) (by decide +kernel) (z_rx_ok hH (by rfl)) (⟨rfl, (by subst hyy15; subst hee13; subst hee11; subst hee9; subst hyy8; subst hee6; subst hee4; subst hee2; rfl)⟩)
                refine zq_ic hc hH (by rfl) (tg := 105) (by rfl) (fun h17 => ?_) (fun h17 => ?_)
                · have h17 : (decide (yy15 = 2)) = false := decide_eq_false (cm_ne.mp h17)
                  refine z_rcs hc hH 1 (pc' := 106) (lv' := [(2, .int 4), (1, .int yy15), (4, .int 3), (3, .int (((0 + (nB ee9)) + (nB ee11)) + (nB ee13))), (0, .ref 14)]) (st' := [.int 0, .long (lb (decide (yy15 = 1)) 10)]) (μ' := μ) (by rfl) ?_
                  exact zJ hJ16 rfl (by first | with_reducible rfl | (simp only [h17, lb_f, Int64.or_zero, Int32.add_zero, nB_t, nB_f, Bool.not_true, Bool.not_false, Bool.and_true, Bool.true_and, Bool.false_and, Bool.and_false, Bool.or_true, Bool.true_or, Bool.false_or, Bool.or_false, cond_true, cond_false]; done) | rfl) rfl
                · have h17 : (decide (yy15 = 2)) = true := decide_eq_true (cn_ne.mp h17)
                  refine z_rcs hc hH 2 (pc' := 106) (lv' := [(2, .int 4), (1, .int yy15), (4, .int 3), (3, .int (((0 + (nB ee9)) + (nB ee11)) + (nB ee13))), (0, .ref 14)]) (st' := [.int 1, .long (lb (decide (yy15 = 1)) 10)]) (μ' := μ) (by rfl) ?_
                  exact zJ hJ16 rfl (by first | with_reducible rfl | (simp only [h17, lb_f, Int64.or_zero, Int32.add_zero, nB_t, nB_f, Bool.not_true, Bool.not_false, Bool.and_true, Bool.true_and, Bool.false_and, Bool.and_false, Bool.or_true, Bool.true_or, Bool.false_or, Bool.or_false, cond_true, cond_false]; done) | rfl) rfl
              refine zq_ic hc hH (by rfl) (tg := 90) (by rfl) (fun h18 => ?_) (fun h18 => ?_)
              · have h18 : (decide ((yy8 + ((((0 + (nB ee9)) + (nB ee11)) + (nB ee13)) - (((0 + (nB ee9)) + (nB ee11)) + (nB ee13)) / 2 * 2)) = 1)) = false := decide_eq_false (cm_ne.mp h18)
                refine z_rcs hc hH 1 (pc' := 91) (lv' := [(2, .int 4), (1, .int (yy8 + ((((0 + (nB ee9)) + (nB ee11)) + (nB ee13)) - (((0 + (nB ee9)) + (nB ee11)) + (nB ee13)) / 2 * 2))), (4, .int 3), (3, .int (((0 + (nB ee9)) + (nB ee11)) + (nB ee13))), (0, .ref 14)]) (st' := [.int 0]) (μ' := μ) (by rfl) ?_
                exact zJ hJ14 rfl (by first | with_reducible rfl | (simp only [h18, lb_f, Int64.or_zero, Int32.add_zero, nB_t, nB_f, Bool.not_true, Bool.not_false, Bool.and_true, Bool.true_and, Bool.false_and, Bool.and_false, Bool.or_true, Bool.true_or, Bool.false_or, Bool.or_false, cond_true, cond_false]; done) | rfl) rfl
              · have h18 : (decide ((yy8 + ((((0 + (nB ee9)) + (nB ee11)) + (nB ee13)) - (((0 + (nB ee9)) + (nB ee11)) + (nB ee13)) / 2 * 2)) = 1)) = true := decide_eq_true (cn_ne.mp h18)
                refine z_rcs hc hH 2 (pc' := 91) (lv' := [(2, .int 4), (1, .int (yy8 + ((((0 + (nB ee9)) + (nB ee11)) + (nB ee13)) - (((0 + (nB ee9)) + (nB ee11)) + (nB ee13)) / 2 * 2))), (4, .int 3), (3, .int (((0 + (nB ee9)) + (nB ee11)) + (nB ee13))), (0, .ref 14)]) (st' := [.int 1]) (μ' := μ) (by rfl) ?_
                exact zJ hJ14 rfl (by first | with_reducible rfl | (simp only [h18, lb_f, Int64.or_zero, Int32.add_zero, nB_t, nB_f, Bool.not_true, Bool.not_false, Bool.and_true, Bool.true_and, Bool.false_and, Bool.and_false, Bool.or_true, Bool.true_or, Bool.false_or, Bool.or_false, cond_true, cond_false]; done) | rfl) rfl
            refine zq_if hc hH (by rfl) (tg := 60) (by rfl) (fun h19 => ?_) (fun h19 => ?_)
            · have h19 : (decide ((μ.1 15 3) = 0)) = false := decide_eq_false (cm_ne.mp h19)
              refine z_rcs hc hH 1 (pc' := 61) (lv' := [(4, .int 2), (3, .int ((0 + (nB ee9)) + (nB ee11))), (2, .int 3), (1, .int yy8), (0, .ref 14)]) (st' := [.int 0, .int ((0 + (nB ee9)) + (nB ee11))]) (μ' := μ) (by rfl) ?_
              exact zJ hJ12 rfl (by first | with_reducible rfl | (simp only [h19, lb_f, Int64.or_zero, Int32.add_zero, nB_t, nB_f, Bool.not_true, Bool.not_false, Bool.and_true, Bool.true_and, Bool.false_and, Bool.and_false, Bool.or_true, Bool.true_or, Bool.false_or, Bool.or_false, cond_true, cond_false]; done) | rfl) rfl
            · have h19 : (decide ((μ.1 15 3) = 0)) = true := decide_eq_true (cn_ne.mp h19)
              refine z_rcs hc hH 3 (pc' := 36) (lv' := [(4, .int 2), (3, .int ((0 + (nB ee9)) + (nB ee11))), (2, .int 3), (1, .int yy8), (0, .ref 14)]) (st' := [.int 2, .ref 15, .int ((0 + (nB ee9)) + (nB ee11))]) (μ' := μ) (by rfl) ?_
              refine zq_iald hc hH (by rfl) 4 (by decide +kernel) (show vp_in (nI 2) 4 from vp_in_nI (by decide) (by decide)) ?_
              show Z 0 37 [(4, .int 2), (3, .int ((0 + (nB ee9)) + (nB ee11))), (2, .int 3), (1, .int yy8), (0, .ref 14)] [.int (μ.1 15 2), .int ((0 + (nB ee9)) + (nB ee11))] μ
              refine zq_if hc hH (by rfl) (tg := 60) (by rfl) (fun h20 => ?_) (fun h20 => ?_)
              · have h20 : (decide ((μ.1 15 2) = 0)) = false := decide_eq_false (cm_ne.mp h20)
                refine z_rcs hc hH 1 (pc' := 61) (lv' := [(4, .int 2), (3, .int ((0 + (nB ee9)) + (nB ee11))), (2, .int 3), (1, .int yy8), (0, .ref 14)]) (st' := [.int 0, .int ((0 + (nB ee9)) + (nB ee11))]) (μ' := μ) (by rfl) ?_
                exact zJ hJ12 rfl (by first | with_reducible rfl | (simp only [h19, h20, lb_f, Int64.or_zero, Int32.add_zero, nB_t, nB_f, Bool.not_true, Bool.not_false, Bool.and_true, Bool.true_and, Bool.false_and, Bool.and_false, Bool.or_true, Bool.true_or, Bool.false_or, Bool.or_false, cond_true, cond_false]; done) | rfl) rfl
              · have h20 : (decide ((μ.1 15 2) = 0)) = true := decide_eq_true (cn_ne.mp h20)
                refine z_rcs hc hH 3 (pc' := 45) (lv' := [(4, .int 2), (3, .int ((0 + (nB ee9)) + (nB ee11))), (2, .int 3), (1, .int yy8), (0, .ref 14)]) (st' := [.int 3, .ref 16, .int ((0 + (nB ee9)) + (nB ee11))]) (μ' := μ) (by rfl) ?_
                refine zq_iald hc hH (by rfl) 4 (by decide +kernel) (show vp_in (nI 3) 4 from vp_in_nI (by decide) (by decide)) ?_
                show Z 0 46 [(4, .int 2), (3, .int ((0 + (nB ee9)) + (nB ee11))), (2, .int 3), (1, .int yy8), (0, .ref 14)] [.int (μ.1 16 3), .int ((0 + (nB ee9)) + (nB ee11))] μ
                refine z_rcs hc hH 3 (pc' := 52) (lv' := [(4, .int 2), (3, .int ((0 + (nB ee9)) + (nB ee11))), (2, .int 3), (1, .int yy8), (0, .ref 14)]) (st' := [.int 2, .ref 16, .int (μ.1 16 3), .int ((0 + (nB ee9)) + (nB ee11))]) (μ' := μ) (by rfl) ?_
                refine zq_iald hc hH (by rfl) 4 (by decide +kernel) (show vp_in (nI 2) 4 from vp_in_nI (by decide) (by decide)) ?_
                show Z 0 53 [(4, .int 2), (3, .int ((0 + (nB ee9)) + (nB ee11))), (2, .int 3), (1, .int yy8), (0, .ref 14)] [.int (μ.1 16 2), .int (μ.1 16 3), .int ((0 + (nB ee9)) + (nB ee11))] μ
                refine zq_ic hc hH (by rfl) (tg := 60) (by rfl) (fun h21 => ?_) (fun h21 => ?_)
                · have h21 : (decide ((μ.1 16 3) = (μ.1 16 2))) = false := decide_eq_false (cm_ne.mp h21)
                  refine z_rcs hc hH 1 (pc' := 61) (lv' := [(4, .int 2), (3, .int ((0 + (nB ee9)) + (nB ee11))), (2, .int 3), (1, .int yy8), (0, .ref 14)]) (st' := [.int 0, .int ((0 + (nB ee9)) + (nB ee11))]) (μ' := μ) (by rfl) ?_
                  exact zJ hJ12 rfl (by first | with_reducible rfl | (simp only [h19, h20, h21, lb_f, Int64.or_zero, Int32.add_zero, nB_t, nB_f, Bool.not_true, Bool.not_false, Bool.and_true, Bool.true_and, Bool.false_and, Bool.and_false, Bool.or_true, Bool.true_or, Bool.false_or, Bool.or_false, cond_true, cond_false]; done) | rfl) rfl
                · have h21 : (decide ((μ.1 16 3) = (μ.1 16 2))) = true := decide_eq_true (cn_ne.mp h21)
                  refine z_rcs hc hH 2 (pc' := 61) (lv' := [(4, .int 2), (3, .int ((0 + (nB ee9)) + (nB ee11))), (2, .int 3), (1, .int yy8), (0, .ref 14)]) (st' := [.int 1, .int ((0 + (nB ee9)) + (nB ee11))]) (μ' := μ) (by rfl) ?_
                  exact zJ hJ12 rfl (by first | with_reducible rfl | (simp only [h19, h20, h21, lb_f, Int64.or_zero, Int32.add_zero, nB_t, nB_f, Bool.not_true, Bool.not_false, Bool.and_true, Bool.true_and, Bool.false_and, Bool.and_false, Bool.or_true, Bool.true_or, Bool.false_or, Bool.or_false, cond_true, cond_false]; done) | rfl) rfl
          refine zq_if hc hH (by rfl) (tg := 60) (by rfl) (fun h22 => ?_) (fun h22 => ?_)
          · have h22 : (decide ((μ.1 15 3) = 0)) = false := decide_eq_false (cm_ne.mp h22)
            refine z_rcs hc hH 1 (pc' := 61) (lv' := [(4, .int 1), (3, .int (0 + (nB ee9))), (2, .int 3), (1, .int yy8), (0, .ref 14)]) (st' := [.int 0, .int (0 + (nB ee9))]) (μ' := μ) (by rfl) ?_
            exact zJ hJ10 rfl (by first | with_reducible rfl | (simp only [h22, lb_f, Int64.or_zero, Int32.add_zero, nB_t, nB_f, Bool.not_true, Bool.not_false, Bool.and_true, Bool.true_and, Bool.false_and, Bool.and_false, Bool.or_true, Bool.true_or, Bool.false_or, Bool.or_false, cond_true, cond_false]; done) | rfl) rfl
          · have h22 : (decide ((μ.1 15 3) = 0)) = true := decide_eq_true (cn_ne.mp h22)
            refine z_rcs hc hH 3 (pc' := 36) (lv' := [(4, .int 1), (3, .int (0 + (nB ee9))), (2, .int 3), (1, .int yy8), (0, .ref 14)]) (st' := [.int 1, .ref 15, .int (0 + (nB ee9))]) (μ' := μ) (by rfl) ?_
            refine zq_iald hc hH (by rfl) 4 (by decide +kernel) (show vp_in (nI 1) 4 from vp_in_nI (by decide) (by decide)) ?_
            show Z 0 37 [(4, .int 1), (3, .int (0 + (nB ee9))), (2, .int 3), (1, .int yy8), (0, .ref 14)] [.int (μ.1 15 1), .int (0 + (nB ee9))] μ
            refine zq_if hc hH (by rfl) (tg := 60) (by rfl) (fun h23 => ?_) (fun h23 => ?_)
            · have h23 : (decide ((μ.1 15 1) = 0)) = false := decide_eq_false (cm_ne.mp h23)
              refine z_rcs hc hH 1 (pc' := 61) (lv' := [(4, .int 1), (3, .int (0 + (nB ee9))), (2, .int 3), (1, .int yy8), (0, .ref 14)]) (st' := [.int 0, .int (0 + (nB ee9))]) (μ' := μ) (by rfl) ?_
              exact zJ hJ10 rfl (by first | with_reducible rfl | (simp only [h22, h23, lb_f, Int64.or_zero, Int32.add_zero, nB_t, nB_f, Bool.not_true, Bool.not_false, Bool.and_true, Bool.true_and, Bool.false_and, Bool.and_false, Bool.or_true, Bool.true_or, Bool.false_or, Bool.or_false, cond_true, cond_false]; done) | rfl) rfl
            · have h23 : (decide ((μ.1 15 1) = 0)) = true := decide_eq_true (cn_ne.mp h23)
              refine z_rcs hc hH 3 (pc' := 45) (lv' := [(4, .int 1), (3, .int (0 + (nB ee9))), (2, .int 3), (1, .int yy8), (0, .ref 14)]) (st' := [.int 3, .ref 16, .int (0 + (nB ee9))]) (μ' := μ) (by rfl) ?_
              refine zq_iald hc hH (by rfl) 4 (by decide +kernel) (show vp_in (nI 3) 4 from vp_in_nI (by decide) (by decide)) ?_
              show Z 0 46 [(4, .int 1), (3, .int (0 + (nB ee9))), (2, .int 3), (1, .int yy8), (0, .ref 14)] [.int (μ.1 16 3), .int (0 + (nB ee9))] μ
              refine z_rcs hc hH 3 (pc' := 52) (lv' := [(4, .int 1), (3, .int (0 + (nB ee9))), (2, .int 3), (1, .int yy8), (0, .ref 14)]) (st' := [.int 1, .ref 16, .int (μ.1 16 3), .int (0 + (nB ee9))]) (μ' := μ) (by rfl) ?_
              refine zq_iald hc hH (by rfl) 4 (by decide +kernel) (show vp_in (nI 1) 4 from vp_in_nI (by decide) (by decide)) ?_
              show Z 0 53 [(4, .int 1), (3, .int (0 + (nB ee9))), (2, .int 3), (1, .int yy8), (0, .ref 14)] [.int (μ.1 16 1), .int (μ.1 16 3), .int (0 + (nB ee9))] μ
              refine zq_ic hc hH (by rfl) (tg := 60) (by rfl) (fun h24 => ?_) (fun h24 => ?_)
              · have h24 : (decide ((μ.1 16 3) = (μ.1 16 1))) = false := decide_eq_false (cm_ne.mp h24)
                refine z_rcs hc hH 1 (pc' := 61) (lv' := [(4, .int 1), (3, .int (0 + (nB ee9))), (2, .int 3), (1, .int yy8), (0, .ref 14)]) (st' := [.int 0, .int (0 + (nB ee9))]) (μ' := μ) (by rfl) ?_
                exact zJ hJ10 rfl (by first | with_reducible rfl | (simp only [h22, h23, h24, lb_f, Int64.or_zero, Int32.add_zero, nB_t, nB_f, Bool.not_true, Bool.not_false, Bool.and_true, Bool.true_and, Bool.false_and, Bool.and_false, Bool.or_true, Bool.true_or, Bool.false_or, Bool.or_false, cond_true, cond_false]; done) | rfl) rfl
              · have h24 : (decide ((μ.1 16 3) = (μ.1 16 1))) = true := decide_eq_true (cn_ne.mp h24)
                refine z_rcs hc hH 2 (pc' := 61) (lv' := [(4, .int 1), (3, .int (0 + (nB ee9))), (2, .int 3), (1, .int yy8), (0, .ref 14)]) (st' := [.int 1, .int (0 + (nB ee9))]) (μ' := μ) (by rfl) ?_
                exact zJ hJ10 rfl (by first | with_reducible rfl | (simp only [h22, h23, h24, lb_f, Int64.or_zero, Int32.add_zero, nB_t, nB_f, Bool.not_true, Bool.not_false, Bool.and_true, Bool.true_and, Bool.false_and, Bool.and_false, Bool.or_true, Bool.true_or, Bool.false_or, Bool.or_false, cond_true, cond_false]; done) | rfl) rfl
        refine zq_if hc hH (by rfl) (tg := 60) (by rfl) (fun h25 => ?_) (fun h25 => ?_)
        · have h25 : (decide ((μ.1 15 3) = 0)) = false := decide_eq_false (cm_ne.mp h25)
          refine z_rcs hc hH 1 (pc' := 61) (lv' := [(4, .int 0), (3, .int 0), (2, .int 3), (1, .int ((0 + ((0 + (nB ee2)) - (0 + (nB ee2)) / 2 * 2)) + (((0 + (nB ee4)) + (nB ee6)) - ((0 + (nB ee4)) + (nB ee6)) / 2 * 2))), (0, .ref 14)]) (st' := [.int 0, .int 0]) (μ' := μ) (by rfl) ?_
          exact zJ hJ7 rfl (by first | with_reducible rfl | (simp only [h25, lb_f, Int64.or_zero, Int32.add_zero, nB_t, nB_f, Bool.not_true, Bool.not_false, Bool.and_true, Bool.true_and, Bool.false_and, Bool.and_false, Bool.or_true, Bool.true_or, Bool.false_or, Bool.or_false, cond_true, cond_false]; done) | rfl) rfl
        · have h25 : (decide ((μ.1 15 3) = 0)) = true := decide_eq_true (cn_ne.mp h25)
          refine z_rcs hc hH 3 (pc' := 36) (lv' := [(4, .int 0), (3, .int 0), (2, .int 3), (1, .int ((0 + ((0 + (nB ee2)) - (0 + (nB ee2)) / 2 * 2)) + (((0 + (nB ee4)) + (nB ee6)) - ((0 + (nB ee4)) + (nB ee6)) / 2 * 2))), (0, .ref 14)]) (st' := [.int 0, .ref 15, .int 0]) (μ' := μ) (by rfl) ?_
          refine zq_iald hc hH (by rfl) 4 (by decide +kernel) (show vp_in (nI 0) 4 from vp_in_nI (by decide) (by decide)) ?_
          show Z 0 37 [(4, .int 0), (3, .int 0), (2, .int 3), (1, .int ((0 + ((0 + (nB ee2)) - (0 + (nB ee2)) / 2 * 2)) + (((0 + (nB ee4)) + (nB ee6)) - ((0 + (nB ee4)) + (nB ee6)) / 2 * 2))), (0, .ref 14)] [.int (μ.1 15 0), .int 0] μ
          refine zq_if hc hH (by rfl) (tg := 60) (by rfl) (fun h26 => ?_) (fun h26 => ?_)
          · have h26 : (decide ((μ.1 15 0) = 0)) = false := decide_eq_false (cm_ne.mp h26)
            refine z_rcs hc hH 1 (pc' := 61) (lv' := [(4, .int 0), (3, .int 0), (2, .int 3), (1, .int ((0 + ((0 + (nB ee2)) - (0 + (nB ee2)) / 2 * 2)) + (((0 + (nB ee4)) + (nB ee6)) - ((0 + (nB ee4)) + (nB ee6)) / 2 * 2))), (0, .ref 14)]) (st' := [.int 0, .int 0]) (μ' := μ) (by rfl) ?_
            exact zJ hJ7 rfl (by first | with_reducible rfl | (simp only [h25, h26, lb_f, Int64.or_zero, Int32.add_zero, nB_t, nB_f, Bool.not_true, Bool.not_false, Bool.and_true, Bool.true_and, Bool.false_and, Bool.and_false, Bool.or_true, Bool.true_or, Bool.false_or, Bool.or_false, cond_true, cond_false]; done) | rfl) rfl
          · have h26 : (decide ((μ.1 15 0) = 0)) = true := decide_eq_true (cn_ne.mp h26)
            refine z_rcs hc hH 3 (pc' := 45) (lv' := [(4, .int 0), (3, .int 0), (2, .int 3), (1, .int ((0 + ((0 + (nB ee2)) - (0 + (nB ee2)) / 2 * 2)) + (((0 + (nB ee4)) + (nB ee6)) - ((0 + (nB ee4)) + (nB ee6)) / 2 * 2))), (0, .ref 14)]) (st' := [.int 3, .ref 16, .int 0]) (μ' := μ) (by rfl) ?_
            refine zq_iald hc hH (by rfl) 4 (by decide +kernel) (show vp_in (nI 3) 4 from vp_in_nI (by decide) (by decide)) ?_
            show Z 0 46 [(4, .int 0), (3, .int 0), (2, .int 3), (1, .int ((0 + ((0 + (nB ee2)) - (0 + (nB ee2)) / 2 * 2)) + (((0 + (nB ee4)) + (nB ee6)) - ((0 + (nB ee4)) + (nB ee6)) / 2 * 2))), (0, .ref 14)] [.int (μ.1 16 3), .int 0] μ
            refine z_rcs hc hH 3 (pc' := 52) (lv' := [(4, .int 0), (3, .int 0), (2, .int 3), (1, .int ((0 + ((0 + (nB ee2)) - (0 + (nB ee2)) / 2 * 2)) + (((0 + (nB ee4)) + (nB ee6)) - ((0 + (nB ee4)) + (nB ee6)) / 2 * 2))), (0, .ref 14)]) (st' := [.int 0, .ref 16, .int (μ.1 16 3), .int 0]) (μ' := μ) (by rfl) ?_
            refine zq_iald hc hH (by rfl) 4 (by decide +kernel) (show vp_in (nI 0) 4 from vp_in_nI (by decide) (by decide)) ?_
            show Z 0 53 [(4, .int 0), (3, .int 0), (2, .int 3), (1, .int ((0 + ((0 + (nB ee2)) - (0 + (nB ee2)) / 2 * 2)) + (((0 + (nB ee4)) + (nB ee6)) - ((0 + (nB ee4)) + (nB ee6)) / 2 * 2))), (0, .ref 14)] [.int (μ.1 16 0), .int (μ.1 16 3), .int 0] μ
            refine zq_ic hc hH (by rfl) (tg := 60) (by rfl) (fun h27 => ?_) (fun h27 => ?_)
            · have h27 : (decide ((μ.1 16 3) = (μ.1 16 0))) = false := decide_eq_false (cm_ne.mp h27)
              refine z_rcs hc hH 1 (pc' := 61) (lv' := [(4, .int 0), (3, .int 0), (2, .int 3), (1, .int ((0 + ((0 + (nB ee2)) - (0 + (nB ee2)) / 2 * 2)) + (((0 + (nB ee4)) + (nB ee6)) - ((0 + (nB ee4)) + (nB ee6)) / 2 * 2))), (0, .ref 14)]) (st' := [.int 0, .int 0]) (μ' := μ) (by rfl) ?_
              exact zJ hJ7 rfl (by first | with_reducible rfl | (simp only [h25, h26, h27, lb_f, Int64.or_zero, Int32.add_zero, nB_t, nB_f, Bool.not_true, Bool.not_false, Bool.and_true, Bool.true_and, Bool.false_and, Bool.and_false, Bool.or_true, Bool.true_or, Bool.false_or, Bool.or_false, cond_true, cond_false]; done) | rfl) rfl
            · have h27 : (decide ((μ.1 16 3) = (μ.1 16 0))) = true := decide_eq_true (cn_ne.mp h27)
              refine z_rcs hc hH 2 (pc' := 61) (lv' := [(4, .int 0), (3, .int 0), (2, .int 3), (1, .int ((0 + ((0 + (nB ee2)) - (0 + (nB ee2)) / 2 * 2)) + (((0 + (nB ee4)) + (nB ee6)) - ((0 + (nB ee4)) + (nB ee6)) / 2 * 2))), (0, .ref 14)]) (st' := [.int 1, .int 0]) (μ' := μ) (by rfl) ?_
              exact zJ hJ7 rfl (by first | with_reducible rfl | (simp only [h25, h26, h27, lb_f, Int64.or_zero, Int32.add_zero, nB_t, nB_f, Bool.not_true, Bool.not_false, Bool.and_true, Bool.true_and, Bool.false_and, Bool.and_false, Bool.or_true, Bool.true_or, Bool.false_or, Bool.or_false, cond_true, cond_false]; done) | rfl) rfl
      refine zq_if hc hH (by rfl) (tg := 60) (by rfl) (fun h28 => ?_) (fun h28 => ?_)
      · have h28 : (decide ((μ.1 15 2) = 0)) = false := decide_eq_false (cm_ne.mp h28)
        refine z_rcs hc hH 1 (pc' := 61) (lv' := [(4, .int 1), (3, .int (0 + (nB ee4))), (2, .int 2), (1, .int (0 + ((0 + (nB ee2)) - (0 + (nB ee2)) / 2 * 2))), (0, .ref 14)]) (st' := [.int 0, .int (0 + (nB ee4))]) (μ' := μ) (by rfl) ?_
        exact zJ hJ5 rfl (by first | with_reducible rfl | (simp only [h28, lb_f, Int64.or_zero, Int32.add_zero, nB_t, nB_f, Bool.not_true, Bool.not_false, Bool.and_true, Bool.true_and, Bool.false_and, Bool.and_false, Bool.or_true, Bool.true_or, Bool.false_or, Bool.or_false, cond_true, cond_false]; done) | rfl) rfl
      · have h28 : (decide ((μ.1 15 2) = 0)) = true := decide_eq_true (cn_ne.mp h28)
        refine z_rcs hc hH 3 (pc' := 36) (lv' := [(4, .int 1), (3, .int (0 + (nB ee4))), (2, .int 2), (1, .int (0 + ((0 + (nB ee2)) - (0 + (nB ee2)) / 2 * 2))), (0, .ref 14)]) (st' := [.int 1, .ref 15, .int (0 + (nB ee4))]) (μ' := μ) (by rfl) ?_
        refine zq_iald hc hH (by rfl) 4 (by decide +kernel) (show vp_in (nI 1) 4 from vp_in_nI (by decide) (by decide)) ?_
        show Z 0 37 [(4, .int 1), (3, .int (0 + (nB ee4))), (2, .int 2), (1, .int (0 + ((0 + (nB ee2)) - (0 + (nB ee2)) / 2 * 2))), (0, .ref 14)] [.int (μ.1 15 1), .int (0 + (nB ee4))] μ
        refine zq_if hc hH (by rfl) (tg := 60) (by rfl) (fun h29 => ?_) (fun h29 => ?_)
        · have h29 : (decide ((μ.1 15 1) = 0)) = false := decide_eq_false (cm_ne.mp h29)
          refine z_rcs hc hH 1 (pc' := 61) (lv' := [(4, .int 1), (3, .int (0 + (nB ee4))), (2, .int 2), (1, .int (0 + ((0 + (nB ee2)) - (0 + (nB ee2)) / 2 * 2))), (0, .ref 14)]) (st' := [.int 0, .int (0 + (nB ee4))]) (μ' := μ) (by rfl) ?_
          exact zJ hJ5 rfl (by first | with_reducible rfl | (simp only [h28, h29, lb_f, Int64.or_zero, Int32.add_zero, nB_t, nB_f, Bool.not_true, Bool.not_false, Bool.and_true, Bool.true_and, Bool.false_and, Bool.and_false, Bool.or_true, Bool.true_or, Bool.false_or, Bool.or_false, cond_true, cond_false]; done) | rfl) rfl
        · have h29 : (decide ((μ.1 15 1) = 0)) = true := decide_eq_true (cn_ne.mp h29)
          refine z_rcs hc hH 3 (pc' := 45) (lv' := [(4, .int 1), (3, .int (0 + (nB ee4))), (2, .int 2), (1, .int (0 + ((0 + (nB ee2)) - (0 + (nB ee2)) / 2 * 2))), (0, .ref 14)]) (st' := [.int 2, .ref 16, .int (0 + (nB ee4))]) (μ' := μ) (by rfl) ?_
          refine zq_iald hc hH (by rfl) 4 (by decide +kernel) (show vp_in (nI 2) 4 from vp_in_nI (by decide) (by decide)) ?_
          show Z 0 46 [(4, .int 1), (3, .int (0 + (nB ee4))), (2, .int 2), (1, .int (0 + ((0 + (nB ee2)) - (0 + (nB ee2)) / 2 * 2))), (0, .ref 14)] [.int (μ.1 16 2), .int (0 + (nB ee4))] μ
          refine z_rcs hc hH 3 (pc' := 52) (lv' := [(4, .int 1), (3, .int (0 + (nB ee4))), (2, .int 2), (1, .int (0 + ((0 + (nB ee2)) - (0 + (nB ee2)) / 2 * 2))), (0, .ref 14)]) (st' := [.int 1, .ref 16, .int (μ.1 16 2), .int (0 + (nB ee4))]) (μ' := μ) (by rfl) ?_
          refine zq_iald hc hH (by rfl) 4 (by decide +kernel) (show vp_in (nI 1) 4 from vp_in_nI (by decide) (by decide)) ?_
          show Z 0 53 [(4, .int 1), (3, .int (0 + (nB ee4))), (2, .int 2), (1, .int (0 + ((0 + (nB ee2)) - (0 + (nB ee2)) / 2 * 2))), (0, .ref 14)] [.int (μ.1 16 1), .int (μ.1 16 2), .int (0 + (nB ee4))] μ
          refine zq_ic hc hH (by rfl) (tg := 60) (by rfl) (fun h30 => ?_) (fun h30 => ?_)
          · have h30 : (decide ((μ.1 16 2) = (μ.1 16 1))) = false := decide_eq_false (cm_ne.mp h30)
            refine z_rcs hc hH 1 (pc' := 61) (lv' := [(4, .int 1), (3, .int (0 + (nB ee4))), (2, .int 2), (1, .int (0 + ((0 + (nB ee2)) - (0 + (nB ee2)) / 2 * 2))), (0, .ref 14)]) (st' := [.int 0, .int (0 + (nB ee4))]) (μ' := μ) (by rfl) ?_
            exact zJ hJ5 rfl (by first | with_reducible rfl | (simp only [h28, h29, h30, lb_f, Int64.or_zero, Int32.add_zero, nB_t, nB_f, Bool.not_true, Bool.not_false, Bool.and_true, Bool.true_and, Bool.false_and, Bool.and_false, Bool.or_true, Bool.true_or, Bool.false_or, Bool.or_false, cond_true, cond_false]; done) | rfl) rfl
          · have h30 : (decide ((μ.1 16 2) = (μ.1 16 1))) = true := decide_eq_true (cn_ne.mp h30)
            refine z_rcs hc hH 2 (pc' := 61) (lv' := [(4, .int 1), (3, .int (0 + (nB ee4))), (2, .int 2), (1, .int (0 + ((0 + (nB ee2)) - (0 + (nB ee2)) / 2 * 2))), (0, .ref 14)]) (st' := [.int 1, .int (0 + (nB ee4))]) (μ' := μ) (by rfl) ?_
            exact zJ hJ5 rfl (by first | with_reducible rfl | (simp only [h28, h29, h30, lb_f, Int64.or_zero, Int32.add_zero, nB_t, nB_f, Bool.not_true, Bool.not_false, Bool.and_true, Bool.true_and, Bool.false_and, Bool.and_false, Bool.or_true, Bool.true_or, Bool.false_or, Bool.or_false, cond_true, cond_false]; done) | rfl) rfl
    refine zq_if hc hH (by rfl) (tg := 60) (by rfl) (fun h31 => ?_) (fun h31 => ?_)
    · have h31 : (decide ((μ.1 15 2) = 0)) = false := decide_eq_false (cm_ne.mp h31)
      refine z_rcs hc hH 1 (pc' := 61) (lv' := [(4, .int 0), (3, .int 0), (2, .int 2), (1, .int (0 + ((0 + (nB ee2)) - (0 + (nB ee2)) / 2 * 2))), (0, .ref 14)]) (st' := [.int 0, .int 0]) (μ' := μ) (by rfl) ?_
      exact zJ hJ3 rfl (by first | with_reducible rfl | (simp only [h31, lb_f, Int64.or_zero, Int32.add_zero, nB_t, nB_f, Bool.not_true, Bool.not_false, Bool.and_true, Bool.true_and, Bool.false_and, Bool.and_false, Bool.or_true, Bool.true_or, Bool.false_or, Bool.or_false, cond_true, cond_false]; done) | rfl) rfl
    · have h31 : (decide ((μ.1 15 2) = 0)) = true := decide_eq_true (cn_ne.mp h31)
      refine z_rcs hc hH 3 (pc' := 36) (lv' := [(4, .int 0), (3, .int 0), (2, .int 2), (1, .int (0 + ((0 + (nB ee2)) - (0 + (nB ee2)) / 2 * 2))), (0, .ref 14)]) (st' := [.int 0, .ref 15, .int 0]) (μ' := μ) (by rfl) ?_
      refine zq_iald hc hH (by rfl) 4 (by decide +kernel) (show vp_in (nI 0) 4 from vp_in_nI (by decide) (by decide)) ?_
      show Z 0 37 [(4, .int 0), (3, .int 0), (2, .int 2), (1, .int (0 + ((0 + (nB ee2)) - (0 + (nB ee2)) / 2 * 2))), (0, .ref 14)] [.int (μ.1 15 0), .int 0] μ
      refine zq_if hc hH (by rfl) (tg := 60) (by rfl) (fun h32 => ?_) (fun h32 => ?_)
      · have h32 : (decide ((μ.1 15 0) = 0)) = false := decide_eq_false (cm_ne.mp h32)
        refine z_rcs hc hH 1 (pc' := 61) (lv' := [(4, .int 0), (3, .int 0), (2, .int 2), (1, .int (0 + ((0 + (nB ee2)) - (0 + (nB ee2)) / 2 * 2))), (0, .ref 14)]) (st' := [.int 0, .int 0]) (μ' := μ) (by rfl) ?_
        exact zJ hJ3 rfl (by first | with_reducible rfl | (simp only [h31, h32, lb_f, Int64.or_zero, Int32.add_zero, nB_t, nB_f, Bool.not_true, Bool.not_false, Bool.and_true, Bool.true_and, Bool.false_and, Bool.and_false, Bool.or_true, Bool.true_or, Bool.false_or, Bool.or_false, cond_true, cond_false]; done) | rfl) rfl
      · have h32 : (decide ((μ.1 15 0) = 0)) = true := decide_eq_true (cn_ne.mp h32)
        refine z_rcs hc hH 3 (pc' := 45) (lv' := [(4, .int 0), (3, .int 0), (2, .int 2), (1, .int (0 + ((0 + (nB ee2)) - (0 + (nB ee2)) / 2 * 2))), (0, .ref 14)]) (st' := [.int 2, .ref 16, .int 0]) (μ' := μ) (by rfl) ?_
        refine zq_iald hc hH (by rfl) 4 (by decide +kernel) (show vp_in (nI 2) 4 from vp_in_nI (by decide) (by decide)) ?_
        show Z 0 46 [(4, .int 0), (3, .int 0), (2, .int 2), (1, .int (0 + ((0 + (nB ee2)) - (0 + (nB ee2)) / 2 * 2))), (0, .ref 14)] [.int (μ.1 16 2), .int 0] μ
        refine z_rcs hc hH 3 (pc' := 52) (lv' := [(4, .int 0), (3, .int 0), (2, .int 2), (1, .int (0 + ((0 + (nB ee2)) - (0 + (nB ee2)) / 2 * 2))), (0, .ref 14)]) (st' := [.int 0, .ref 16, .int (μ.1 16 2), .int 0]) (μ' := μ) (by rfl) ?_
        refine zq_iald hc hH (by rfl) 4 (by decide +kernel) (show vp_in (nI 0) 4 from vp_in_nI (by decide) (by decide)) ?_
        show Z 0 53 [(4, .int 0), (3, .int 0), (2, .int 2), (1, .int (0 + ((0 + (nB ee2)) - (0 + (nB ee2)) / 2 * 2))), (0, .ref 14)] [.int (μ.1 16 0), .int (μ.1 16 2), .int 0] μ
        refine zq_ic hc hH (by rfl) (tg := 60) (by rfl) (fun h33 => ?_) (fun h33 => ?_)
        · have h33 : (decide ((μ.1 16 2) = (μ.1 16 0))) = false := decide_eq_false (cm_ne.mp h33)
          refine z_rcs hc hH 1 (pc' := 61) (lv' := [(4, .int 0), (3, .int 0), (2, .int 2), (1, .int (0 + ((0 + (nB ee2)) - (0 + (nB ee2)) / 2 * 2))), (0, .ref 14)]) (st' := [.int 0, .int 0]) (μ' := μ) (by rfl) ?_
          exact zJ hJ3 rfl (by first | with_reducible rfl | (simp only [h31, h32, h33, lb_f, Int64.or_zero, Int32.add_zero, nB_t, nB_f, Bool.not_true, Bool.not_false, Bool.and_true, Bool.true_and, Bool.false_and, Bool.and_false, Bool.or_true, Bool.true_or, Bool.false_or, Bool.or_false, cond_true, cond_false]; done) | rfl) rfl
        · have h33 : (decide ((μ.1 16 2) = (μ.1 16 0))) = true := decide_eq_true (cn_ne.mp h33)
          refine z_rcs hc hH 2 (pc' := 61) (lv' := [(4, .int 0), (3, .int 0), (2, .int 2), (1, .int (0 + ((0 + (nB ee2)) - (0 + (nB ee2)) / 2 * 2))), (0, .ref 14)]) (st' := [.int 1, .int 0]) (μ' := μ) (by rfl) ?_
          exact zJ hJ3 rfl (by first | with_reducible rfl | (simp only [h31, h32, h33, lb_f, Int64.or_zero, Int32.add_zero, nB_t, nB_f, Bool.not_true, Bool.not_false, Bool.and_true, Bool.true_and, Bool.false_and, Bool.and_false, Bool.or_true, Bool.true_or, Bool.false_or, Bool.or_false, cond_true, cond_false]; done) | rfl) rfl
  refine zq_if hc hH (by rfl) (tg := 60) (by rfl) (fun h34 => ?_) (fun h34 => ?_)
  · have h34 : (decide ((μ.1 15 1) = 0)) = false := decide_eq_false (cm_ne.mp h34)
    refine z_rcs hc hH 1 (pc' := 61) (lv' := [(4, .int 0), (3, .int 0), (2, .int 1), (1, .int 0), (0, .ref 14)]) (st' := [.int 0, .int 0]) (μ' := μ) (by rfl) ?_
    exact zJ hJ1 rfl (by first | with_reducible rfl | (simp only [h34, lb_f, Int64.or_zero, Int32.add_zero, nB_t, nB_f, Bool.not_true, Bool.not_false, Bool.and_true, Bool.true_and, Bool.false_and, Bool.and_false, Bool.or_true, Bool.true_or, Bool.false_or, Bool.or_false, cond_true, cond_false]; done) | rfl) rfl
  · have h34 : (decide ((μ.1 15 1) = 0)) = true := decide_eq_true (cn_ne.mp h34)
    refine z_rcs hc hH 3 (pc' := 36) (lv' := [(4, .int 0), (3, .int 0), (2, .int 1), (1, .int 0), (0, .ref 14)]) (st' := [.int 0, .ref 15, .int 0]) (μ' := μ) (by rfl) ?_
    refine zq_iald hc hH (by rfl) 4 (by decide +kernel) (show vp_in (nI 0) 4 from vp_in_nI (by decide) (by decide)) ?_
    show Z 0 37 [(4, .int 0), (3, .int 0), (2, .int 1), (1, .int 0), (0, .ref 14)] [.int (μ.1 15 0), .int 0] μ
    refine zq_if hc hH (by rfl) (tg := 60) (by rfl) (fun h35 => ?_) (fun h35 => ?_)
    · have h35 : (decide ((μ.1 15 0) = 0)) = false := decide_eq_false (cm_ne.mp h35)
      refine z_rcs hc hH 1 (pc' := 61) (lv' := [(4, .int 0), (3, .int 0), (2, .int 1), (1, .int 0), (0, .ref 14)]) (st' := [.int 0, .int 0]) (μ' := μ) (by rfl) ?_
      exact zJ hJ1 rfl (by first | with_reducible rfl | (simp only [h34, h35, lb_f, Int64.or_zero, Int32.add_zero, nB_t, nB_f, Bool.not_true, Bool.not_false, Bool.and_true, Bool.true_and, Bool.false_and, Bool.and_false, Bool.or_true, Bool.true_or, Bool.false_or, Bool.or_false, cond_true, cond_false]; done) | rfl) rfl
    · have h35 : (decide ((μ.1 15 0) = 0)) = true := decide_eq_true (cn_ne.mp h35)
      refine z_rcs hc hH 3 (pc' := 45) (lv' := [(4, .int 0), (3, .int 0), (2, .int 1), (1, .int 0), (0, .ref 14)]) (st' := [.int 1, .ref 16, .int 0]) (μ' := μ) (by rfl) ?_
      refine zq_iald hc hH (by rfl) 4 (by decide +kernel) (show vp_in (nI 1) 4 from vp_in_nI (by decide) (by decide)) ?_
      show Z 0 46 [(4, .int 0), (3, .int 0), (2, .int 1), (1, .int 0), (0, .ref 14)] [.int (μ.1 16 1), .int 0] μ
      refine z_rcs hc hH 3 (pc' := 52) (lv' := [(4, .int 0), (3, .int 0), (2, .int 1), (1, .int 0), (0, .ref 14)]) (st' := [.int 0, .ref 16, .int (μ.1 16 1), .int 0]) (μ' := μ) (by rfl) ?_
      refine zq_iald hc hH (by rfl) 4 (by decide +kernel) (show vp_in (nI 0) 4 from vp_in_nI (by decide) (by decide)) ?_
      show Z 0 53 [(4, .int 0), (3, .int 0), (2, .int 1), (1, .int 0), (0, .ref 14)] [.int (μ.1 16 0), .int (μ.1 16 1), .int 0] μ
      refine zq_ic hc hH (by rfl) (tg := 60) (by rfl) (fun h36 => ?_) (fun h36 => ?_)
      · have h36 : (decide ((μ.1 16 1) = (μ.1 16 0))) = false := decide_eq_false (cm_ne.mp h36)
        refine z_rcs hc hH 1 (pc' := 61) (lv' := [(4, .int 0), (3, .int 0), (2, .int 1), (1, .int 0), (0, .ref 14)]) (st' := [.int 0, .int 0]) (μ' := μ) (by rfl) ?_
        exact zJ hJ1 rfl (by first | with_reducible rfl | (simp only [h34, h35, h36, lb_f, Int64.or_zero, Int32.add_zero, nB_t, nB_f, Bool.not_true, Bool.not_false, Bool.and_true, Bool.true_and, Bool.false_and, Bool.and_false, Bool.or_true, Bool.true_or, Bool.false_or, Bool.or_false, cond_true, cond_false]; done) | rfl) rfl
      · have h36 : (decide ((μ.1 16 1) = (μ.1 16 0))) = true := decide_eq_true (cn_ne.mp h36)
        refine z_rcs hc hH 2 (pc' := 61) (lv' := [(4, .int 0), (3, .int 0), (2, .int 1), (1, .int 0), (0, .ref 14)]) (st' := [.int 1, .int 0]) (μ' := μ) (by rfl) ?_
        exact zJ hJ1 rfl (by first | with_reducible rfl | (simp only [h34, h35, h36, lb_f, Int64.or_zero, Int32.add_zero, nB_t, nB_f, Bool.not_true, Bool.not_false, Bool.and_true, Bool.true_and, Bool.false_and, Bool.and_false, Bool.or_true, Bool.true_or, Bool.false_or, Bool.or_false, cond_true, cond_false]; done) | rfl) rfl

/-! HAN and base of an offer: the reference -/
set_option maxRecDepth 8000
theorem fb_X7_han_0 (d : Nat) (hd : 1 ≤ d) (μ : zM) (o : Bool) : z_C d mi_X7_han [.int 0, .int (nB o)] μ (zR μ (.int (nB (!o)))) := by
  refine z_C_in (by decide) (by omega) (fun d' Z ed hc hr => ?_)
  have hH : zH mi_X7_han zt_X7_han 79 7 2 := hh_X7_han
  refine z_rcs hc hH 3 (pc' := 137) (lv' := [(0, .int 0), (1, .int (nB o))]) (st' := [.int (nB o)]) (μ' := μ) (by rfl) ?_
  have hJ1 : Z 0 145 [(0, .int 0), (1, .int (nB o))] [.int (nB (!o))] μ := by
    exact hr 0 145 _ _ _ (some (.int (nB (!o)))) (by decide +kernel) ((fun b : Bool => (by cases b <;> rfl : z_rn mi_X7_han 145 [.int (nB b)] = some (some (.int (nB b))))) (!o)) (⟨rfl, (by rfl)⟩)
  refine zq_if hc hH (by rfl) (tg := 144) (by rfl) (fun h2 => ?_) (fun h2 => ?_)
  · have h2 : (o) = false := nB_z.mp (cm_eq9.mp h2)
    refine z_rcs hc hH 1 (pc' := 145) (lv' := [(0, .int 0), (1, .int (nB o))]) (st' := [.int 1]) (μ' := μ) (by rfl) ?_
    exact zJ hJ1 rfl (by first | with_reducible rfl | (simp only [h2, lb_f, Int64.or_zero, Int32.add_zero, nB_t, nB_f, Bool.not_true, Bool.not_false, Bool.and_true, Bool.true_and, Bool.false_and, Bool.and_false, Bool.or_true, Bool.true_or, Bool.false_or, Bool.or_false, cond_true, cond_false]; done) | rfl) rfl
  · have h2 : (o) = true := nB_n.mp (cn_eq.mp h2)
    refine z_rcs hc hH 2 (pc' := 145) (lv' := [(0, .int 0), (1, .int (nB o))]) (st' := [.int 0]) (μ' := μ) (by rfl) ?_
    exact zJ hJ1 rfl (by first | with_reducible rfl | (simp only [h2, lb_f, Int64.or_zero, Int32.add_zero, nB_t, nB_f, Bool.not_true, Bool.not_false, Bool.and_true, Bool.true_and, Bool.false_and, Bool.and_false, Bool.or_true, Bool.true_or, Bool.false_or, Bool.or_false, cond_true, cond_false]; done) | rfl) rfl
theorem fb_X7_han_1 (d : Nat) (hd : 1 ≤ d) (μ : zM) (o : Bool) : z_C d mi_X7_han [.int 1, .int (nB o)] μ (zR μ (.int (bif o then (0 : Int32) else 2))) := by
  refine z_C_in (by decide) (by omega) (fun d' Z ed hc hr => ?_)
  have hH : zH mi_X7_han zt_X7_han 79 7 2 := hh_X7_han
  refine z_rcs hc hH 3 (pc' := 147) (lv' := [(0, .int 1), (1, .int (nB o))]) (st' := [.int (nB o)]) (μ' := μ) (by rfl) ?_
  have hJ1 : Z 0 155 [(0, .int 1), (1, .int (nB o))] [.int (bif o then (0 : Int32) else 2)] μ := by
    exact hr 0 155 _ _ _ (some (.int (bif o then (0 : Int32) else 2))) (by decide +kernel) (z_rx_ok hH (by rfl)) (⟨rfl, (by rfl)⟩)
  refine zq_if hc hH (by rfl) (tg := 154) (by rfl) (fun h2 => ?_) (fun h2 => ?_)
  · have h2 : (o) = false := nB_z.mp (cm_eq9.mp h2)
    refine z_rcs hc hH 1 (pc' := 155) (lv' := [(0, .int 1), (1, .int (nB o))]) (st' := [.int 2]) (μ' := μ) (by rfl) ?_
    exact zJ hJ1 rfl (by first | with_reducible rfl | (simp only [h2, lb_f, Int64.or_zero, Int32.add_zero, nB_t, nB_f, Bool.not_true, Bool.not_false, Bool.and_true, Bool.true_and, Bool.false_and, Bool.and_false, Bool.or_true, Bool.true_or, Bool.false_or, Bool.or_false, cond_true, cond_false]; done) | rfl) rfl
  · have h2 : (o) = true := nB_n.mp (cn_eq.mp h2)
    refine z_rcs hc hH 2 (pc' := 155) (lv' := [(0, .int 1), (1, .int (nB o))]) (st' := [.int 0]) (μ' := μ) (by rfl) ?_
    exact zJ hJ1 rfl (by first | with_reducible rfl | (simp only [h2, lb_f, Int64.or_zero, Int32.add_zero, nB_t, nB_f, Bool.not_true, Bool.not_false, Bool.and_true, Bool.true_and, Bool.false_and, Bool.and_false, Bool.or_true, Bool.true_or, Bool.false_or, Bool.or_false, cond_true, cond_false]; done) | rfl) rfl
theorem fb_X7_han_2 (d : Nat) (hd : 1 ≤ d) (μ : zM) (o : Bool) : z_C d mi_X7_han [.int 2, .int (nB o)] μ (zR μ (.int (nB (!o)))) := by
  refine z_C_in (by decide) (by omega) (fun d' Z ed hc hr => ?_)
  have hH : zH mi_X7_han zt_X7_han 79 7 2 := hh_X7_han
  refine z_rcs hc hH 3 (pc' := 137) (lv' := [(0, .int 2), (1, .int (nB o))]) (st' := [.int (nB o)]) (μ' := μ) (by rfl) ?_
  have hJ1 : Z 0 145 [(0, .int 2), (1, .int (nB o))] [.int (nB (!o))] μ := by
    exact hr 0 145 _ _ _ (some (.int (nB (!o)))) (by decide +kernel) ((fun b : Bool => (by cases b <;> rfl : z_rn mi_X7_han 145 [.int (nB b)] = some (some (.int (nB b))))) (!o)) (⟨rfl, (by rfl)⟩)
  refine zq_if hc hH (by rfl) (tg := 144) (by rfl) (fun h2 => ?_) (fun h2 => ?_)
  · have h2 : (o) = false := nB_z.mp (cm_eq9.mp h2)
    refine z_rcs hc hH 1 (pc' := 145) (lv' := [(0, .int 2), (1, .int (nB o))]) (st' := [.int 1]) (μ' := μ) (by rfl) ?_
    exact zJ hJ1 rfl (by first | with_reducible rfl | (simp only [h2, lb_f, Int64.or_zero, Int32.add_zero, nB_t, nB_f, Bool.not_true, Bool.not_false, Bool.and_true, Bool.true_and, Bool.false_and, Bool.and_false, Bool.or_true, Bool.true_or, Bool.false_or, Bool.or_false, cond_true, cond_false]; done) | rfl) rfl
  · have h2 : (o) = true := nB_n.mp (cn_eq.mp h2)
    refine z_rcs hc hH 2 (pc' := 145) (lv' := [(0, .int 2), (1, .int (nB o))]) (st' := [.int 0]) (μ' := μ) (by rfl) ?_
    exact zJ hJ1 rfl (by first | with_reducible rfl | (simp only [h2, lb_f, Int64.or_zero, Int32.add_zero, nB_t, nB_f, Bool.not_true, Bool.not_false, Bool.and_true, Bool.true_and, Bool.false_and, Bool.and_false, Bool.or_true, Bool.true_or, Bool.false_or, Bool.or_false, cond_true, cond_false]; done) | rfl) rfl
theorem fb_X7_han_3 (d : Nat) (hd : 1 ≤ d) (μ : zM) (o : Bool) : z_C d mi_X7_han [.int 3, .int (nB o)] μ (zR μ (.int (nB (!o)))) := by
  refine z_C_in (by decide) (by omega) (fun d' Z ed hc hr => ?_)
  have hH : zH mi_X7_han zt_X7_han 79 7 2 := hh_X7_han
  refine z_rcs hc hH 3 (pc' := 137) (lv' := [(0, .int 3), (1, .int (nB o))]) (st' := [.int (nB o)]) (μ' := μ) (by rfl) ?_
  have hJ1 : Z 0 145 [(0, .int 3), (1, .int (nB o))] [.int (nB (!o))] μ := by
    exact hr 0 145 _ _ _ (some (.int (nB (!o)))) (by decide +kernel) ((fun b : Bool => (by cases b <;> rfl : z_rn mi_X7_han 145 [.int (nB b)] = some (some (.int (nB b))))) (!o)) (⟨rfl, (by rfl)⟩)
  refine zq_if hc hH (by rfl) (tg := 144) (by rfl) (fun h2 => ?_) (fun h2 => ?_)
  · have h2 : (o) = false := nB_z.mp (cm_eq9.mp h2)
    refine z_rcs hc hH 1 (pc' := 145) (lv' := [(0, .int 3), (1, .int (nB o))]) (st' := [.int 1]) (μ' := μ) (by rfl) ?_
    exact zJ hJ1 rfl (by first | with_reducible rfl | (simp only [h2, lb_f, Int64.or_zero, Int32.add_zero, nB_t, nB_f, Bool.not_true, Bool.not_false, Bool.and_true, Bool.true_and, Bool.false_and, Bool.and_false, Bool.or_true, Bool.true_or, Bool.false_or, Bool.or_false, cond_true, cond_false]; done) | rfl) rfl
  · have h2 : (o) = true := nB_n.mp (cn_eq.mp h2)
    refine z_rcs hc hH 2 (pc' := 145) (lv' := [(0, .int 3), (1, .int (nB o))]) (st' := [.int 0]) (μ' := μ) (by rfl) ?_
    exact zJ hJ1 rfl (by first | with_reducible rfl | (simp only [h2, lb_f, Int64.or_zero, Int32.add_zero, nB_t, nB_f, Bool.not_true, Bool.not_false, Bool.and_true, Bool.true_and, Bool.false_and, Bool.and_false, Bool.or_true, Bool.true_or, Bool.false_or, Bool.or_false, cond_true, cond_false]; done) | rfl) rfl
theorem fb_X7_han_4 (d : Nat) (hd : 1 ≤ d) (μ : zM) (o : Bool) : z_C d mi_X7_han [.int 4, .int (nB o)] μ (zR μ (.int 1)) := by
  refine z_C_in (by decide) (by omega) (fun d' Z ed hc hr => ?_)
  have hH : zH mi_X7_han zt_X7_han 79 7 2 := hh_X7_han
  refine z_rcs hc hH 3 (pc' := 157) (lv' := [(0, .int 4), (1, .int (nB o))]) (st' := [.int 1]) (μ' := μ) (by rfl) ?_
  exact hr 0 157 _ _ _ (some (.int 1)) (by decide +kernel) (z_rx_ok hH (by rfl)) (⟨rfl, (by rfl)⟩)
theorem fb_X7_han_5 (d : Nat) (hd : 1 ≤ d) (μ : zM) (o : Bool) : z_C d mi_X7_han [.int 5, .int (nB o)] μ (zR μ (.int 1)) := by
  refine z_C_in (by decide) (by omega) (fun d' Z ed hc hr => ?_)
  have hH : zH mi_X7_han zt_X7_han 79 7 2 := hh_X7_han
  refine z_rcs hc hH 3 (pc' := 157) (lv' := [(0, .int 5), (1, .int (nB o))]) (st' := [.int 1]) (μ' := μ) (by rfl) ?_
  exact hr 0 157 _ _ _ (some (.int 1)) (by decide +kernel) (z_rx_ok hH (by rfl)) (⟨rfl, (by rfl)⟩)
theorem fb_X7_han_6 (d : Nat) (hd : 1 ≤ d) (μ : zM) (o : Bool) : z_C d mi_X7_han [.int 6, .int (nB o)] μ (zR μ (.int 1)) := by
  refine z_C_in (by decide) (by omega) (fun d' Z ed hc hr => ?_)
  have hH : zH mi_X7_han zt_X7_han 79 7 2 := hh_X7_han
  refine z_rcs hc hH 3 (pc' := 157) (lv' := [(0, .int 6), (1, .int (nB o))]) (st' := [.int 1]) (μ' := μ) (by rfl) ?_
  exact hr 0 157 _ _ _ (some (.int 1)) (by decide +kernel) (z_rx_ok hH (by rfl)) (⟨rfl, (by rfl)⟩)
theorem fb_X7_han_7 (d : Nat) (hd : 1 ≤ d) (μ : zM) (o : Bool) : z_C d mi_X7_han [.int 7, .int (nB o)] μ (zR μ (.int 1)) := by
  refine z_C_in (by decide) (by omega) (fun d' Z ed hc hr => ?_)
  have hH : zH mi_X7_han zt_X7_han 79 7 2 := hh_X7_han
  refine z_rcs hc hH 3 (pc' := 157) (lv' := [(0, .int 7), (1, .int (nB o))]) (st' := [.int 1]) (μ' := μ) (by rfl) ?_
  exact hr 0 157 _ _ _ (some (.int 1)) (by decide +kernel) (z_rx_ok hH (by rfl)) (⟨rfl, (by rfl)⟩)
theorem fb_X7_han_8 (d : Nat) (hd : 1 ≤ d) (μ : zM) (o : Bool) : z_C d mi_X7_han [.int 8, .int (nB o)] μ (zR μ (.int 1)) := by
  refine z_C_in (by decide) (by omega) (fun d' Z ed hc hr => ?_)
  have hH : zH mi_X7_han zt_X7_han 79 7 2 := hh_X7_han
  refine z_rcs hc hH 3 (pc' := 157) (lv' := [(0, .int 8), (1, .int (nB o))]) (st' := [.int 1]) (μ' := μ) (by rfl) ?_
  exact hr 0 157 _ _ _ (some (.int 1)) (by decide +kernel) (z_rx_ok hH (by rfl)) (⟨rfl, (by rfl)⟩)
theorem fb_X7_han_9 (d : Nat) (hd : 1 ≤ d) (μ : zM) (o : Bool) : z_C d mi_X7_han [.int 9, .int (nB o)] μ (zR μ (.int (nB (!o)))) := by
  refine z_C_in (by decide) (by omega) (fun d' Z ed hc hr => ?_)
  have hH : zH mi_X7_han zt_X7_han 79 7 2 := hh_X7_han
  refine z_rcs hc hH 3 (pc' := 137) (lv' := [(0, .int 9), (1, .int (nB o))]) (st' := [.int (nB o)]) (μ' := μ) (by rfl) ?_
  have hJ1 : Z 0 145 [(0, .int 9), (1, .int (nB o))] [.int (nB (!o))] μ := by
    exact hr 0 145 _ _ _ (some (.int (nB (!o)))) (by decide +kernel) ((fun b : Bool => (by cases b <;> rfl : z_rn mi_X7_han 145 [.int (nB b)] = some (some (.int (nB b))))) (!o)) (⟨rfl, (by rfl)⟩)
  refine zq_if hc hH (by rfl) (tg := 144) (by rfl) (fun h2 => ?_) (fun h2 => ?_)
  · have h2 : (o) = false := nB_z.mp (cm_eq9.mp h2)
    refine z_rcs hc hH 1 (pc' := 145) (lv' := [(0, .int 9), (1, .int (nB o))]) (st' := [.int 1]) (μ' := μ) (by rfl) ?_
    exact zJ hJ1 rfl (by first | with_reducible rfl | (simp only [h2, lb_f, Int64.or_zero, Int32.add_zero, nB_t, nB_f, Bool.not_true, Bool.not_false, Bool.and_true, Bool.true_and, Bool.false_and, Bool.and_false, Bool.or_true, Bool.true_or, Bool.false_or, Bool.or_false, cond_true, cond_false]; done) | rfl) rfl
  · have h2 : (o) = true := nB_n.mp (cn_eq.mp h2)
    refine z_rcs hc hH 2 (pc' := 145) (lv' := [(0, .int 9), (1, .int (nB o))]) (st' := [.int 0]) (μ' := μ) (by rfl) ?_
    exact zJ hJ1 rfl (by first | with_reducible rfl | (simp only [h2, lb_f, Int64.or_zero, Int32.add_zero, nB_t, nB_f, Bool.not_true, Bool.not_false, Bool.and_true, Bool.true_and, Bool.false_and, Bool.and_false, Bool.or_true, Bool.true_or, Bool.false_or, Bool.or_false, cond_true, cond_false]; done) | rfl) rfl
theorem fb_X7_han_10 (d : Nat) (hd : 1 ≤ d) (μ : zM) (o : Bool) : z_C d mi_X7_han [.int 10, .int (nB o)] μ (zR μ (.int (nB (!o)))) := by
  refine z_C_in (by decide) (by omega) (fun d' Z ed hc hr => ?_)
  have hH : zH mi_X7_han zt_X7_han 79 7 2 := hh_X7_han
  refine z_rcs hc hH 3 (pc' := 137) (lv' := [(0, .int 10), (1, .int (nB o))]) (st' := [.int (nB o)]) (μ' := μ) (by rfl) ?_
  have hJ1 : Z 0 145 [(0, .int 10), (1, .int (nB o))] [.int (nB (!o))] μ := by
    exact hr 0 145 _ _ _ (some (.int (nB (!o)))) (by decide +kernel) ((fun b : Bool => (by cases b <;> rfl : z_rn mi_X7_han 145 [.int (nB b)] = some (some (.int (nB b))))) (!o)) (⟨rfl, (by rfl)⟩)
  refine zq_if hc hH (by rfl) (tg := 144) (by rfl) (fun h2 => ?_) (fun h2 => ?_)
  · have h2 : (o) = false := nB_z.mp (cm_eq9.mp h2)
    refine z_rcs hc hH 1 (pc' := 145) (lv' := [(0, .int 10), (1, .int (nB o))]) (st' := [.int 1]) (μ' := μ) (by rfl) ?_
    exact zJ hJ1 rfl (by first | with_reducible rfl | (simp only [h2, lb_f, Int64.or_zero, Int32.add_zero, nB_t, nB_f, Bool.not_true, Bool.not_false, Bool.and_true, Bool.true_and, Bool.false_and, Bool.and_false, Bool.or_true, Bool.true_or, Bool.false_or, Bool.or_false, cond_true, cond_false]; done) | rfl) rfl
  · have h2 : (o) = true := nB_n.mp (cn_eq.mp h2)
    refine z_rcs hc hH 2 (pc' := 145) (lv' := [(0, .int 10), (1, .int (nB o))]) (st' := [.int 0]) (μ' := μ) (by rfl) ?_
    exact zJ hJ1 rfl (by first | with_reducible rfl | (simp only [h2, lb_f, Int64.or_zero, Int32.add_zero, nB_t, nB_f, Bool.not_true, Bool.not_false, Bool.and_true, Bool.true_and, Bool.false_and, Bool.and_false, Bool.or_true, Bool.true_or, Bool.false_or, Bool.or_false, cond_true, cond_false]; done) | rfl) rfl
theorem fb_X7_han_11 (d : Nat) (hd : 1 ≤ d) (μ : zM) (o : Bool) : z_C d mi_X7_han [.int 11, .int (nB o)] μ (zR μ (.int 1)) := by
  refine z_C_in (by decide) (by omega) (fun d' Z ed hc hr => ?_)
  have hH : zH mi_X7_han zt_X7_han 79 7 2 := hh_X7_han
  refine z_rcs hc hH 3 (pc' := 157) (lv' := [(0, .int 11), (1, .int (nB o))]) (st' := [.int 1]) (μ' := μ) (by rfl) ?_
  exact hr 0 157 _ _ _ (some (.int 1)) (by decide +kernel) (z_rx_ok hH (by rfl)) (⟨rfl, (by rfl)⟩)
theorem fb_X7_han_12 (d : Nat) (hd : 1 ≤ d) (μ : zM) (o : Bool) : z_C d mi_X7_han [.int 12, .int (nB o)] μ (zR μ (.int 1)) := by
  refine z_C_in (by decide) (by omega) (fun d' Z ed hc hr => ?_)
  have hH : zH mi_X7_han zt_X7_han 79 7 2 := hh_X7_han
  refine z_rcs hc hH 3 (pc' := 157) (lv' := [(0, .int 12), (1, .int (nB o))]) (st' := [.int 1]) (μ' := μ) (by rfl) ?_
  exact hr 0 157 _ _ _ (some (.int 1)) (by decide +kernel) (z_rx_ok hH (by rfl)) (⟨rfl, (by rfl)⟩)
theorem fb_X7_han_13 (d : Nat) (hd : 1 ≤ d) (μ : zM) (o : Bool) : z_C d mi_X7_han [.int 13, .int (nB o)] μ (zR μ (.int 1)) := by
  refine z_C_in (by decide) (by omega) (fun d' Z ed hc hr => ?_)
  have hH : zH mi_X7_han zt_X7_han 79 7 2 := hh_X7_han
  refine z_rcs hc hH 3 (pc' := 157) (lv' := [(0, .int 13), (1, .int (nB o))]) (st' := [.int 1]) (μ' := μ) (by rfl) ?_
  exact hr 0 157 _ _ _ (some (.int 1)) (by decide +kernel) (z_rx_ok hH (by rfl)) (⟨rfl, (by rfl)⟩)
theorem fb_X7_han_14 (d : Nat) (hd : 1 ≤ d) (μ : zM) (o : Bool) : z_C d mi_X7_han [.int 14, .int (nB o)] μ (zR μ (.int 1)) := by
  refine z_C_in (by decide) (by omega) (fun d' Z ed hc hr => ?_)
  have hH : zH mi_X7_han zt_X7_han 79 7 2 := hh_X7_han
  refine z_rcs hc hH 3 (pc' := 157) (lv' := [(0, .int 14), (1, .int (nB o))]) (st' := [.int 1]) (μ' := μ) (by rfl) ?_
  exact hr 0 157 _ _ _ (some (.int 1)) (by decide +kernel) (z_rx_ok hH (by rfl)) (⟨rfl, (by rfl)⟩)
theorem fb_X7_han_15 (d : Nat) (hd : 1 ≤ d) (μ : zM) (o : Bool) : z_C d mi_X7_han [.int 15, .int (nB o)] μ (zR μ (.int 1)) := by
  refine z_C_in (by decide) (by omega) (fun d' Z ed hc hr => ?_)
  have hH : zH mi_X7_han zt_X7_han 79 7 2 := hh_X7_han
  refine z_rcs hc hH 3 (pc' := 157) (lv' := [(0, .int 15), (1, .int (nB o))]) (st' := [.int 1]) (μ' := μ) (by rfl) ?_
  exact hr 0 157 _ _ _ (some (.int 1)) (by decide +kernel) (z_rx_ok hH (by rfl)) (⟨rfl, (by rfl)⟩)
theorem fb_X7_han_16 (d : Nat) (hd : 1 ≤ d) (μ : zM) (o : Bool) : z_C d mi_X7_han [.int 16, .int (nB o)] μ (zR μ (.int 2)) := by
  refine z_C_in (by decide) (by omega) (fun d' Z ed hc hr => ?_)
  have hH : zH mi_X7_han zt_X7_han 79 7 2 := hh_X7_han
  refine z_rcs hc hH 3 (pc' := 200) (lv' := [(0, .int 16), (1, .int (nB o))]) (st' := [.int 2]) (μ' := μ) (by rfl) ?_
  exact hr 0 200 _ _ _ (some (.int 2)) (by decide +kernel) (z_rx_ok hH (by rfl)) (⟨rfl, (by rfl)⟩)
theorem fb_X7_han_17 (d : Nat) (hd : 1 ≤ d) (μ : zM) (o : Bool) : z_C d mi_X7_han [.int 17, .int (nB o)] μ (zR μ (.int (bif o then (1 : Int32) else 2))) := by
  refine z_C_in (by decide) (by omega) (fun d' Z ed hc hr => ?_)
  have hH : zH mi_X7_han zt_X7_han 79 7 2 := hh_X7_han
  refine z_rcs hc hH 3 (pc' := 159) (lv' := [(0, .int 17), (1, .int (nB o))]) (st' := [.int (nB o)]) (μ' := μ) (by rfl) ?_
  have hJ1 : Z 0 167 [(0, .int 17), (1, .int (nB o))] [.int (bif o then (1 : Int32) else 2)] μ := by
    exact hr 0 167 _ _ _ (some (.int (bif o then (1 : Int32) else 2))) (by decide +kernel) (z_rx_ok hH (by rfl)) (⟨rfl, (by rfl)⟩)
  refine zq_if hc hH (by rfl) (tg := 166) (by rfl) (fun h2 => ?_) (fun h2 => ?_)
  · have h2 : (o) = false := nB_z.mp (cm_eq9.mp h2)
    refine z_rcs hc hH 1 (pc' := 167) (lv' := [(0, .int 17), (1, .int (nB o))]) (st' := [.int 2]) (μ' := μ) (by rfl) ?_
    exact zJ hJ1 rfl (by first | with_reducible rfl | (simp only [h2, lb_f, Int64.or_zero, Int32.add_zero, nB_t, nB_f, Bool.not_true, Bool.not_false, Bool.and_true, Bool.true_and, Bool.false_and, Bool.and_false, Bool.or_true, Bool.true_or, Bool.false_or, Bool.or_false, cond_true, cond_false]; done) | rfl) rfl
  · have h2 : (o) = true := nB_n.mp (cn_eq.mp h2)
    refine z_rcs hc hH 2 (pc' := 167) (lv' := [(0, .int 17), (1, .int (nB o))]) (st' := [.int 1]) (μ' := μ) (by rfl) ?_
    exact zJ hJ1 rfl (by first | with_reducible rfl | (simp only [h2, lb_f, Int64.or_zero, Int32.add_zero, nB_t, nB_f, Bool.not_true, Bool.not_false, Bool.and_true, Bool.true_and, Bool.false_and, Bool.and_false, Bool.or_true, Bool.true_or, Bool.false_or, Bool.or_false, cond_true, cond_false]; done) | rfl) rfl
theorem fb_X7_han_18 (d : Nat) (hd : 1 ≤ d) (μ : zM) (o : Bool) : z_C d mi_X7_han [.int 18, .int (nB o)] μ (zR μ (.int (bif o then (1 : Int32) else 2))) := by
  refine z_C_in (by decide) (by omega) (fun d' Z ed hc hr => ?_)
  have hH : zH mi_X7_han zt_X7_han 79 7 2 := hh_X7_han
  refine z_rcs hc hH 3 (pc' := 159) (lv' := [(0, .int 18), (1, .int (nB o))]) (st' := [.int (nB o)]) (μ' := μ) (by rfl) ?_
  have hJ1 : Z 0 167 [(0, .int 18), (1, .int (nB o))] [.int (bif o then (1 : Int32) else 2)] μ := by
    exact hr 0 167 _ _ _ (some (.int (bif o then (1 : Int32) else 2))) (by decide +kernel) (z_rx_ok hH (by rfl)) (⟨rfl, (by rfl)⟩)
  refine zq_if hc hH (by rfl) (tg := 166) (by rfl) (fun h2 => ?_) (fun h2 => ?_)
  · have h2 : (o) = false := nB_z.mp (cm_eq9.mp h2)
    refine z_rcs hc hH 1 (pc' := 167) (lv' := [(0, .int 18), (1, .int (nB o))]) (st' := [.int 2]) (μ' := μ) (by rfl) ?_
    exact zJ hJ1 rfl (by first | with_reducible rfl | (simp only [h2, lb_f, Int64.or_zero, Int32.add_zero, nB_t, nB_f, Bool.not_true, Bool.not_false, Bool.and_true, Bool.true_and, Bool.false_and, Bool.and_false, Bool.or_true, Bool.true_or, Bool.false_or, Bool.or_false, cond_true, cond_false]; done) | rfl) rfl
  · have h2 : (o) = true := nB_n.mp (cn_eq.mp h2)
    refine z_rcs hc hH 2 (pc' := 167) (lv' := [(0, .int 18), (1, .int (nB o))]) (st' := [.int 1]) (μ' := μ) (by rfl) ?_
    exact zJ hJ1 rfl (by first | with_reducible rfl | (simp only [h2, lb_f, Int64.or_zero, Int32.add_zero, nB_t, nB_f, Bool.not_true, Bool.not_false, Bool.and_true, Bool.true_and, Bool.false_and, Bool.and_false, Bool.or_true, Bool.true_or, Bool.false_or, Bool.or_false, cond_true, cond_false]; done) | rfl) rfl
theorem fb_X7_han_19 (d : Nat) (hd : 1 ≤ d) (μ : zM) (o : Bool) : z_C d mi_X7_han [.int 19, .int (nB o)] μ (zR μ (.int 2)) := by
  refine z_C_in (by decide) (by omega) (fun d' Z ed hc hr => ?_)
  have hH : zH mi_X7_han zt_X7_han 79 7 2 := hh_X7_han
  refine z_rcs hc hH 3 (pc' := 200) (lv' := [(0, .int 19), (1, .int (nB o))]) (st' := [.int 2]) (μ' := μ) (by rfl) ?_
  exact hr 0 200 _ _ _ (some (.int 2)) (by decide +kernel) (z_rx_ok hH (by rfl)) (⟨rfl, (by rfl)⟩)
theorem fb_X7_han_20 (d : Nat) (hd : 1 ≤ d) (μ : zM) (o : Bool) : z_C d mi_X7_han [.int 20, .int (nB o)] μ (zR μ (.int 2)) := by
  refine z_C_in (by decide) (by omega) (fun d' Z ed hc hr => ?_)
  have hH : zH mi_X7_han zt_X7_han 79 7 2 := hh_X7_han
  refine z_rcs hc hH 3 (pc' := 200) (lv' := [(0, .int 20), (1, .int (nB o))]) (st' := [.int 2]) (μ' := μ) (by rfl) ?_
  exact hr 0 200 _ _ _ (some (.int 2)) (by decide +kernel) (z_rx_ok hH (by rfl)) (⟨rfl, (by rfl)⟩)
theorem fb_X7_han_21 (d : Nat) (hd : 1 ≤ d) (μ : zM) (o : Bool) : z_C d mi_X7_han [.int 21, .int (nB o)] μ (zR μ (.int 2)) := by
  refine z_C_in (by decide) (by omega) (fun d' Z ed hc hr => ?_)
  have hH : zH mi_X7_han zt_X7_han 79 7 2 := hh_X7_han
  refine z_rcs hc hH 3 (pc' := 200) (lv' := [(0, .int 21), (1, .int (nB o))]) (st' := [.int 2]) (μ' := μ) (by rfl) ?_
  exact hr 0 200 _ _ _ (some (.int 2)) (by decide +kernel) (z_rx_ok hH (by rfl)) (⟨rfl, (by rfl)⟩)
theorem fb_X7_han_22 (d : Nat) (hd : 1 ≤ d) (μ : zM) (o : Bool) : z_C d mi_X7_han [.int 22, .int (nB o)] μ (zR μ (.int 2)) := by
  refine z_C_in (by decide) (by omega) (fun d' Z ed hc hr => ?_)
  have hH : zH mi_X7_han zt_X7_han 79 7 2 := hh_X7_han
  refine z_rcs hc hH 3 (pc' := 200) (lv' := [(0, .int 22), (1, .int (nB o))]) (st' := [.int 2]) (μ' := μ) (by rfl) ?_
  exact hr 0 200 _ _ _ (some (.int 2)) (by decide +kernel) (z_rx_ok hH (by rfl)) (⟨rfl, (by rfl)⟩)
theorem fb_X7_han_23 (d : Nat) (hd : 1 ≤ d) (μ : zM) (o : Bool) : z_C d mi_X7_han [.int 23, .int (nB o)] μ (zR μ (.int (bif o then (1 : Int32) else 2))) := by
  refine z_C_in (by decide) (by omega) (fun d' Z ed hc hr => ?_)
  have hH : zH mi_X7_han zt_X7_han 79 7 2 := hh_X7_han
  refine z_rcs hc hH 3 (pc' := 159) (lv' := [(0, .int 23), (1, .int (nB o))]) (st' := [.int (nB o)]) (μ' := μ) (by rfl) ?_
  have hJ1 : Z 0 167 [(0, .int 23), (1, .int (nB o))] [.int (bif o then (1 : Int32) else 2)] μ := by
    exact hr 0 167 _ _ _ (some (.int (bif o then (1 : Int32) else 2))) (by decide +kernel) (z_rx_ok hH (by rfl)) (⟨rfl, (by rfl)⟩)
  refine zq_if hc hH (by rfl) (tg := 166) (by rfl) (fun h2 => ?_) (fun h2 => ?_)
  · have h2 : (o) = false := nB_z.mp (cm_eq9.mp h2)
    refine z_rcs hc hH 1 (pc' := 167) (lv' := [(0, .int 23), (1, .int (nB o))]) (st' := [.int 2]) (μ' := μ) (by rfl) ?_
    exact zJ hJ1 rfl (by first | with_reducible rfl | (simp only [h2, lb_f, Int64.or_zero, Int32.add_zero, nB_t, nB_f, Bool.not_true, Bool.not_false, Bool.and_true, Bool.true_and, Bool.false_and, Bool.and_false, Bool.or_true, Bool.true_or, Bool.false_or, Bool.or_false, cond_true, cond_false]; done) | rfl) rfl
  · have h2 : (o) = true := nB_n.mp (cn_eq.mp h2)
    refine z_rcs hc hH 2 (pc' := 167) (lv' := [(0, .int 23), (1, .int (nB o))]) (st' := [.int 1]) (μ' := μ) (by rfl) ?_
    exact zJ hJ1 rfl (by first | with_reducible rfl | (simp only [h2, lb_f, Int64.or_zero, Int32.add_zero, nB_t, nB_f, Bool.not_true, Bool.not_false, Bool.and_true, Bool.true_and, Bool.false_and, Bool.and_false, Bool.or_true, Bool.true_or, Bool.false_or, Bool.or_false, cond_true, cond_false]; done) | rfl) rfl
theorem fb_X7_han_24 (d : Nat) (hd : 1 ≤ d) (μ : zM) (o : Bool) : z_C d mi_X7_han [.int 24, .int (nB o)] μ (zR μ (.int 2)) := by
  refine z_C_in (by decide) (by omega) (fun d' Z ed hc hr => ?_)
  have hH : zH mi_X7_han zt_X7_han 79 7 2 := hh_X7_han
  refine z_rcs hc hH 3 (pc' := 200) (lv' := [(0, .int 24), (1, .int (nB o))]) (st' := [.int 2]) (μ' := μ) (by rfl) ?_
  exact hr 0 200 _ _ _ (some (.int 2)) (by decide +kernel) (z_rx_ok hH (by rfl)) (⟨rfl, (by rfl)⟩)
theorem fb_X7_han_25 (d : Nat) (hd : 1 ≤ d) (μ : zM) (o : Bool) : z_C d mi_X7_han [.int 25, .int (nB o)] μ (zR μ (.int 2)) := by
  refine z_C_in (by decide) (by omega) (fun d' Z ed hc hr => ?_)
  have hH : zH mi_X7_han zt_X7_han 79 7 2 := hh_X7_han
  refine z_rcs hc hH 3 (pc' := 200) (lv' := [(0, .int 25), (1, .int (nB o))]) (st' := [.int 2]) (μ' := μ) (by rfl) ?_
  exact hr 0 200 _ _ _ (some (.int 2)) (by decide +kernel) (z_rx_ok hH (by rfl)) (⟨rfl, (by rfl)⟩)
theorem fb_X7_han_26 (d : Nat) (hd : 1 ≤ d) (μ : zM) (o : Bool) : z_C d mi_X7_han [.int 26, .int (nB o)] μ (zR μ (.int (bif o then (2 : Int32) else 3))) := by
  refine z_C_in (by decide) (by omega) (fun d' Z ed hc hr => ?_)
  have hH : zH mi_X7_han zt_X7_han 79 7 2 := hh_X7_han
  refine z_rcs hc hH 3 (pc' := 169) (lv' := [(0, .int 26), (1, .int (nB o))]) (st' := [.int (nB o)]) (μ' := μ) (by rfl) ?_
  have hJ1 : Z 0 177 [(0, .int 26), (1, .int (nB o))] [.int (bif o then (2 : Int32) else 3)] μ := by
    exact hr 0 177 _ _ _ (some (.int (bif o then (2 : Int32) else 3))) (by decide +kernel) (z_rx_ok hH (by rfl)) (⟨rfl, (by rfl)⟩)
  refine zq_if hc hH (by rfl) (tg := 176) (by rfl) (fun h2 => ?_) (fun h2 => ?_)
  · have h2 : (o) = false := nB_z.mp (cm_eq9.mp h2)
    refine z_rcs hc hH 1 (pc' := 177) (lv' := [(0, .int 26), (1, .int (nB o))]) (st' := [.int 3]) (μ' := μ) (by rfl) ?_
    exact zJ hJ1 rfl (by first | with_reducible rfl | (simp only [h2, lb_f, Int64.or_zero, Int32.add_zero, nB_t, nB_f, Bool.not_true, Bool.not_false, Bool.and_true, Bool.true_and, Bool.false_and, Bool.and_false, Bool.or_true, Bool.true_or, Bool.false_or, Bool.or_false, cond_true, cond_false]; done) | rfl) rfl
  · have h2 : (o) = true := nB_n.mp (cn_eq.mp h2)
    refine z_rcs hc hH 2 (pc' := 177) (lv' := [(0, .int 26), (1, .int (nB o))]) (st' := [.int 2]) (μ' := μ) (by rfl) ?_
    exact zJ hJ1 rfl (by first | with_reducible rfl | (simp only [h2, lb_f, Int64.or_zero, Int32.add_zero, nB_t, nB_f, Bool.not_true, Bool.not_false, Bool.and_true, Bool.true_and, Bool.false_and, Bool.and_false, Bool.or_true, Bool.true_or, Bool.false_or, Bool.or_false, cond_true, cond_false]; done) | rfl) rfl
theorem fb_X7_han_27 (d : Nat) (hd : 1 ≤ d) (μ : zM) (o : Bool) : z_C d mi_X7_han [.int 27, .int (nB o)] μ (zR μ (.int (bif o then (2 : Int32) else 3))) := by
  refine z_C_in (by decide) (by omega) (fun d' Z ed hc hr => ?_)
  have hH : zH mi_X7_han zt_X7_han 79 7 2 := hh_X7_han
  refine z_rcs hc hH 3 (pc' := 169) (lv' := [(0, .int 27), (1, .int (nB o))]) (st' := [.int (nB o)]) (μ' := μ) (by rfl) ?_
  have hJ1 : Z 0 177 [(0, .int 27), (1, .int (nB o))] [.int (bif o then (2 : Int32) else 3)] μ := by
    exact hr 0 177 _ _ _ (some (.int (bif o then (2 : Int32) else 3))) (by decide +kernel) (z_rx_ok hH (by rfl)) (⟨rfl, (by rfl)⟩)
  refine zq_if hc hH (by rfl) (tg := 176) (by rfl) (fun h2 => ?_) (fun h2 => ?_)
  · have h2 : (o) = false := nB_z.mp (cm_eq9.mp h2)
    refine z_rcs hc hH 1 (pc' := 177) (lv' := [(0, .int 27), (1, .int (nB o))]) (st' := [.int 3]) (μ' := μ) (by rfl) ?_
    exact zJ hJ1 rfl (by first | with_reducible rfl | (simp only [h2, lb_f, Int64.or_zero, Int32.add_zero, nB_t, nB_f, Bool.not_true, Bool.not_false, Bool.and_true, Bool.true_and, Bool.false_and, Bool.and_false, Bool.or_true, Bool.true_or, Bool.false_or, Bool.or_false, cond_true, cond_false]; done) | rfl) rfl
  · have h2 : (o) = true := nB_n.mp (cn_eq.mp h2)
    refine z_rcs hc hH 2 (pc' := 177) (lv' := [(0, .int 27), (1, .int (nB o))]) (st' := [.int 2]) (μ' := μ) (by rfl) ?_
    exact zJ hJ1 rfl (by first | with_reducible rfl | (simp only [h2, lb_f, Int64.or_zero, Int32.add_zero, nB_t, nB_f, Bool.not_true, Bool.not_false, Bool.and_true, Bool.true_and, Bool.false_and, Bool.and_false, Bool.or_true, Bool.true_or, Bool.false_or, Bool.or_false, cond_true, cond_false]; done) | rfl) rfl
theorem fb_X7_han_28 (d : Nat) (hd : 1 ≤ d) (μ : zM) (o : Bool) : z_C d mi_X7_han [.int 28, .int (nB o)] μ (zR μ (.int (bif o then (0 : Int32) else 3))) := by
  refine z_C_in (by decide) (by omega) (fun d' Z ed hc hr => ?_)
  have hH : zH mi_X7_han zt_X7_han 79 7 2 := hh_X7_han
  refine z_rcs hc hH 3 (pc' := 179) (lv' := [(0, .int 28), (1, .int (nB o))]) (st' := [.int (nB o)]) (μ' := μ) (by rfl) ?_
  have hJ1 : Z 0 187 [(0, .int 28), (1, .int (nB o))] [.int (bif o then (0 : Int32) else 3)] μ := by
    exact hr 0 187 _ _ _ (some (.int (bif o then (0 : Int32) else 3))) (by decide +kernel) (z_rx_ok hH (by rfl)) (⟨rfl, (by rfl)⟩)
  refine zq_if hc hH (by rfl) (tg := 186) (by rfl) (fun h2 => ?_) (fun h2 => ?_)
  · have h2 : (o) = false := nB_z.mp (cm_eq9.mp h2)
    refine z_rcs hc hH 1 (pc' := 187) (lv' := [(0, .int 28), (1, .int (nB o))]) (st' := [.int 3]) (μ' := μ) (by rfl) ?_
    exact zJ hJ1 rfl (by first | with_reducible rfl | (simp only [h2, lb_f, Int64.or_zero, Int32.add_zero, nB_t, nB_f, Bool.not_true, Bool.not_false, Bool.and_true, Bool.true_and, Bool.false_and, Bool.and_false, Bool.or_true, Bool.true_or, Bool.false_or, Bool.or_false, cond_true, cond_false]; done) | rfl) rfl
  · have h2 : (o) = true := nB_n.mp (cn_eq.mp h2)
    refine z_rcs hc hH 2 (pc' := 187) (lv' := [(0, .int 28), (1, .int (nB o))]) (st' := [.int 0]) (μ' := μ) (by rfl) ?_
    exact zJ hJ1 rfl (by first | with_reducible rfl | (simp only [h2, lb_f, Int64.or_zero, Int32.add_zero, nB_t, nB_f, Bool.not_true, Bool.not_false, Bool.and_true, Bool.true_and, Bool.false_and, Bool.and_false, Bool.or_true, Bool.true_or, Bool.false_or, Bool.or_false, cond_true, cond_false]; done) | rfl) rfl
theorem fb_X7_han_29 (d : Nat) (hd : 1 ≤ d) (μ : zM) (o : Bool) : z_C d mi_X7_han [.int 29, .int (nB o)] μ (zR μ (.int (bif o then (5 : Int32) else 6))) := by
  refine z_C_in (by decide) (by omega) (fun d' Z ed hc hr => ?_)
  have hH : zH mi_X7_han zt_X7_han 79 7 2 := hh_X7_han
  refine z_rcs hc hH 3 (pc' := 189) (lv' := [(0, .int 29), (1, .int (nB o))]) (st' := [.int (nB o)]) (μ' := μ) (by rfl) ?_
  have hJ1 : Z 0 198 [(0, .int 29), (1, .int (nB o))] [.int (bif o then (5 : Int32) else 6)] μ := by
    exact hr 0 198 _ _ _ (some (.int (bif o then (5 : Int32) else 6))) (by decide +kernel) (z_rx_ok hH (by rfl)) (⟨rfl, (by rfl)⟩)
  refine zq_if hc hH (by rfl) (tg := 196) (by rfl) (fun h2 => ?_) (fun h2 => ?_)
  · have h2 : (o) = false := nB_z.mp (cm_eq9.mp h2)
    refine z_rcs hc hH 1 (pc' := 198) (lv' := [(0, .int 29), (1, .int (nB o))]) (st' := [.int 6]) (μ' := μ) (by rfl) ?_
    exact zJ hJ1 rfl (by first | with_reducible rfl | (simp only [h2, lb_f, Int64.or_zero, Int32.add_zero, nB_t, nB_f, Bool.not_true, Bool.not_false, Bool.and_true, Bool.true_and, Bool.false_and, Bool.and_false, Bool.or_true, Bool.true_or, Bool.false_or, Bool.or_false, cond_true, cond_false]; done) | rfl) rfl
  · have h2 : (o) = true := nB_n.mp (cn_eq.mp h2)
    refine z_rcs hc hH 2 (pc' := 198) (lv' := [(0, .int 29), (1, .int (nB o))]) (st' := [.int 5]) (μ' := μ) (by rfl) ?_
    exact zJ hJ1 rfl (by first | with_reducible rfl | (simp only [h2, lb_f, Int64.or_zero, Int32.add_zero, nB_t, nB_f, Bool.not_true, Bool.not_false, Bool.and_true, Bool.true_and, Bool.false_and, Bool.and_false, Bool.or_true, Bool.true_or, Bool.false_or, Bool.or_false, cond_true, cond_false]; done) | rfl) rfl
theorem cq0 (d' : Nat) (Z : zK) (hd : 1 ≤ d') (μ : zM) (hc : z_clo z_x0 mi_X7_compare (z_C d') Z) (b1 : Bool) (g p : Int64) (f : Int32) (K : Z 0 141 [(2, .int 0), (0, .ref 50), (1, .int (nB b1))] [] (mGP μ (g ||| ((μ.2.1 50 12) &&& ((lb true 42) ||| (lb true 43)))) (bif b1 then p ||| ((μ.2.1 50 12) &&& ((((lb true 4) ||| (lb true 5)) ||| (lb true 6)) ||| (lb true 7))) else (bif decide ((lg_cmp ((μ.2.1 50 12) &&& (lb true 1)) 0) = 0) then ((p ||| ((μ.2.1 50 12) &&& ((((lb true 4) ||| (lb true 5)) ||| (lb true 6)) ||| (lb true 7)))) ||| ((μ.2.1 50 12) &&& ((lb true 1) ||| (lb true 2)))) ||| ((μ.2.1 50 12) &&& (lb true 0)) else (p ||| ((μ.2.1 50 12) &&& ((((lb true 4) ||| (lb true 5)) ||| (lb true 6)) ||| (lb true 7)))) ||| ((μ.2.1 50 12) &&& ((lb true 1) ||| (lb true 2)))) ||| (lb (!(decide ((μ.1 50 11) = 0))) 3)) f)) : Z 0 0 [(0, .ref 50), (1, .int (nB b1))] [] (mGP μ g p f) := by
  have hH : zH mi_X7_compare zt_X7_compare 79 7 7 := hh_X7_compare
  refine z_rcs hc hH 6 (pc' := 11) (lv' := [(0, .ref 50), (1, .int (nB b1))]) (st' := [.int 42, .long (μ.2.1 50 12), .long g, .ref 50]) (μ' := mGP μ g p f) (by rfl) ?_
  refine zq_call hc (z_cx_ok hH (by rfl)) (fb_X7_bit d' (by omega) (mGP μ g p f) 42) (by decide +kernel) (fun r9 μ9 hq => ?_)
  obtain ⟨hμ9, rfl⟩ := hq
  rw [hμ9]
  clear hμ9 μ9
  show Z 0 14 [(0, .ref 50), (1, .int (nB b1))] [.long (lb true 42), .long (μ.2.1 50 12), .long g, .ref 50] (mGP μ g p f)
  refine z_rcs hc hH 1 (pc' := 16) (lv' := [(0, .ref 50), (1, .int (nB b1))]) (st' := [.int 43, .long (lb true 42), .long (μ.2.1 50 12), .long g, .ref 50]) (μ' := mGP μ g p f) (by rfl) ?_
  refine zq_call hc (z_cx_ok hH (by rfl)) (fb_X7_bit d' (by omega) (mGP μ g p f) 43) (by decide +kernel) (fun r9 μ9 hq => ?_)
  obtain ⟨hμ9, rfl⟩ := hq
  rw [hμ9]
  clear hμ9 μ9
  show Z 0 19 [(0, .ref 50), (1, .int (nB b1))] [.long (lb true 43), .long (lb true 42), .long (μ.2.1 50 12), .long g, .ref 50] (mGP μ g p f)
  refine z_rcs hc hH 4 (pc' := 25) (lv' := [(0, .ref 50), (1, .int (nB b1))]) (st' := []) (μ' := z_uj (mGP μ g p f) 50 24 (g ||| ((μ.2.1 50 12) &&& ((lb true 42) ||| (lb true 43))))) (by rfl) ?_
  rw [mGP_g]
  refine z_rcs hc hH 6 (pc' := 35) (lv' := [(0, .ref 50), (1, .int (nB b1))]) (st' := [.int 4, .long (μ.2.1 50 12), .long p, .ref 50]) (μ' := mGP μ (g ||| ((μ.2.1 50 12) &&& ((lb true 42) ||| (lb true 43)))) p f) (by rfl) ?_
  refine zq_call hc (z_cx_ok hH (by rfl)) (fb_X7_bit d' (by omega) (mGP μ (g ||| ((μ.2.1 50 12) &&& ((lb true 42) ||| (lb true 43)))) p f) 4) (by decide +kernel) (fun r9 μ9 hq => ?_)
  obtain ⟨hμ9, rfl⟩ := hq
  rw [hμ9]
  clear hμ9 μ9
  show Z 0 38 [(0, .ref 50), (1, .int (nB b1))] [.long (lb true 4), .long (μ.2.1 50 12), .long p, .ref 50] _
  refine z_rcs0 hc hH 1 (pc' := 39) (lv' := [(0, .ref 50), (1, .int (nB b1))]) (st' := [.int 5, .long (lb true 4), .long (μ.2.1 50 12), .long p, .ref 50]) (by rfl) ?_
  refine zq_call hc (z_cx_ok hH (by rfl)) (fb_X7_bit d' (by omega) (mGP μ (g ||| ((μ.2.1 50 12) &&& ((lb true 42) ||| (lb true 43)))) p f) 5) (by decide +kernel) (fun r9 μ9 hq => ?_)
  obtain ⟨hμ9, rfl⟩ := hq
  rw [hμ9]
  clear hμ9 μ9
  show Z 0 42 [(0, .ref 50), (1, .int (nB b1))] [.long (lb true 5), .long (lb true 4), .long (μ.2.1 50 12), .long p, .ref 50] _
  refine z_rcs0 hc hH 2 (pc' := 45) (lv' := [(0, .ref 50), (1, .int (nB b1))]) (st' := [.int 6, .long ((lb true 4) ||| (lb true 5)), .long (μ.2.1 50 12), .long p, .ref 50]) (by rfl) ?_
  refine zq_call hc (z_cx_ok hH (by rfl)) (fb_X7_bit d' (by omega) (mGP μ (g ||| ((μ.2.1 50 12) &&& ((lb true 42) ||| (lb true 43)))) p f) 6) (by decide +kernel) (fun r9 μ9 hq => ?_)
  obtain ⟨hμ9, rfl⟩ := hq
  rw [hμ9]
  clear hμ9 μ9
  show Z 0 48 [(0, .ref 50), (1, .int (nB b1))] [.long (lb true 6), .long ((lb true 4) ||| (lb true 5)), .long (μ.2.1 50 12), .long p, .ref 50] _
  refine z_rcs0 hc hH 2 (pc' := 51) (lv' := [(0, .ref 50), (1, .int (nB b1))]) (st' := [.int 7, .long (((lb true 4) ||| (lb true 5)) ||| (lb true 6)), .long (μ.2.1 50 12), .long p, .ref 50]) (by rfl) ?_
  refine zq_call hc (z_cx_ok hH (by rfl)) (fb_X7_bit d' (by omega) (mGP μ (g ||| ((μ.2.1 50 12) &&& ((lb true 42) ||| (lb true 43)))) p f) 7) (by decide +kernel) (fun r9 μ9 hq => ?_)
  obtain ⟨hμ9, rfl⟩ := hq
  rw [hμ9]
  clear hμ9 μ9
  show Z 0 54 [(0, .ref 50), (1, .int (nB b1))] [.long (lb true 7), .long (((lb true 4) ||| (lb true 5)) ||| (lb true 6)), .long (μ.2.1 50 12), .long p, .ref 50] _
  refine z_rcs hc hH 4 (pc' := 60) (lv' := [(0, .ref 50), (1, .int (nB b1))]) (st' := []) (μ' := z_uj (mGP μ (g ||| ((μ.2.1 50 12) &&& ((lb true 42) ||| (lb true 43)))) p f) 50 25 (p ||| ((μ.2.1 50 12) &&& ((((lb true 4) ||| (lb true 5)) ||| (lb true 6)) ||| (lb true 7))))) (by rfl) ?_
  rw [mGP_p]
  refine z_rcs hc hH 1 (pc' := 61) (lv' := [(0, .ref 50), (1, .int (nB b1))]) (st' := [.int (nB b1)]) (μ' := mGP μ (g ||| ((μ.2.1 50 12) &&& ((lb true 42) ||| (lb true 43)))) (p ||| ((μ.2.1 50 12) &&& ((((lb true 4) ||| (lb true 5)) ||| (lb true 6)) ||| (lb true 7)))) f) (by rfl) ?_
  have hJ1 : Z 0 139 [(0, .ref 50), (1, .int (nB b1))] [] (mGP μ (g ||| ((μ.2.1 50 12) &&& ((lb true 42) ||| (lb true 43)))) (bif b1 then p ||| ((μ.2.1 50 12) &&& ((((lb true 4) ||| (lb true 5)) ||| (lb true 6)) ||| (lb true 7))) else (bif decide ((lg_cmp ((μ.2.1 50 12) &&& (lb true 1)) 0) = 0) then ((p ||| ((μ.2.1 50 12) &&& ((((lb true 4) ||| (lb true 5)) ||| (lb true 6)) ||| (lb true 7)))) ||| ((μ.2.1 50 12) &&& ((lb true 1) ||| (lb true 2)))) ||| ((μ.2.1 50 12) &&& (lb true 0)) else (p ||| ((μ.2.1 50 12) &&& ((((lb true 4) ||| (lb true 5)) ||| (lb true 6)) ||| (lb true 7)))) ||| ((μ.2.1 50 12) &&& ((lb true 1) ||| (lb true 2)))) ||| (lb (!(decide ((μ.1 50 11) = 0))) 3)) f) := by
    generalize hyy2 : (bif b1 then p ||| ((μ.2.1 50 12) &&& ((((lb true 4) ||| (lb true 5)) ||| (lb true 6)) ||| (lb true 7))) else (bif decide ((lg_cmp ((μ.2.1 50 12) &&& (lb true 1)) 0) = 0) then ((p ||| ((μ.2.1 50 12) &&& ((((lb true 4) ||| (lb true 5)) ||| (lb true 6)) ||| (lb true 7)))) ||| ((μ.2.1 50 12) &&& ((lb true 1) ||| (lb true 2)))) ||| ((μ.2.1 50 12) &&& (lb true 0)) else (p ||| ((μ.2.1 50 12) &&& ((((lb true 4) ||| (lb true 5)) ||| (lb true 6)) ||| (lb true 7)))) ||| ((μ.2.1 50 12) &&& ((lb true 1) ||| (lb true 2)))) ||| (lb (!(decide ((μ.1 50 11) = 0))) 3) : Int64) = yy2
    refine z_rcs hc hH 2 (pc' := 141) (lv' := [(2, .int 0), (0, .ref 50), (1, .int (nB b1))]) (st' := []) (μ' := mGP μ (g ||| ((μ.2.1 50 12) &&& ((lb true 42) ||| (lb true 43)))) yy2 f) (by rfl) ?_
    subst hyy2
    exact K
  refine zq_if hc hH (by rfl) (tg := 139) (by rfl) (fun h3 => ?_) (fun h3 => ?_)
  · have h3 : (b1) = true := nB_n.mp (cm_ne.mp h3)
    exact zJ hJ1 rfl rfl (by first | with_reducible rfl | (simp only [h3, lb_f, Int64.or_zero, Int32.add_zero, nB_t, nB_f, Bool.not_true, Bool.not_false, Bool.and_true, Bool.true_and, Bool.false_and, Bool.and_false, Bool.or_true, Bool.true_or, Bool.false_or, Bool.or_false, cond_true, cond_false]; done) | rfl)
  · have h3 : (b1) = false := nB_z.mp (cn_ne.mp h3)
    refine z_rcs hc hH 6 (pc' := 74) (lv' := [(0, .ref 50), (1, .int (nB b1))]) (st' := [.int 1, .long (μ.2.1 50 12), .long (p ||| ((μ.2.1 50 12) &&& ((((lb true 4) ||| (lb true 5)) ||| (lb true 6)) ||| (lb true 7)))), .ref 50]) (μ' := mGP μ (g ||| ((μ.2.1 50 12) &&& ((lb true 42) ||| (lb true 43)))) (p ||| ((μ.2.1 50 12) &&& ((((lb true 4) ||| (lb true 5)) ||| (lb true 6)) ||| (lb true 7)))) f) (by rfl) ?_
    refine zq_call hc (z_cx_ok hH (by rfl)) (fb_X7_bit d' (by omega) (mGP μ (g ||| ((μ.2.1 50 12) &&& ((lb true 42) ||| (lb true 43)))) (p ||| ((μ.2.1 50 12) &&& ((((lb true 4) ||| (lb true 5)) ||| (lb true 6)) ||| (lb true 7)))) f) 1) (by decide +kernel) (fun r9 μ9 hq => ?_)
    obtain ⟨hμ9, rfl⟩ := hq
    rw [hμ9]
    clear hμ9 μ9
    show Z 0 77 [(0, .ref 50), (1, .int (nB b1))] [.long (lb true 1), .long (μ.2.1 50 12), .long (p ||| ((μ.2.1 50 12) &&& ((((lb true 4) ||| (lb true 5)) ||| (lb true 6)) ||| (lb true 7)))), .ref 50] _
    refine z_rcs0 hc hH 1 (pc' := 78) (lv' := [(0, .ref 50), (1, .int (nB b1))]) (st' := [.int 2, .long (lb true 1), .long (μ.2.1 50 12), .long (p ||| ((μ.2.1 50 12) &&& ((((lb true 4) ||| (lb true 5)) ||| (lb true 6)) ||| (lb true 7)))), .ref 50]) (by rfl) ?_
    refine zq_call hc (z_cx_ok hH (by rfl)) (fb_X7_bit d' (by omega) (mGP μ (g ||| ((μ.2.1 50 12) &&& ((lb true 42) ||| (lb true 43)))) (p ||| ((μ.2.1 50 12) &&& ((((lb true 4) ||| (lb true 5)) ||| (lb true 6)) ||| (lb true 7)))) f) 2) (by decide +kernel) (fun r9 μ9 hq => ?_)
    obtain ⟨hμ9, rfl⟩ := hq
    rw [hμ9]
    clear hμ9 μ9
    show Z 0 81 [(0, .ref 50), (1, .int (nB b1))] [.long (lb true 2), .long (lb true 1), .long (μ.2.1 50 12), .long (p ||| ((μ.2.1 50 12) &&& ((((lb true 4) ||| (lb true 5)) ||| (lb true 6)) ||| (lb true 7)))), .ref 50] _
    refine z_rcs hc hH 4 (pc' := 87) (lv' := [(0, .ref 50), (1, .int (nB b1))]) (st' := []) (μ' := z_uj (mGP μ (g ||| ((μ.2.1 50 12) &&& ((lb true 42) ||| (lb true 43)))) (p ||| ((μ.2.1 50 12) &&& ((((lb true 4) ||| (lb true 5)) ||| (lb true 6)) ||| (lb true 7)))) f) 50 25 ((p ||| ((μ.2.1 50 12) &&& ((((lb true 4) ||| (lb true 5)) ||| (lb true 6)) ||| (lb true 7)))) ||| ((μ.2.1 50 12) &&& ((lb true 1) ||| (lb true 2))))) (by rfl) ?_
    rw [mGP_p]
    refine z_rcs hc hH 3 (pc' := 92) (lv' := [(0, .ref 50), (1, .int (nB b1))]) (st' := [.int 1, .long (μ.2.1 50 12)]) (μ' := mGP μ (g ||| ((μ.2.1 50 12) &&& ((lb true 42) ||| (lb true 43)))) ((p ||| ((μ.2.1 50 12) &&& ((((lb true 4) ||| (lb true 5)) ||| (lb true 6)) ||| (lb true 7)))) ||| ((μ.2.1 50 12) &&& ((lb true 1) ||| (lb true 2)))) f) (by rfl) ?_
    refine zq_call hc (z_cx_ok hH (by rfl)) (fb_X7_bit d' (by omega) (mGP μ (g ||| ((μ.2.1 50 12) &&& ((lb true 42) ||| (lb true 43)))) ((p ||| ((μ.2.1 50 12) &&& ((((lb true 4) ||| (lb true 5)) ||| (lb true 6)) ||| (lb true 7)))) ||| ((μ.2.1 50 12) &&& ((lb true 1) ||| (lb true 2)))) f) 1) (by decide +kernel) (fun r9 μ9 hq => ?_)
    obtain ⟨hμ9, rfl⟩ := hq
    rw [hμ9]
    clear hμ9 μ9
    show Z 0 95 [(0, .ref 50), (1, .int (nB b1))] [.long (lb true 1), .long (μ.2.1 50 12)] _
    refine z_rcs0 hc hH 3 (pc' := 98) (lv' := [(0, .ref 50), (1, .int (nB b1))]) (st' := [.int (lg_cmp ((μ.2.1 50 12) &&& (lb true 1)) 0)]) (by rfl) ?_
    have hJ4 : Z 0 119 [(0, .ref 50), (1, .int (nB b1))] [] (mGP μ (g ||| ((μ.2.1 50 12) &&& ((lb true 42) ||| (lb true 43)))) (bif decide ((lg_cmp ((μ.2.1 50 12) &&& (lb true 1)) 0) = 0) then ((p ||| ((μ.2.1 50 12) &&& ((((lb true 4) ||| (lb true 5)) ||| (lb true 6)) ||| (lb true 7)))) ||| ((μ.2.1 50 12) &&& ((lb true 1) ||| (lb true 2)))) ||| ((μ.2.1 50 12) &&& (lb true 0)) else (p ||| ((μ.2.1 50 12) &&& ((((lb true 4) ||| (lb true 5)) ||| (lb true 6)) ||| (lb true 7)))) ||| ((μ.2.1 50 12) &&& ((lb true 1) ||| (lb true 2)))) f) := by
      generalize hyy5 : (bif decide ((lg_cmp ((μ.2.1 50 12) &&& (lb true 1)) 0) = 0) then ((p ||| ((μ.2.1 50 12) &&& ((((lb true 4) ||| (lb true 5)) ||| (lb true 6)) ||| (lb true 7)))) ||| ((μ.2.1 50 12) &&& ((lb true 1) ||| (lb true 2)))) ||| ((μ.2.1 50 12) &&& (lb true 0)) else (p ||| ((μ.2.1 50 12) &&& ((((lb true 4) ||| (lb true 5)) ||| (lb true 6)) ||| (lb true 7)))) ||| ((μ.2.1 50 12) &&& ((lb true 1) ||| (lb true 2))) : Int64) = yy5
      refine z_rcs hc hH 2 (pc' := 123) (lv' := [(0, .ref 50), (1, .int (nB b1))]) (st' := [.int (μ.1 50 11)]) (μ' := mGP μ (g ||| ((μ.2.1 50 12) &&& ((lb true 42) ||| (lb true 43)))) yy5 f) (by rfl) ?_
      refine zq_if hc hH (by rfl) (tg := 139) (by rfl) (fun h6 => ?_) (fun h6 => ?_)
      · have h6 : (decide ((μ.1 50 11) = 0)) = true := decide_eq_true (cm_eq9.mp h6)
        subst hyy5
        exact zJ hJ1 rfl rfl (by first | with_reducible rfl | (simp only [h3, h6, lb_f, Int64.or_zero, Int32.add_zero, nB_t, nB_f, Bool.not_true, Bool.not_false, Bool.and_true, Bool.true_and, Bool.false_and, Bool.and_false, Bool.or_true, Bool.true_or, Bool.false_or, Bool.or_false, cond_true, cond_false]; done) | rfl)
      · have h6 : (decide ((μ.1 50 11) = 0)) = false := decide_eq_false (cn_eq.mp h6)
        refine z_rcs0 hc hH 4 (pc' := 132) (lv' := [(0, .ref 50), (1, .int (nB b1))]) (st' := [.int 3, .long yy5, .ref 50]) (by rfl) ?_
        refine zq_call hc (z_cx_ok hH (by rfl)) (fb_X7_bit d' (by omega) (mGP μ (g ||| ((μ.2.1 50 12) &&& ((lb true 42) ||| (lb true 43)))) yy5 f) 3) (by decide +kernel) (fun r9 μ9 hq => ?_)
        obtain ⟨hμ9, rfl⟩ := hq
        rw [hμ9]
        clear hμ9 μ9
        show Z 0 135 [(0, .ref 50), (1, .int (nB b1))] [.long (lb true 3), .long yy5, .ref 50] _
        refine z_rcs hc hH 2 (pc' := 139) (lv' := [(0, .ref 50), (1, .int (nB b1))]) (st' := []) (μ' := z_uj (mGP μ (g ||| ((μ.2.1 50 12) &&& ((lb true 42) ||| (lb true 43)))) yy5 f) 50 25 (yy5 ||| (lb true 3))) (by rfl) ?_
        rw [mGP_p]
        subst hyy5
        exact zJ hJ1 rfl rfl (by first | with_reducible rfl | (simp only [h3, h6, lb_f, Int64.or_zero, Int32.add_zero, nB_t, nB_f, Bool.not_true, Bool.not_false, Bool.and_true, Bool.true_and, Bool.false_and, Bool.and_false, Bool.or_true, Bool.true_or, Bool.false_or, Bool.or_false, cond_true, cond_false]; done) | rfl)
    refine zq_if hc hH (by rfl) (tg := 119) (by rfl) (fun h7 => ?_) (fun h7 => ?_)
    · have h7 : (decide ((lg_cmp ((μ.2.1 50 12) &&& (lb true 1)) 0) = 0)) = false := decide_eq_false (cm_ne.mp h7)
      exact zJ hJ4 rfl rfl (by first | with_reducible rfl | (simp only [h7, lb_f, Int64.or_zero, Int32.add_zero, nB_t, nB_f, Bool.not_true, Bool.not_false, Bool.and_true, Bool.true_and, Bool.false_and, Bool.and_false, Bool.or_true, Bool.true_or, Bool.false_or, Bool.or_false, cond_true, cond_false]; done) | rfl)
    · have h7 : (decide ((lg_cmp ((μ.2.1 50 12) &&& (lb true 1)) 0) = 0)) = true := decide_eq_true (cn_ne.mp h7)
      refine z_rcs hc hH 6 (pc' := 111) (lv' := [(0, .ref 50), (1, .int (nB b1))]) (st' := [.int 0, .long (μ.2.1 50 12), .long ((p ||| ((μ.2.1 50 12) &&& ((((lb true 4) ||| (lb true 5)) ||| (lb true 6)) ||| (lb true 7)))) ||| ((μ.2.1 50 12) &&& ((lb true 1) ||| (lb true 2)))), .ref 50]) (μ' := mGP μ (g ||| ((μ.2.1 50 12) &&& ((lb true 42) ||| (lb true 43)))) ((p ||| ((μ.2.1 50 12) &&& ((((lb true 4) ||| (lb true 5)) ||| (lb true 6)) ||| (lb true 7)))) ||| ((μ.2.1 50 12) &&& ((lb true 1) ||| (lb true 2)))) f) (by rfl) ?_
      refine zq_call hc (z_cx_ok hH (by rfl)) (fb_X7_bit d' (by omega) (mGP μ (g ||| ((μ.2.1 50 12) &&& ((lb true 42) ||| (lb true 43)))) ((p ||| ((μ.2.1 50 12) &&& ((((lb true 4) ||| (lb true 5)) ||| (lb true 6)) ||| (lb true 7)))) ||| ((μ.2.1 50 12) &&& ((lb true 1) ||| (lb true 2)))) f) 0) (by decide +kernel) (fun r9 μ9 hq => ?_)
      obtain ⟨hμ9, rfl⟩ := hq
      rw [hμ9]
      clear hμ9 μ9
      show Z 0 114 [(0, .ref 50), (1, .int (nB b1))] [.long (lb true 0), .long (μ.2.1 50 12), .long ((p ||| ((μ.2.1 50 12) &&& ((((lb true 4) ||| (lb true 5)) ||| (lb true 6)) ||| (lb true 7)))) ||| ((μ.2.1 50 12) &&& ((lb true 1) ||| (lb true 2)))), .ref 50] _
      refine z_rcs hc hH 3 (pc' := 119) (lv' := [(0, .ref 50), (1, .int (nB b1))]) (st' := []) (μ' := z_uj (mGP μ (g ||| ((μ.2.1 50 12) &&& ((lb true 42) ||| (lb true 43)))) ((p ||| ((μ.2.1 50 12) &&& ((((lb true 4) ||| (lb true 5)) ||| (lb true 6)) ||| (lb true 7)))) ||| ((μ.2.1 50 12) &&& ((lb true 1) ||| (lb true 2)))) f) 50 25 (((p ||| ((μ.2.1 50 12) &&& ((((lb true 4) ||| (lb true 5)) ||| (lb true 6)) ||| (lb true 7)))) ||| ((μ.2.1 50 12) &&& ((lb true 1) ||| (lb true 2)))) ||| ((μ.2.1 50 12) &&& (lb true 0)))) (by rfl) ?_
      rw [mGP_p]
      exact zJ hJ4 rfl rfl (by first | with_reducible rfl | (simp only [h7, lb_f, Int64.or_zero, Int32.add_zero, nB_t, nB_f, Bool.not_true, Bool.not_false, Bool.and_true, Bool.true_and, Bool.false_and, Bool.and_false, Bool.or_true, Bool.true_or, Bool.false_or, Bool.or_false, cond_true, cond_false]; done) | rfl)
theorem cq150 (d' : Nat) (Z : zK) (hd : 1 ≤ d') (μ : zM) (hc : z_clo z_x0 mi_X7_compare (z_C d') Z) (b1 : Bool) (g p : Int64) (f : Int32) (K : Z 0 154 [(6, .int 32), (2, .int 0), (0, .ref 50), (1, .int (nB b1))] [] (mGP μ g p f)) : Z 0 150 [(2, .int 0), (0, .ref 50), (1, .int (nB b1))] [] (mGP μ g p f) := by
  have hH : zH mi_X7_compare zt_X7_compare 79 7 7 := hh_X7_compare
  refine z_rcs hc hH 2 (pc' := 154) (lv' := [(6, .int 32), (2, .int 0), (0, .ref 50), (1, .int (nB b1))]) (st' := []) (μ' := mGP μ g p f) (by rfl) ?_
  exact K
theorem cq154_0 (d' : Nat) (Z : zK) (hd : 1 ≤ d') (μ : zM) (hc : z_clo z_x0 mi_X7_compare (z_C d') Z) (b1 : Bool) (g p : Int64) (f : Int32) (K : Z 0 154 [(6, .int 33), (2, .int (0 + (((g >>> ((32 : Int32).toInt64 &&& 63)) &&& 1).toInt32))), (0, .ref 50), (1, .int (nB b1))] [] (mGP μ g p f)) : Z 0 154 [(6, .int 32), (2, .int 0), (0, .ref 50), (1, .int (nB b1))] [] (mGP μ g p f) := by
  have hH : zH mi_X7_compare zt_X7_compare 79 7 7 := hh_X7_compare
  refine z_rcs hc hH 15 (pc' := 154) (lv' := [(6, .int 33), (2, .int (0 + (((g >>> ((32 : Int32).toInt64 &&& 63)) &&& 1).toInt32))), (0, .ref 50), (1, .int (nB b1))]) (st' := []) (μ' := mGP μ g p f) (by rfl) ?_
  exact K
theorem cq154_1 (d' : Nat) (Z : zK) (hd : 1 ≤ d') (μ : zM) (hc : z_clo z_x0 mi_X7_compare (z_C d') Z) (x2 : Int32) (b1 : Bool) (g p : Int64) (f : Int32) (K : Z 0 154 [(6, .int 34), (2, .int (x2 + (((g >>> ((33 : Int32).toInt64 &&& 63)) &&& 1).toInt32))), (0, .ref 50), (1, .int (nB b1))] [] (mGP μ g p f)) : Z 0 154 [(6, .int 33), (2, .int x2), (0, .ref 50), (1, .int (nB b1))] [] (mGP μ g p f) := by
  have hH : zH mi_X7_compare zt_X7_compare 79 7 7 := hh_X7_compare
  refine z_rcs hc hH 15 (pc' := 154) (lv' := [(6, .int 34), (2, .int (x2 + (((g >>> ((33 : Int32).toInt64 &&& 63)) &&& 1).toInt32))), (0, .ref 50), (1, .int (nB b1))]) (st' := []) (μ' := mGP μ g p f) (by rfl) ?_
  exact K
theorem cq154_2 (d' : Nat) (Z : zK) (hd : 1 ≤ d') (μ : zM) (hc : z_clo z_x0 mi_X7_compare (z_C d') Z) (x2 : Int32) (b1 : Bool) (g p : Int64) (f : Int32) (K : Z 0 154 [(6, .int 35), (2, .int (x2 + (((g >>> ((34 : Int32).toInt64 &&& 63)) &&& 1).toInt32))), (0, .ref 50), (1, .int (nB b1))] [] (mGP μ g p f)) : Z 0 154 [(6, .int 34), (2, .int x2), (0, .ref 50), (1, .int (nB b1))] [] (mGP μ g p f) := by
  have hH : zH mi_X7_compare zt_X7_compare 79 7 7 := hh_X7_compare
  refine z_rcs hc hH 15 (pc' := 154) (lv' := [(6, .int 35), (2, .int (x2 + (((g >>> ((34 : Int32).toInt64 &&& 63)) &&& 1).toInt32))), (0, .ref 50), (1, .int (nB b1))]) (st' := []) (μ' := mGP μ g p f) (by rfl) ?_
  exact K
theorem cq154_3 (d' : Nat) (Z : zK) (hd : 1 ≤ d') (μ : zM) (hc : z_clo z_x0 mi_X7_compare (z_C d') Z) (x2 : Int32) (b1 : Bool) (g p : Int64) (f : Int32) (K : Z 0 154 [(6, .int 36), (2, .int (x2 + (((g >>> ((35 : Int32).toInt64 &&& 63)) &&& 1).toInt32))), (0, .ref 50), (1, .int (nB b1))] [] (mGP μ g p f)) : Z 0 154 [(6, .int 35), (2, .int x2), (0, .ref 50), (1, .int (nB b1))] [] (mGP μ g p f) := by
  have hH : zH mi_X7_compare zt_X7_compare 79 7 7 := hh_X7_compare
  refine z_rcs hc hH 15 (pc' := 154) (lv' := [(6, .int 36), (2, .int (x2 + (((g >>> ((35 : Int32).toInt64 &&& 63)) &&& 1).toInt32))), (0, .ref 50), (1, .int (nB b1))]) (st' := []) (μ' := mGP μ g p f) (by rfl) ?_
  exact K
theorem cq154_4 (d' : Nat) (Z : zK) (hd : 1 ≤ d') (μ : zM) (hc : z_clo z_x0 mi_X7_compare (z_C d') Z) (x2 : Int32) (b1 : Bool) (g p : Int64) (f : Int32) (K : Z 0 154 [(6, .int 37), (2, .int (x2 + (((g >>> ((36 : Int32).toInt64 &&& 63)) &&& 1).toInt32))), (0, .ref 50), (1, .int (nB b1))] [] (mGP μ g p f)) : Z 0 154 [(6, .int 36), (2, .int x2), (0, .ref 50), (1, .int (nB b1))] [] (mGP μ g p f) := by
  have hH : zH mi_X7_compare zt_X7_compare 79 7 7 := hh_X7_compare
  refine z_rcs hc hH 15 (pc' := 154) (lv' := [(6, .int 37), (2, .int (x2 + (((g >>> ((36 : Int32).toInt64 &&& 63)) &&& 1).toInt32))), (0, .ref 50), (1, .int (nB b1))]) (st' := []) (μ' := mGP μ g p f) (by rfl) ?_
  exact K
theorem cq154_5 (d' : Nat) (Z : zK) (hd : 1 ≤ d') (μ : zM) (hc : z_clo z_x0 mi_X7_compare (z_C d') Z) (x2 : Int32) (b1 : Bool) (g p : Int64) (f : Int32) (K : Z 0 154 [(6, .int 38), (2, .int (x2 + (((g >>> ((37 : Int32).toInt64 &&& 63)) &&& 1).toInt32))), (0, .ref 50), (1, .int (nB b1))] [] (mGP μ g p f)) : Z 0 154 [(6, .int 37), (2, .int x2), (0, .ref 50), (1, .int (nB b1))] [] (mGP μ g p f) := by
  have hH : zH mi_X7_compare zt_X7_compare 79 7 7 := hh_X7_compare
  refine z_rcs hc hH 15 (pc' := 154) (lv' := [(6, .int 38), (2, .int (x2 + (((g >>> ((37 : Int32).toInt64 &&& 63)) &&& 1).toInt32))), (0, .ref 50), (1, .int (nB b1))]) (st' := []) (μ' := mGP μ g p f) (by rfl) ?_
  exact K
theorem cq154_6 (d' : Nat) (Z : zK) (hd : 1 ≤ d') (μ : zM) (hc : z_clo z_x0 mi_X7_compare (z_C d') Z) (x2 : Int32) (b1 : Bool) (g p : Int64) (f : Int32) (K : Z 0 154 [(6, .int 39), (2, .int (x2 + (((g >>> ((38 : Int32).toInt64 &&& 63)) &&& 1).toInt32))), (0, .ref 50), (1, .int (nB b1))] [] (mGP μ g p f)) : Z 0 154 [(6, .int 38), (2, .int x2), (0, .ref 50), (1, .int (nB b1))] [] (mGP μ g p f) := by
  have hH : zH mi_X7_compare zt_X7_compare 79 7 7 := hh_X7_compare
  refine z_rcs hc hH 15 (pc' := 154) (lv' := [(6, .int 39), (2, .int (x2 + (((g >>> ((38 : Int32).toInt64 &&& 63)) &&& 1).toInt32))), (0, .ref 50), (1, .int (nB b1))]) (st' := []) (μ' := mGP μ g p f) (by rfl) ?_
  exact K
theorem cq154_7 (d' : Nat) (Z : zK) (hd : 1 ≤ d') (μ : zM) (hc : z_clo z_x0 mi_X7_compare (z_C d') Z) (x2 : Int32) (b1 : Bool) (g p : Int64) (f : Int32) (K : Z 0 154 [(6, .int 40), (2, .int (x2 + (((g >>> ((39 : Int32).toInt64 &&& 63)) &&& 1).toInt32))), (0, .ref 50), (1, .int (nB b1))] [] (mGP μ g p f)) : Z 0 154 [(6, .int 39), (2, .int x2), (0, .ref 50), (1, .int (nB b1))] [] (mGP μ g p f) := by
  have hH : zH mi_X7_compare zt_X7_compare 79 7 7 := hh_X7_compare
  refine z_rcs hc hH 15 (pc' := 154) (lv' := [(6, .int 40), (2, .int (x2 + (((g >>> ((39 : Int32).toInt64 &&& 63)) &&& 1).toInt32))), (0, .ref 50), (1, .int (nB b1))]) (st' := []) (μ' := mGP μ g p f) (by rfl) ?_
  exact K
theorem cq154_8 (d' : Nat) (Z : zK) (hd : 1 ≤ d') (μ : zM) (hc : z_clo z_x0 mi_X7_compare (z_C d') Z) (x2 : Int32) (b1 : Bool) (g p : Int64) (f : Int32) (K : Z 0 154 [(6, .int 41), (2, .int (x2 + (((g >>> ((40 : Int32).toInt64 &&& 63)) &&& 1).toInt32))), (0, .ref 50), (1, .int (nB b1))] [] (mGP μ g p f)) : Z 0 154 [(6, .int 40), (2, .int x2), (0, .ref 50), (1, .int (nB b1))] [] (mGP μ g p f) := by
  have hH : zH mi_X7_compare zt_X7_compare 79 7 7 := hh_X7_compare
  refine z_rcs hc hH 15 (pc' := 154) (lv' := [(6, .int 41), (2, .int (x2 + (((g >>> ((40 : Int32).toInt64 &&& 63)) &&& 1).toInt32))), (0, .ref 50), (1, .int (nB b1))]) (st' := []) (μ' := mGP μ g p f) (by rfl) ?_
  exact K
theorem cq154_9 (d' : Nat) (Z : zK) (hd : 1 ≤ d') (μ : zM) (hc : z_clo z_x0 mi_X7_compare (z_C d') Z) (x2 : Int32) (b1 : Bool) (g p : Int64) (f : Int32) (K : Z 0 154 [(6, .int 42), (2, .int (x2 + (((g >>> ((41 : Int32).toInt64 &&& 63)) &&& 1).toInt32))), (0, .ref 50), (1, .int (nB b1))] [] (mGP μ g p f)) : Z 0 154 [(6, .int 41), (2, .int x2), (0, .ref 50), (1, .int (nB b1))] [] (mGP μ g p f) := by
  have hH : zH mi_X7_compare zt_X7_compare 79 7 7 := hh_X7_compare
  refine z_rcs hc hH 15 (pc' := 154) (lv' := [(6, .int 42), (2, .int (x2 + (((g >>> ((41 : Int32).toInt64 &&& 63)) &&& 1).toInt32))), (0, .ref 50), (1, .int (nB b1))]) (st' := []) (μ' := mGP μ g p f) (by rfl) ?_
  exact K
theorem cq154_10 (d' : Nat) (Z : zK) (hd : 1 ≤ d') (μ : zM) (hc : z_clo z_x0 mi_X7_compare (z_C d') Z) (x2 : Int32) (b1 : Bool) (g p : Int64) (f : Int32) (K : Z 0 154 [(6, .int 43), (2, .int (x2 + (((g >>> ((42 : Int32).toInt64 &&& 63)) &&& 1).toInt32))), (0, .ref 50), (1, .int (nB b1))] [] (mGP μ g p f)) : Z 0 154 [(6, .int 42), (2, .int x2), (0, .ref 50), (1, .int (nB b1))] [] (mGP μ g p f) := by
  have hH : zH mi_X7_compare zt_X7_compare 79 7 7 := hh_X7_compare
  refine z_rcs hc hH 15 (pc' := 154) (lv' := [(6, .int 43), (2, .int (x2 + (((g >>> ((42 : Int32).toInt64 &&& 63)) &&& 1).toInt32))), (0, .ref 50), (1, .int (nB b1))]) (st' := []) (μ' := mGP μ g p f) (by rfl) ?_
  exact K
theorem cq154_11 (d' : Nat) (Z : zK) (hd : 1 ≤ d') (μ : zM) (hc : z_clo z_x0 mi_X7_compare (z_C d') Z) (x2 : Int32) (b1 : Bool) (g p : Int64) (f : Int32) (K : Z 0 154 [(6, .int 44), (2, .int (x2 + (((g >>> ((43 : Int32).toInt64 &&& 63)) &&& 1).toInt32))), (0, .ref 50), (1, .int (nB b1))] [] (mGP μ g p f)) : Z 0 154 [(6, .int 43), (2, .int x2), (0, .ref 50), (1, .int (nB b1))] [] (mGP μ g p f) := by
  have hH : zH mi_X7_compare zt_X7_compare 79 7 7 := hh_X7_compare
  refine z_rcs hc hH 15 (pc' := 154) (lv' := [(6, .int 44), (2, .int (x2 + (((g >>> ((43 : Int32).toInt64 &&& 63)) &&& 1).toInt32))), (0, .ref 50), (1, .int (nB b1))]) (st' := []) (μ' := mGP μ g p f) (by rfl) ?_
  exact K
theorem cq154_12 (d' : Nat) (Z : zK) (hd : 1 ≤ d') (μ : zM) (hc : z_clo z_x0 mi_X7_compare (z_C d') Z) (x2 : Int32) (b1 : Bool) (g p : Int64) (f : Int32) (K : Z 0 339 [(4, .long g), (2, .int (x2 * 13)), (3, .int (8000 * x2)), (6, .int 44), (0, .ref 50), (1, .int (nB b1))] [] (mGP μ g p f)) : Z 0 154 [(6, .int 44), (2, .int x2), (0, .ref 50), (1, .int (nB b1))] [] (mGP μ g p f) := by
  have hH : zH mi_X7_compare zt_X7_compare 79 7 7 := hh_X7_compare
  refine z_rcs hc hH 15 (pc' := 339) (lv' := [(4, .long g), (2, .int (x2 * 13)), (3, .int (8000 * x2)), (6, .int 44), (0, .ref 50), (1, .int (nB b1))]) (st' := []) (μ' := mGP μ g p f) (by rfl) ?_
  exact K
theorem cq200 (d' : Nat) (Z : zK) (hd : 1 ≤ d') (μ : zM) (hc : z_clo z_x0 mi_X7_compare (z_C d') Z) (b1 : Bool) (g p : Int64) (f : Int32) (K : Z 0 203 [(6, .int 0), (2, .int 0), (0, .ref 50), (1, .int (nB b1))] [] (mGP μ g p f)) : Z 0 200 [(2, .int 0), (0, .ref 50), (1, .int (nB b1))] [] (mGP μ g p f) := by
  have hH : zH mi_X7_compare zt_X7_compare 79 7 7 := hh_X7_compare
  refine z_rcs hc hH 2 (pc' := 203) (lv' := [(6, .int 0), (2, .int 0), (0, .ref 50), (1, .int (nB b1))]) (st' := []) (μ' := mGP μ g p f) (by rfl) ?_
  exact K
theorem cq203_0 (d' : Nat) (Z : zK) (hd : 1 ≤ d') (μ : zM) (hc : z_clo z_x0 mi_X7_compare (z_C d') Z) (b1 : Bool) (g p : Int64) (f : Int32) (K : Z 0 203 [(6, .int 1), (2, .int (0 + (nB ((decide ((lg_cmp ((p >>> ((0 : Int32).toInt64 &&& 63)) &&& 1) 1) = 0)) && (!b1))))), (0, .ref 50), (1, .int (nB b1))] [] (mGP μ g p f)) : Z 0 203 [(6, .int 0), (2, .int 0), (0, .ref 50), (1, .int (nB b1))] [] (mGP μ g p f) := by
  have hH : zH mi_X7_compare zt_X7_compare 79 7 7 := hh_X7_compare
  refine z_rcs hc hH 12 (pc' := 222) (lv' := [(6, .int 0), (2, .int 0), (0, .ref 50), (1, .int (nB b1))]) (st' := [.int (lg_cmp ((p >>> ((0 : Int32).toInt64 &&& 63)) &&& 1) 1), .int 0]) (μ' := mGP μ g p f) (by rfl) ?_
  have hJ1 : Z 0 235 [(6, .int 0), (2, .int 0), (0, .ref 50), (1, .int (nB b1))] [.int (nB ((decide ((lg_cmp ((p >>> ((0 : Int32).toInt64 &&& 63)) &&& 1) 1) = 0)) && (!b1))), .int 0] (mGP μ g p f) := by
    generalize hee2 : ((decide ((lg_cmp ((p >>> ((0 : Int32).toInt64 &&& 63)) &&& 1) 1) = 0)) && (!b1)) = ee2
    refine z_rcs hc hH 4 (pc' := 203) (lv' := [(6, .int 1), (2, .int (0 + (nB ee2))), (0, .ref 50), (1, .int (nB b1))]) (st' := []) (μ' := mGP μ g p f) (by rfl) ?_
    subst hee2
    exact K
  refine zq_if hc hH (by rfl) (tg := 234) (by rfl) (fun h3 => ?_) (fun h3 => ?_)
  · have h3 : (decide ((lg_cmp ((p >>> ((0 : Int32).toInt64 &&& 63)) &&& 1) 1) = 0)) = false := decide_eq_false (cm_ne.mp h3)
    refine z_rcs hc hH 1 (pc' := 235) (lv' := [(6, .int 0), (2, .int 0), (0, .ref 50), (1, .int (nB b1))]) (st' := [.int 0, .int 0]) (μ' := mGP μ g p f) (by rfl) ?_
    exact zJ hJ1 rfl (by first | with_reducible rfl | (simp only [h3, lb_f, Int64.or_zero, Int32.add_zero, nB_t, nB_f, Bool.not_true, Bool.not_false, Bool.and_true, Bool.true_and, Bool.false_and, Bool.and_false, Bool.or_true, Bool.true_or, Bool.false_or, Bool.or_false, cond_true, cond_false]; done) | rfl) rfl
  · have h3 : (decide ((lg_cmp ((p >>> ((0 : Int32).toInt64 &&& 63)) &&& 1) 1) = 0)) = true := decide_eq_true (cn_ne.mp h3)
    refine z_rcs hc hH 2 (pc' := 228) (lv' := [(6, .int 0), (2, .int 0), (0, .ref 50), (1, .int (nB b1))]) (st' := [.int (nB b1), .int 0, .int 0]) (μ' := mGP μ g p f) (by rfl) ?_
    refine zq_call hc (z_cx_ok hH (by rfl)) (fb_X7_han_0 d' (by omega) (mGP μ g p f) b1) (by decide +kernel) (fun r9 μ9 hq => ?_)
    obtain ⟨hμ9, rfl⟩ := hq
    rw [hμ9]
    clear hμ9 μ9
    show Z 0 231 [(6, .int 0), (2, .int 0), (0, .ref 50), (1, .int (nB b1))] [.int (nB (!b1)), .int 0] (mGP μ g p f)
    refine z_rcs hc hH 1 (pc' := 235) (lv' := [(6, .int 0), (2, .int 0), (0, .ref 50), (1, .int (nB b1))]) (st' := [.int (nB (!b1)), .int 0]) (μ' := mGP μ g p f) (by rfl) ?_
    exact zJ hJ1 rfl (by first | with_reducible rfl | (simp only [h3, lb_f, Int64.or_zero, Int32.add_zero, nB_t, nB_f, Bool.not_true, Bool.not_false, Bool.and_true, Bool.true_and, Bool.false_and, Bool.and_false, Bool.or_true, Bool.true_or, Bool.false_or, Bool.or_false, cond_true, cond_false]; done) | rfl) rfl
theorem cq203_1 (d' : Nat) (Z : zK) (hd : 1 ≤ d') (μ : zM) (hc : z_clo z_x0 mi_X7_compare (z_C d') Z) (x2 : Int32) (b1 : Bool) (g p : Int64) (f : Int32) (K : Z 0 203 [(6, .int 2), (2, .int (x2 + (bif decide ((lg_cmp ((p >>> ((1 : Int32).toInt64 &&& 63)) &&& 1) 1) = 0) then bif b1 then (0 : Int32) else 2 else 0))), (0, .ref 50), (1, .int (nB b1))] [] (mGP μ g p f)) : Z 0 203 [(6, .int 1), (2, .int x2), (0, .ref 50), (1, .int (nB b1))] [] (mGP μ g p f) := by
  have hH : zH mi_X7_compare zt_X7_compare 79 7 7 := hh_X7_compare
  refine z_rcs hc hH 12 (pc' := 222) (lv' := [(6, .int 1), (2, .int x2), (0, .ref 50), (1, .int (nB b1))]) (st' := [.int (lg_cmp ((p >>> ((1 : Int32).toInt64 &&& 63)) &&& 1) 1), .int x2]) (μ' := mGP μ g p f) (by rfl) ?_
  have hJ1 : Z 0 235 [(6, .int 1), (2, .int x2), (0, .ref 50), (1, .int (nB b1))] [.int (bif decide ((lg_cmp ((p >>> ((1 : Int32).toInt64 &&& 63)) &&& 1) 1) = 0) then bif b1 then (0 : Int32) else 2 else 0), .int x2] (mGP μ g p f) := by
    generalize hyy2 : (bif decide ((lg_cmp ((p >>> ((1 : Int32).toInt64 &&& 63)) &&& 1) 1) = 0) then bif b1 then (0 : Int32) else 2 else 0 : Int32) = yy2
    refine z_rcs hc hH 4 (pc' := 203) (lv' := [(6, .int 2), (2, .int (x2 + yy2)), (0, .ref 50), (1, .int (nB b1))]) (st' := []) (μ' := mGP μ g p f) (by rfl) ?_
    subst hyy2
    exact K
  refine zq_if hc hH (by rfl) (tg := 234) (by rfl) (fun h3 => ?_) (fun h3 => ?_)
  · have h3 : (decide ((lg_cmp ((p >>> ((1 : Int32).toInt64 &&& 63)) &&& 1) 1) = 0)) = false := decide_eq_false (cm_ne.mp h3)
    refine z_rcs hc hH 1 (pc' := 235) (lv' := [(6, .int 1), (2, .int x2), (0, .ref 50), (1, .int (nB b1))]) (st' := [.int 0, .int x2]) (μ' := mGP μ g p f) (by rfl) ?_
    exact zJ hJ1 rfl (by first | with_reducible rfl | (simp only [h3, lb_f, Int64.or_zero, Int32.add_zero, nB_t, nB_f, Bool.not_true, Bool.not_false, Bool.and_true, Bool.true_and, Bool.false_and, Bool.and_false, Bool.or_true, Bool.true_or, Bool.false_or, Bool.or_false, cond_true, cond_false]; done) | rfl) rfl
  · have h3 : (decide ((lg_cmp ((p >>> ((1 : Int32).toInt64 &&& 63)) &&& 1) 1) = 0)) = true := decide_eq_true (cn_ne.mp h3)
    refine z_rcs hc hH 2 (pc' := 228) (lv' := [(6, .int 1), (2, .int x2), (0, .ref 50), (1, .int (nB b1))]) (st' := [.int (nB b1), .int 1, .int x2]) (μ' := mGP μ g p f) (by rfl) ?_
    refine zq_call hc (z_cx_ok hH (by rfl)) (fb_X7_han_1 d' (by omega) (mGP μ g p f) b1) (by decide +kernel) (fun r9 μ9 hq => ?_)
    obtain ⟨hμ9, rfl⟩ := hq
    rw [hμ9]
    clear hμ9 μ9
    show Z 0 231 [(6, .int 1), (2, .int x2), (0, .ref 50), (1, .int (nB b1))] [.int (bif b1 then (0 : Int32) else 2), .int x2] (mGP μ g p f)
    refine z_rcs hc hH 1 (pc' := 235) (lv' := [(6, .int 1), (2, .int x2), (0, .ref 50), (1, .int (nB b1))]) (st' := [.int (bif b1 then (0 : Int32) else 2), .int x2]) (μ' := mGP μ g p f) (by rfl) ?_
    exact zJ hJ1 rfl (by first | with_reducible rfl | (simp only [h3, lb_f, Int64.or_zero, Int32.add_zero, nB_t, nB_f, Bool.not_true, Bool.not_false, Bool.and_true, Bool.true_and, Bool.false_and, Bool.and_false, Bool.or_true, Bool.true_or, Bool.false_or, Bool.or_false, cond_true, cond_false]; done) | rfl) rfl
theorem cq203_2 (d' : Nat) (Z : zK) (hd : 1 ≤ d') (μ : zM) (hc : z_clo z_x0 mi_X7_compare (z_C d') Z) (x2 : Int32) (b1 : Bool) (g p : Int64) (f : Int32) (K : Z 0 203 [(6, .int 3), (2, .int (x2 + (nB ((decide ((lg_cmp ((p >>> ((2 : Int32).toInt64 &&& 63)) &&& 1) 1) = 0)) && (!b1))))), (0, .ref 50), (1, .int (nB b1))] [] (mGP μ g p f)) : Z 0 203 [(6, .int 2), (2, .int x2), (0, .ref 50), (1, .int (nB b1))] [] (mGP μ g p f) := by
  have hH : zH mi_X7_compare zt_X7_compare 79 7 7 := hh_X7_compare
  refine z_rcs hc hH 12 (pc' := 222) (lv' := [(6, .int 2), (2, .int x2), (0, .ref 50), (1, .int (nB b1))]) (st' := [.int (lg_cmp ((p >>> ((2 : Int32).toInt64 &&& 63)) &&& 1) 1), .int x2]) (μ' := mGP μ g p f) (by rfl) ?_
  have hJ1 : Z 0 235 [(6, .int 2), (2, .int x2), (0, .ref 50), (1, .int (nB b1))] [.int (nB ((decide ((lg_cmp ((p >>> ((2 : Int32).toInt64 &&& 63)) &&& 1) 1) = 0)) && (!b1))), .int x2] (mGP μ g p f) := by
    generalize hee2 : ((decide ((lg_cmp ((p >>> ((2 : Int32).toInt64 &&& 63)) &&& 1) 1) = 0)) && (!b1)) = ee2
    refine z_rcs hc hH 4 (pc' := 203) (lv' := [(6, .int 3), (2, .int (x2 + (nB ee2))), (0, .ref 50), (1, .int (nB b1))]) (st' := []) (μ' := mGP μ g p f) (by rfl) ?_
    subst hee2
    exact K
  refine zq_if hc hH (by rfl) (tg := 234) (by rfl) (fun h3 => ?_) (fun h3 => ?_)
  · have h3 : (decide ((lg_cmp ((p >>> ((2 : Int32).toInt64 &&& 63)) &&& 1) 1) = 0)) = false := decide_eq_false (cm_ne.mp h3)
    refine z_rcs hc hH 1 (pc' := 235) (lv' := [(6, .int 2), (2, .int x2), (0, .ref 50), (1, .int (nB b1))]) (st' := [.int 0, .int x2]) (μ' := mGP μ g p f) (by rfl) ?_
    exact zJ hJ1 rfl (by first | with_reducible rfl | (simp only [h3, lb_f, Int64.or_zero, Int32.add_zero, nB_t, nB_f, Bool.not_true, Bool.not_false, Bool.and_true, Bool.true_and, Bool.false_and, Bool.and_false, Bool.or_true, Bool.true_or, Bool.false_or, Bool.or_false, cond_true, cond_false]; done) | rfl) rfl
  · have h3 : (decide ((lg_cmp ((p >>> ((2 : Int32).toInt64 &&& 63)) &&& 1) 1) = 0)) = true := decide_eq_true (cn_ne.mp h3)
    refine z_rcs hc hH 2 (pc' := 228) (lv' := [(6, .int 2), (2, .int x2), (0, .ref 50), (1, .int (nB b1))]) (st' := [.int (nB b1), .int 2, .int x2]) (μ' := mGP μ g p f) (by rfl) ?_
    refine zq_call hc (z_cx_ok hH (by rfl)) (fb_X7_han_2 d' (by omega) (mGP μ g p f) b1) (by decide +kernel) (fun r9 μ9 hq => ?_)
    obtain ⟨hμ9, rfl⟩ := hq
    rw [hμ9]
    clear hμ9 μ9
    show Z 0 231 [(6, .int 2), (2, .int x2), (0, .ref 50), (1, .int (nB b1))] [.int (nB (!b1)), .int x2] (mGP μ g p f)
    refine z_rcs hc hH 1 (pc' := 235) (lv' := [(6, .int 2), (2, .int x2), (0, .ref 50), (1, .int (nB b1))]) (st' := [.int (nB (!b1)), .int x2]) (μ' := mGP μ g p f) (by rfl) ?_
    exact zJ hJ1 rfl (by first | with_reducible rfl | (simp only [h3, lb_f, Int64.or_zero, Int32.add_zero, nB_t, nB_f, Bool.not_true, Bool.not_false, Bool.and_true, Bool.true_and, Bool.false_and, Bool.and_false, Bool.or_true, Bool.true_or, Bool.false_or, Bool.or_false, cond_true, cond_false]; done) | rfl) rfl
theorem cq203_3 (d' : Nat) (Z : zK) (hd : 1 ≤ d') (μ : zM) (hc : z_clo z_x0 mi_X7_compare (z_C d') Z) (x2 : Int32) (b1 : Bool) (g p : Int64) (f : Int32) (K : Z 0 203 [(6, .int 4), (2, .int (x2 + (nB ((decide ((lg_cmp ((p >>> ((3 : Int32).toInt64 &&& 63)) &&& 1) 1) = 0)) && (!b1))))), (0, .ref 50), (1, .int (nB b1))] [] (mGP μ g p f)) : Z 0 203 [(6, .int 3), (2, .int x2), (0, .ref 50), (1, .int (nB b1))] [] (mGP μ g p f) := by
  have hH : zH mi_X7_compare zt_X7_compare 79 7 7 := hh_X7_compare
  refine z_rcs hc hH 12 (pc' := 222) (lv' := [(6, .int 3), (2, .int x2), (0, .ref 50), (1, .int (nB b1))]) (st' := [.int (lg_cmp ((p >>> ((3 : Int32).toInt64 &&& 63)) &&& 1) 1), .int x2]) (μ' := mGP μ g p f) (by rfl) ?_
  have hJ1 : Z 0 235 [(6, .int 3), (2, .int x2), (0, .ref 50), (1, .int (nB b1))] [.int (nB ((decide ((lg_cmp ((p >>> ((3 : Int32).toInt64 &&& 63)) &&& 1) 1) = 0)) && (!b1))), .int x2] (mGP μ g p f) := by
    generalize hee2 : ((decide ((lg_cmp ((p >>> ((3 : Int32).toInt64 &&& 63)) &&& 1) 1) = 0)) && (!b1)) = ee2
    refine z_rcs hc hH 4 (pc' := 203) (lv' := [(6, .int 4), (2, .int (x2 + (nB ee2))), (0, .ref 50), (1, .int (nB b1))]) (st' := []) (μ' := mGP μ g p f) (by rfl) ?_
    subst hee2
    exact K
  refine zq_if hc hH (by rfl) (tg := 234) (by rfl) (fun h3 => ?_) (fun h3 => ?_)
  · have h3 : (decide ((lg_cmp ((p >>> ((3 : Int32).toInt64 &&& 63)) &&& 1) 1) = 0)) = false := decide_eq_false (cm_ne.mp h3)
    refine z_rcs hc hH 1 (pc' := 235) (lv' := [(6, .int 3), (2, .int x2), (0, .ref 50), (1, .int (nB b1))]) (st' := [.int 0, .int x2]) (μ' := mGP μ g p f) (by rfl) ?_
    exact zJ hJ1 rfl (by first | with_reducible rfl | (simp only [h3, lb_f, Int64.or_zero, Int32.add_zero, nB_t, nB_f, Bool.not_true, Bool.not_false, Bool.and_true, Bool.true_and, Bool.false_and, Bool.and_false, Bool.or_true, Bool.true_or, Bool.false_or, Bool.or_false, cond_true, cond_false]; done) | rfl) rfl
  · have h3 : (decide ((lg_cmp ((p >>> ((3 : Int32).toInt64 &&& 63)) &&& 1) 1) = 0)) = true := decide_eq_true (cn_ne.mp h3)
    refine z_rcs hc hH 2 (pc' := 228) (lv' := [(6, .int 3), (2, .int x2), (0, .ref 50), (1, .int (nB b1))]) (st' := [.int (nB b1), .int 3, .int x2]) (μ' := mGP μ g p f) (by rfl) ?_
    refine zq_call hc (z_cx_ok hH (by rfl)) (fb_X7_han_3 d' (by omega) (mGP μ g p f) b1) (by decide +kernel) (fun r9 μ9 hq => ?_)
    obtain ⟨hμ9, rfl⟩ := hq
    rw [hμ9]
    clear hμ9 μ9
    show Z 0 231 [(6, .int 3), (2, .int x2), (0, .ref 50), (1, .int (nB b1))] [.int (nB (!b1)), .int x2] (mGP μ g p f)
    refine z_rcs hc hH 1 (pc' := 235) (lv' := [(6, .int 3), (2, .int x2), (0, .ref 50), (1, .int (nB b1))]) (st' := [.int (nB (!b1)), .int x2]) (μ' := mGP μ g p f) (by rfl) ?_
    exact zJ hJ1 rfl (by first | with_reducible rfl | (simp only [h3, lb_f, Int64.or_zero, Int32.add_zero, nB_t, nB_f, Bool.not_true, Bool.not_false, Bool.and_true, Bool.true_and, Bool.false_and, Bool.and_false, Bool.or_true, Bool.true_or, Bool.false_or, Bool.or_false, cond_true, cond_false]; done) | rfl) rfl
theorem cq203_4 (d' : Nat) (Z : zK) (hd : 1 ≤ d') (μ : zM) (hc : z_clo z_x0 mi_X7_compare (z_C d') Z) (x2 : Int32) (b1 : Bool) (g p : Int64) (f : Int32) (K : Z 0 203 [(6, .int 5), (2, .int (x2 + (nB (decide ((lg_cmp ((p >>> ((4 : Int32).toInt64 &&& 63)) &&& 1) 1) = 0))))), (0, .ref 50), (1, .int (nB b1))] [] (mGP μ g p f)) : Z 0 203 [(6, .int 4), (2, .int x2), (0, .ref 50), (1, .int (nB b1))] [] (mGP μ g p f) := by
  have hH : zH mi_X7_compare zt_X7_compare 79 7 7 := hh_X7_compare
  refine z_rcs hc hH 12 (pc' := 222) (lv' := [(6, .int 4), (2, .int x2), (0, .ref 50), (1, .int (nB b1))]) (st' := [.int (lg_cmp ((p >>> ((4 : Int32).toInt64 &&& 63)) &&& 1) 1), .int x2]) (μ' := mGP μ g p f) (by rfl) ?_
  have hJ1 : Z 0 235 [(6, .int 4), (2, .int x2), (0, .ref 50), (1, .int (nB b1))] [.int (nB (decide ((lg_cmp ((p >>> ((4 : Int32).toInt64 &&& 63)) &&& 1) 1) = 0))), .int x2] (mGP μ g p f) := by
    generalize hee2 : (decide ((lg_cmp ((p >>> ((4 : Int32).toInt64 &&& 63)) &&& 1) 1) = 0)) = ee2
    refine z_rcs hc hH 4 (pc' := 203) (lv' := [(6, .int 5), (2, .int (x2 + (nB ee2))), (0, .ref 50), (1, .int (nB b1))]) (st' := []) (μ' := mGP μ g p f) (by rfl) ?_
    subst hee2
    exact K
  refine zq_if hc hH (by rfl) (tg := 234) (by rfl) (fun h3 => ?_) (fun h3 => ?_)
  · have h3 : (decide ((lg_cmp ((p >>> ((4 : Int32).toInt64 &&& 63)) &&& 1) 1) = 0)) = false := decide_eq_false (cm_ne.mp h3)
    refine z_rcs hc hH 1 (pc' := 235) (lv' := [(6, .int 4), (2, .int x2), (0, .ref 50), (1, .int (nB b1))]) (st' := [.int 0, .int x2]) (μ' := mGP μ g p f) (by rfl) ?_
    exact zJ hJ1 rfl (by first | with_reducible rfl | (simp only [h3, lb_f, Int64.or_zero, Int32.add_zero, nB_t, nB_f, Bool.not_true, Bool.not_false, Bool.and_true, Bool.true_and, Bool.false_and, Bool.and_false, Bool.or_true, Bool.true_or, Bool.false_or, Bool.or_false, cond_true, cond_false]; done) | rfl) rfl
  · have h3 : (decide ((lg_cmp ((p >>> ((4 : Int32).toInt64 &&& 63)) &&& 1) 1) = 0)) = true := decide_eq_true (cn_ne.mp h3)
    refine z_rcs hc hH 2 (pc' := 228) (lv' := [(6, .int 4), (2, .int x2), (0, .ref 50), (1, .int (nB b1))]) (st' := [.int (nB b1), .int 4, .int x2]) (μ' := mGP μ g p f) (by rfl) ?_
    refine zq_call hc (z_cx_ok hH (by rfl)) (fb_X7_han_4 d' (by omega) (mGP μ g p f) b1) (by decide +kernel) (fun r9 μ9 hq => ?_)
    obtain ⟨hμ9, rfl⟩ := hq
    rw [hμ9]
    clear hμ9 μ9
    show Z 0 231 [(6, .int 4), (2, .int x2), (0, .ref 50), (1, .int (nB b1))] [.int 1, .int x2] (mGP μ g p f)
    refine z_rcs hc hH 1 (pc' := 235) (lv' := [(6, .int 4), (2, .int x2), (0, .ref 50), (1, .int (nB b1))]) (st' := [.int 1, .int x2]) (μ' := mGP μ g p f) (by rfl) ?_
    exact zJ hJ1 rfl (by first | with_reducible rfl | (simp only [h3, lb_f, Int64.or_zero, Int32.add_zero, nB_t, nB_f, Bool.not_true, Bool.not_false, Bool.and_true, Bool.true_and, Bool.false_and, Bool.and_false, Bool.or_true, Bool.true_or, Bool.false_or, Bool.or_false, cond_true, cond_false]; done) | rfl) rfl
theorem cq203_5 (d' : Nat) (Z : zK) (hd : 1 ≤ d') (μ : zM) (hc : z_clo z_x0 mi_X7_compare (z_C d') Z) (x2 : Int32) (b1 : Bool) (g p : Int64) (f : Int32) (K : Z 0 203 [(6, .int 6), (2, .int (x2 + (nB (decide ((lg_cmp ((p >>> ((5 : Int32).toInt64 &&& 63)) &&& 1) 1) = 0))))), (0, .ref 50), (1, .int (nB b1))] [] (mGP μ g p f)) : Z 0 203 [(6, .int 5), (2, .int x2), (0, .ref 50), (1, .int (nB b1))] [] (mGP μ g p f) := by
  have hH : zH mi_X7_compare zt_X7_compare 79 7 7 := hh_X7_compare
  refine z_rcs hc hH 12 (pc' := 222) (lv' := [(6, .int 5), (2, .int x2), (0, .ref 50), (1, .int (nB b1))]) (st' := [.int (lg_cmp ((p >>> ((5 : Int32).toInt64 &&& 63)) &&& 1) 1), .int x2]) (μ' := mGP μ g p f) (by rfl) ?_
  have hJ1 : Z 0 235 [(6, .int 5), (2, .int x2), (0, .ref 50), (1, .int (nB b1))] [.int (nB (decide ((lg_cmp ((p >>> ((5 : Int32).toInt64 &&& 63)) &&& 1) 1) = 0))), .int x2] (mGP μ g p f) := by
    generalize hee2 : (decide ((lg_cmp ((p >>> ((5 : Int32).toInt64 &&& 63)) &&& 1) 1) = 0)) = ee2
    refine z_rcs hc hH 4 (pc' := 203) (lv' := [(6, .int 6), (2, .int (x2 + (nB ee2))), (0, .ref 50), (1, .int (nB b1))]) (st' := []) (μ' := mGP μ g p f) (by rfl) ?_
    subst hee2
    exact K
  refine zq_if hc hH (by rfl) (tg := 234) (by rfl) (fun h3 => ?_) (fun h3 => ?_)
  · have h3 : (decide ((lg_cmp ((p >>> ((5 : Int32).toInt64 &&& 63)) &&& 1) 1) = 0)) = false := decide_eq_false (cm_ne.mp h3)
    refine z_rcs hc hH 1 (pc' := 235) (lv' := [(6, .int 5), (2, .int x2), (0, .ref 50), (1, .int (nB b1))]) (st' := [.int 0, .int x2]) (μ' := mGP μ g p f) (by rfl) ?_
    exact zJ hJ1 rfl (by first | with_reducible rfl | (simp only [h3, lb_f, Int64.or_zero, Int32.add_zero, nB_t, nB_f, Bool.not_true, Bool.not_false, Bool.and_true, Bool.true_and, Bool.false_and, Bool.and_false, Bool.or_true, Bool.true_or, Bool.false_or, Bool.or_false, cond_true, cond_false]; done) | rfl) rfl
  · have h3 : (decide ((lg_cmp ((p >>> ((5 : Int32).toInt64 &&& 63)) &&& 1) 1) = 0)) = true := decide_eq_true (cn_ne.mp h3)
    refine z_rcs hc hH 2 (pc' := 228) (lv' := [(6, .int 5), (2, .int x2), (0, .ref 50), (1, .int (nB b1))]) (st' := [.int (nB b1), .int 5, .int x2]) (μ' := mGP μ g p f) (by rfl) ?_
    refine zq_call hc (z_cx_ok hH (by rfl)) (fb_X7_han_5 d' (by omega) (mGP μ g p f) b1) (by decide +kernel) (fun r9 μ9 hq => ?_)
    obtain ⟨hμ9, rfl⟩ := hq
    rw [hμ9]
    clear hμ9 μ9
    show Z 0 231 [(6, .int 5), (2, .int x2), (0, .ref 50), (1, .int (nB b1))] [.int 1, .int x2] (mGP μ g p f)
    refine z_rcs hc hH 1 (pc' := 235) (lv' := [(6, .int 5), (2, .int x2), (0, .ref 50), (1, .int (nB b1))]) (st' := [.int 1, .int x2]) (μ' := mGP μ g p f) (by rfl) ?_
    exact zJ hJ1 rfl (by first | with_reducible rfl | (simp only [h3, lb_f, Int64.or_zero, Int32.add_zero, nB_t, nB_f, Bool.not_true, Bool.not_false, Bool.and_true, Bool.true_and, Bool.false_and, Bool.and_false, Bool.or_true, Bool.true_or, Bool.false_or, Bool.or_false, cond_true, cond_false]; done) | rfl) rfl
theorem cq203_6 (d' : Nat) (Z : zK) (hd : 1 ≤ d') (μ : zM) (hc : z_clo z_x0 mi_X7_compare (z_C d') Z) (x2 : Int32) (b1 : Bool) (g p : Int64) (f : Int32) (K : Z 0 203 [(6, .int 7), (2, .int (x2 + (nB (decide ((lg_cmp ((p >>> ((6 : Int32).toInt64 &&& 63)) &&& 1) 1) = 0))))), (0, .ref 50), (1, .int (nB b1))] [] (mGP μ g p f)) : Z 0 203 [(6, .int 6), (2, .int x2), (0, .ref 50), (1, .int (nB b1))] [] (mGP μ g p f) := by
  have hH : zH mi_X7_compare zt_X7_compare 79 7 7 := hh_X7_compare
  refine z_rcs hc hH 12 (pc' := 222) (lv' := [(6, .int 6), (2, .int x2), (0, .ref 50), (1, .int (nB b1))]) (st' := [.int (lg_cmp ((p >>> ((6 : Int32).toInt64 &&& 63)) &&& 1) 1), .int x2]) (μ' := mGP μ g p f) (by rfl) ?_
  have hJ1 : Z 0 235 [(6, .int 6), (2, .int x2), (0, .ref 50), (1, .int (nB b1))] [.int (nB (decide ((lg_cmp ((p >>> ((6 : Int32).toInt64 &&& 63)) &&& 1) 1) = 0))), .int x2] (mGP μ g p f) := by
    generalize hee2 : (decide ((lg_cmp ((p >>> ((6 : Int32).toInt64 &&& 63)) &&& 1) 1) = 0)) = ee2
    refine z_rcs hc hH 4 (pc' := 203) (lv' := [(6, .int 7), (2, .int (x2 + (nB ee2))), (0, .ref 50), (1, .int (nB b1))]) (st' := []) (μ' := mGP μ g p f) (by rfl) ?_
    subst hee2
    exact K
  refine zq_if hc hH (by rfl) (tg := 234) (by rfl) (fun h3 => ?_) (fun h3 => ?_)
  · have h3 : (decide ((lg_cmp ((p >>> ((6 : Int32).toInt64 &&& 63)) &&& 1) 1) = 0)) = false := decide_eq_false (cm_ne.mp h3)
    refine z_rcs hc hH 1 (pc' := 235) (lv' := [(6, .int 6), (2, .int x2), (0, .ref 50), (1, .int (nB b1))]) (st' := [.int 0, .int x2]) (μ' := mGP μ g p f) (by rfl) ?_
    exact zJ hJ1 rfl (by first | with_reducible rfl | (simp only [h3, lb_f, Int64.or_zero, Int32.add_zero, nB_t, nB_f, Bool.not_true, Bool.not_false, Bool.and_true, Bool.true_and, Bool.false_and, Bool.and_false, Bool.or_true, Bool.true_or, Bool.false_or, Bool.or_false, cond_true, cond_false]; done) | rfl) rfl
  · have h3 : (decide ((lg_cmp ((p >>> ((6 : Int32).toInt64 &&& 63)) &&& 1) 1) = 0)) = true := decide_eq_true (cn_ne.mp h3)
    refine z_rcs hc hH 2 (pc' := 228) (lv' := [(6, .int 6), (2, .int x2), (0, .ref 50), (1, .int (nB b1))]) (st' := [.int (nB b1), .int 6, .int x2]) (μ' := mGP μ g p f) (by rfl) ?_
    refine zq_call hc (z_cx_ok hH (by rfl)) (fb_X7_han_6 d' (by omega) (mGP μ g p f) b1) (by decide +kernel) (fun r9 μ9 hq => ?_)
    obtain ⟨hμ9, rfl⟩ := hq
    rw [hμ9]
    clear hμ9 μ9
    show Z 0 231 [(6, .int 6), (2, .int x2), (0, .ref 50), (1, .int (nB b1))] [.int 1, .int x2] (mGP μ g p f)
    refine z_rcs hc hH 1 (pc' := 235) (lv' := [(6, .int 6), (2, .int x2), (0, .ref 50), (1, .int (nB b1))]) (st' := [.int 1, .int x2]) (μ' := mGP μ g p f) (by rfl) ?_
    exact zJ hJ1 rfl (by first | with_reducible rfl | (simp only [h3, lb_f, Int64.or_zero, Int32.add_zero, nB_t, nB_f, Bool.not_true, Bool.not_false, Bool.and_true, Bool.true_and, Bool.false_and, Bool.and_false, Bool.or_true, Bool.true_or, Bool.false_or, Bool.or_false, cond_true, cond_false]; done) | rfl) rfl
theorem cq203_7 (d' : Nat) (Z : zK) (hd : 1 ≤ d') (μ : zM) (hc : z_clo z_x0 mi_X7_compare (z_C d') Z) (x2 : Int32) (b1 : Bool) (g p : Int64) (f : Int32) (K : Z 0 203 [(6, .int 8), (2, .int (x2 + (nB (decide ((lg_cmp ((p >>> ((7 : Int32).toInt64 &&& 63)) &&& 1) 1) = 0))))), (0, .ref 50), (1, .int (nB b1))] [] (mGP μ g p f)) : Z 0 203 [(6, .int 7), (2, .int x2), (0, .ref 50), (1, .int (nB b1))] [] (mGP μ g p f) := by
  have hH : zH mi_X7_compare zt_X7_compare 79 7 7 := hh_X7_compare
  refine z_rcs hc hH 12 (pc' := 222) (lv' := [(6, .int 7), (2, .int x2), (0, .ref 50), (1, .int (nB b1))]) (st' := [.int (lg_cmp ((p >>> ((7 : Int32).toInt64 &&& 63)) &&& 1) 1), .int x2]) (μ' := mGP μ g p f) (by rfl) ?_
  have hJ1 : Z 0 235 [(6, .int 7), (2, .int x2), (0, .ref 50), (1, .int (nB b1))] [.int (nB (decide ((lg_cmp ((p >>> ((7 : Int32).toInt64 &&& 63)) &&& 1) 1) = 0))), .int x2] (mGP μ g p f) := by
    generalize hee2 : (decide ((lg_cmp ((p >>> ((7 : Int32).toInt64 &&& 63)) &&& 1) 1) = 0)) = ee2
    refine z_rcs hc hH 4 (pc' := 203) (lv' := [(6, .int 8), (2, .int (x2 + (nB ee2))), (0, .ref 50), (1, .int (nB b1))]) (st' := []) (μ' := mGP μ g p f) (by rfl) ?_
    subst hee2
    exact K
  refine zq_if hc hH (by rfl) (tg := 234) (by rfl) (fun h3 => ?_) (fun h3 => ?_)
  · have h3 : (decide ((lg_cmp ((p >>> ((7 : Int32).toInt64 &&& 63)) &&& 1) 1) = 0)) = false := decide_eq_false (cm_ne.mp h3)
    refine z_rcs hc hH 1 (pc' := 235) (lv' := [(6, .int 7), (2, .int x2), (0, .ref 50), (1, .int (nB b1))]) (st' := [.int 0, .int x2]) (μ' := mGP μ g p f) (by rfl) ?_
    exact zJ hJ1 rfl (by first | with_reducible rfl | (simp only [h3, lb_f, Int64.or_zero, Int32.add_zero, nB_t, nB_f, Bool.not_true, Bool.not_false, Bool.and_true, Bool.true_and, Bool.false_and, Bool.and_false, Bool.or_true, Bool.true_or, Bool.false_or, Bool.or_false, cond_true, cond_false]; done) | rfl) rfl
  · have h3 : (decide ((lg_cmp ((p >>> ((7 : Int32).toInt64 &&& 63)) &&& 1) 1) = 0)) = true := decide_eq_true (cn_ne.mp h3)
    refine z_rcs hc hH 2 (pc' := 228) (lv' := [(6, .int 7), (2, .int x2), (0, .ref 50), (1, .int (nB b1))]) (st' := [.int (nB b1), .int 7, .int x2]) (μ' := mGP μ g p f) (by rfl) ?_
    refine zq_call hc (z_cx_ok hH (by rfl)) (fb_X7_han_7 d' (by omega) (mGP μ g p f) b1) (by decide +kernel) (fun r9 μ9 hq => ?_)
    obtain ⟨hμ9, rfl⟩ := hq
    rw [hμ9]
    clear hμ9 μ9
    show Z 0 231 [(6, .int 7), (2, .int x2), (0, .ref 50), (1, .int (nB b1))] [.int 1, .int x2] (mGP μ g p f)
    refine z_rcs hc hH 1 (pc' := 235) (lv' := [(6, .int 7), (2, .int x2), (0, .ref 50), (1, .int (nB b1))]) (st' := [.int 1, .int x2]) (μ' := mGP μ g p f) (by rfl) ?_
    exact zJ hJ1 rfl (by first | with_reducible rfl | (simp only [h3, lb_f, Int64.or_zero, Int32.add_zero, nB_t, nB_f, Bool.not_true, Bool.not_false, Bool.and_true, Bool.true_and, Bool.false_and, Bool.and_false, Bool.or_true, Bool.true_or, Bool.false_or, Bool.or_false, cond_true, cond_false]; done) | rfl) rfl
theorem cq203_8 (d' : Nat) (Z : zK) (hd : 1 ≤ d') (μ : zM) (hc : z_clo z_x0 mi_X7_compare (z_C d') Z) (x2 : Int32) (b1 : Bool) (g p : Int64) (f : Int32) (K : Z 0 203 [(6, .int 9), (2, .int (x2 + (nB (decide ((lg_cmp ((p >>> ((8 : Int32).toInt64 &&& 63)) &&& 1) 1) = 0))))), (0, .ref 50), (1, .int (nB b1))] [] (mGP μ g p f)) : Z 0 203 [(6, .int 8), (2, .int x2), (0, .ref 50), (1, .int (nB b1))] [] (mGP μ g p f) := by
  have hH : zH mi_X7_compare zt_X7_compare 79 7 7 := hh_X7_compare
  refine z_rcs hc hH 12 (pc' := 222) (lv' := [(6, .int 8), (2, .int x2), (0, .ref 50), (1, .int (nB b1))]) (st' := [.int (lg_cmp ((p >>> ((8 : Int32).toInt64 &&& 63)) &&& 1) 1), .int x2]) (μ' := mGP μ g p f) (by rfl) ?_
  have hJ1 : Z 0 235 [(6, .int 8), (2, .int x2), (0, .ref 50), (1, .int (nB b1))] [.int (nB (decide ((lg_cmp ((p >>> ((8 : Int32).toInt64 &&& 63)) &&& 1) 1) = 0))), .int x2] (mGP μ g p f) := by
    generalize hee2 : (decide ((lg_cmp ((p >>> ((8 : Int32).toInt64 &&& 63)) &&& 1) 1) = 0)) = ee2
    refine z_rcs hc hH 4 (pc' := 203) (lv' := [(6, .int 9), (2, .int (x2 + (nB ee2))), (0, .ref 50), (1, .int (nB b1))]) (st' := []) (μ' := mGP μ g p f) (by rfl) ?_
    subst hee2
    exact K
  refine zq_if hc hH (by rfl) (tg := 234) (by rfl) (fun h3 => ?_) (fun h3 => ?_)
  · have h3 : (decide ((lg_cmp ((p >>> ((8 : Int32).toInt64 &&& 63)) &&& 1) 1) = 0)) = false := decide_eq_false (cm_ne.mp h3)
    refine z_rcs hc hH 1 (pc' := 235) (lv' := [(6, .int 8), (2, .int x2), (0, .ref 50), (1, .int (nB b1))]) (st' := [.int 0, .int x2]) (μ' := mGP μ g p f) (by rfl) ?_
    exact zJ hJ1 rfl (by first | with_reducible rfl | (simp only [h3, lb_f, Int64.or_zero, Int32.add_zero, nB_t, nB_f, Bool.not_true, Bool.not_false, Bool.and_true, Bool.true_and, Bool.false_and, Bool.and_false, Bool.or_true, Bool.true_or, Bool.false_or, Bool.or_false, cond_true, cond_false]; done) | rfl) rfl
  · have h3 : (decide ((lg_cmp ((p >>> ((8 : Int32).toInt64 &&& 63)) &&& 1) 1) = 0)) = true := decide_eq_true (cn_ne.mp h3)
    refine z_rcs hc hH 2 (pc' := 228) (lv' := [(6, .int 8), (2, .int x2), (0, .ref 50), (1, .int (nB b1))]) (st' := [.int (nB b1), .int 8, .int x2]) (μ' := mGP μ g p f) (by rfl) ?_
    refine zq_call hc (z_cx_ok hH (by rfl)) (fb_X7_han_8 d' (by omega) (mGP μ g p f) b1) (by decide +kernel) (fun r9 μ9 hq => ?_)
    obtain ⟨hμ9, rfl⟩ := hq
    rw [hμ9]
    clear hμ9 μ9
    show Z 0 231 [(6, .int 8), (2, .int x2), (0, .ref 50), (1, .int (nB b1))] [.int 1, .int x2] (mGP μ g p f)
    refine z_rcs hc hH 1 (pc' := 235) (lv' := [(6, .int 8), (2, .int x2), (0, .ref 50), (1, .int (nB b1))]) (st' := [.int 1, .int x2]) (μ' := mGP μ g p f) (by rfl) ?_
    exact zJ hJ1 rfl (by first | with_reducible rfl | (simp only [h3, lb_f, Int64.or_zero, Int32.add_zero, nB_t, nB_f, Bool.not_true, Bool.not_false, Bool.and_true, Bool.true_and, Bool.false_and, Bool.and_false, Bool.or_true, Bool.true_or, Bool.false_or, Bool.or_false, cond_true, cond_false]; done) | rfl) rfl
theorem cq203_9 (d' : Nat) (Z : zK) (hd : 1 ≤ d') (μ : zM) (hc : z_clo z_x0 mi_X7_compare (z_C d') Z) (x2 : Int32) (b1 : Bool) (g p : Int64) (f : Int32) (K : Z 0 203 [(6, .int 10), (2, .int (x2 + (nB ((decide ((lg_cmp ((p >>> ((9 : Int32).toInt64 &&& 63)) &&& 1) 1) = 0)) && (!b1))))), (0, .ref 50), (1, .int (nB b1))] [] (mGP μ g p f)) : Z 0 203 [(6, .int 9), (2, .int x2), (0, .ref 50), (1, .int (nB b1))] [] (mGP μ g p f) := by
  have hH : zH mi_X7_compare zt_X7_compare 79 7 7 := hh_X7_compare
  refine z_rcs hc hH 12 (pc' := 222) (lv' := [(6, .int 9), (2, .int x2), (0, .ref 50), (1, .int (nB b1))]) (st' := [.int (lg_cmp ((p >>> ((9 : Int32).toInt64 &&& 63)) &&& 1) 1), .int x2]) (μ' := mGP μ g p f) (by rfl) ?_
  have hJ1 : Z 0 235 [(6, .int 9), (2, .int x2), (0, .ref 50), (1, .int (nB b1))] [.int (nB ((decide ((lg_cmp ((p >>> ((9 : Int32).toInt64 &&& 63)) &&& 1) 1) = 0)) && (!b1))), .int x2] (mGP μ g p f) := by
    generalize hee2 : ((decide ((lg_cmp ((p >>> ((9 : Int32).toInt64 &&& 63)) &&& 1) 1) = 0)) && (!b1)) = ee2
    refine z_rcs hc hH 4 (pc' := 203) (lv' := [(6, .int 10), (2, .int (x2 + (nB ee2))), (0, .ref 50), (1, .int (nB b1))]) (st' := []) (μ' := mGP μ g p f) (by rfl) ?_
    subst hee2
    exact K
  refine zq_if hc hH (by rfl) (tg := 234) (by rfl) (fun h3 => ?_) (fun h3 => ?_)
  · have h3 : (decide ((lg_cmp ((p >>> ((9 : Int32).toInt64 &&& 63)) &&& 1) 1) = 0)) = false := decide_eq_false (cm_ne.mp h3)
    refine z_rcs hc hH 1 (pc' := 235) (lv' := [(6, .int 9), (2, .int x2), (0, .ref 50), (1, .int (nB b1))]) (st' := [.int 0, .int x2]) (μ' := mGP μ g p f) (by rfl) ?_
    exact zJ hJ1 rfl (by first | with_reducible rfl | (simp only [h3, lb_f, Int64.or_zero, Int32.add_zero, nB_t, nB_f, Bool.not_true, Bool.not_false, Bool.and_true, Bool.true_and, Bool.false_and, Bool.and_false, Bool.or_true, Bool.true_or, Bool.false_or, Bool.or_false, cond_true, cond_false]; done) | rfl) rfl
  · have h3 : (decide ((lg_cmp ((p >>> ((9 : Int32).toInt64 &&& 63)) &&& 1) 1) = 0)) = true := decide_eq_true (cn_ne.mp h3)
    refine z_rcs hc hH 2 (pc' := 228) (lv' := [(6, .int 9), (2, .int x2), (0, .ref 50), (1, .int (nB b1))]) (st' := [.int (nB b1), .int 9, .int x2]) (μ' := mGP μ g p f) (by rfl) ?_
    refine zq_call hc (z_cx_ok hH (by rfl)) (fb_X7_han_9 d' (by omega) (mGP μ g p f) b1) (by decide +kernel) (fun r9 μ9 hq => ?_)
    obtain ⟨hμ9, rfl⟩ := hq
    rw [hμ9]
    clear hμ9 μ9
    show Z 0 231 [(6, .int 9), (2, .int x2), (0, .ref 50), (1, .int (nB b1))] [.int (nB (!b1)), .int x2] (mGP μ g p f)
    refine z_rcs hc hH 1 (pc' := 235) (lv' := [(6, .int 9), (2, .int x2), (0, .ref 50), (1, .int (nB b1))]) (st' := [.int (nB (!b1)), .int x2]) (μ' := mGP μ g p f) (by rfl) ?_
    exact zJ hJ1 rfl (by first | with_reducible rfl | (simp only [h3, lb_f, Int64.or_zero, Int32.add_zero, nB_t, nB_f, Bool.not_true, Bool.not_false, Bool.and_true, Bool.true_and, Bool.false_and, Bool.and_false, Bool.or_true, Bool.true_or, Bool.false_or, Bool.or_false, cond_true, cond_false]; done) | rfl) rfl
theorem cq203_10 (d' : Nat) (Z : zK) (hd : 1 ≤ d') (μ : zM) (hc : z_clo z_x0 mi_X7_compare (z_C d') Z) (x2 : Int32) (b1 : Bool) (g p : Int64) (f : Int32) (K : Z 0 203 [(6, .int 11), (2, .int (x2 + (nB ((decide ((lg_cmp ((p >>> ((10 : Int32).toInt64 &&& 63)) &&& 1) 1) = 0)) && (!b1))))), (0, .ref 50), (1, .int (nB b1))] [] (mGP μ g p f)) : Z 0 203 [(6, .int 10), (2, .int x2), (0, .ref 50), (1, .int (nB b1))] [] (mGP μ g p f) := by
  have hH : zH mi_X7_compare zt_X7_compare 79 7 7 := hh_X7_compare
  refine z_rcs hc hH 12 (pc' := 222) (lv' := [(6, .int 10), (2, .int x2), (0, .ref 50), (1, .int (nB b1))]) (st' := [.int (lg_cmp ((p >>> ((10 : Int32).toInt64 &&& 63)) &&& 1) 1), .int x2]) (μ' := mGP μ g p f) (by rfl) ?_
  have hJ1 : Z 0 235 [(6, .int 10), (2, .int x2), (0, .ref 50), (1, .int (nB b1))] [.int (nB ((decide ((lg_cmp ((p >>> ((10 : Int32).toInt64 &&& 63)) &&& 1) 1) = 0)) && (!b1))), .int x2] (mGP μ g p f) := by
    generalize hee2 : ((decide ((lg_cmp ((p >>> ((10 : Int32).toInt64 &&& 63)) &&& 1) 1) = 0)) && (!b1)) = ee2
    refine z_rcs hc hH 4 (pc' := 203) (lv' := [(6, .int 11), (2, .int (x2 + (nB ee2))), (0, .ref 50), (1, .int (nB b1))]) (st' := []) (μ' := mGP μ g p f) (by rfl) ?_
    subst hee2
    exact K
  refine zq_if hc hH (by rfl) (tg := 234) (by rfl) (fun h3 => ?_) (fun h3 => ?_)
  · have h3 : (decide ((lg_cmp ((p >>> ((10 : Int32).toInt64 &&& 63)) &&& 1) 1) = 0)) = false := decide_eq_false (cm_ne.mp h3)
    refine z_rcs hc hH 1 (pc' := 235) (lv' := [(6, .int 10), (2, .int x2), (0, .ref 50), (1, .int (nB b1))]) (st' := [.int 0, .int x2]) (μ' := mGP μ g p f) (by rfl) ?_
    exact zJ hJ1 rfl (by first | with_reducible rfl | (simp only [h3, lb_f, Int64.or_zero, Int32.add_zero, nB_t, nB_f, Bool.not_true, Bool.not_false, Bool.and_true, Bool.true_and, Bool.false_and, Bool.and_false, Bool.or_true, Bool.true_or, Bool.false_or, Bool.or_false, cond_true, cond_false]; done) | rfl) rfl
  · have h3 : (decide ((lg_cmp ((p >>> ((10 : Int32).toInt64 &&& 63)) &&& 1) 1) = 0)) = true := decide_eq_true (cn_ne.mp h3)
    refine z_rcs hc hH 2 (pc' := 228) (lv' := [(6, .int 10), (2, .int x2), (0, .ref 50), (1, .int (nB b1))]) (st' := [.int (nB b1), .int 10, .int x2]) (μ' := mGP μ g p f) (by rfl) ?_
    refine zq_call hc (z_cx_ok hH (by rfl)) (fb_X7_han_10 d' (by omega) (mGP μ g p f) b1) (by decide +kernel) (fun r9 μ9 hq => ?_)
    obtain ⟨hμ9, rfl⟩ := hq
    rw [hμ9]
    clear hμ9 μ9
    show Z 0 231 [(6, .int 10), (2, .int x2), (0, .ref 50), (1, .int (nB b1))] [.int (nB (!b1)), .int x2] (mGP μ g p f)
    refine z_rcs hc hH 1 (pc' := 235) (lv' := [(6, .int 10), (2, .int x2), (0, .ref 50), (1, .int (nB b1))]) (st' := [.int (nB (!b1)), .int x2]) (μ' := mGP μ g p f) (by rfl) ?_
    exact zJ hJ1 rfl (by first | with_reducible rfl | (simp only [h3, lb_f, Int64.or_zero, Int32.add_zero, nB_t, nB_f, Bool.not_true, Bool.not_false, Bool.and_true, Bool.true_and, Bool.false_and, Bool.and_false, Bool.or_true, Bool.true_or, Bool.false_or, Bool.or_false, cond_true, cond_false]; done) | rfl) rfl
theorem cq203_11 (d' : Nat) (Z : zK) (hd : 1 ≤ d') (μ : zM) (hc : z_clo z_x0 mi_X7_compare (z_C d') Z) (x2 : Int32) (b1 : Bool) (g p : Int64) (f : Int32) (K : Z 0 203 [(6, .int 12), (2, .int (x2 + (nB (decide ((lg_cmp ((p >>> ((11 : Int32).toInt64 &&& 63)) &&& 1) 1) = 0))))), (0, .ref 50), (1, .int (nB b1))] [] (mGP μ g p f)) : Z 0 203 [(6, .int 11), (2, .int x2), (0, .ref 50), (1, .int (nB b1))] [] (mGP μ g p f) := by
  have hH : zH mi_X7_compare zt_X7_compare 79 7 7 := hh_X7_compare
  refine z_rcs hc hH 12 (pc' := 222) (lv' := [(6, .int 11), (2, .int x2), (0, .ref 50), (1, .int (nB b1))]) (st' := [.int (lg_cmp ((p >>> ((11 : Int32).toInt64 &&& 63)) &&& 1) 1), .int x2]) (μ' := mGP μ g p f) (by rfl) ?_
  have hJ1 : Z 0 235 [(6, .int 11), (2, .int x2), (0, .ref 50), (1, .int (nB b1))] [.int (nB (decide ((lg_cmp ((p >>> ((11 : Int32).toInt64 &&& 63)) &&& 1) 1) = 0))), .int x2] (mGP μ g p f) := by
    generalize hee2 : (decide ((lg_cmp ((p >>> ((11 : Int32).toInt64 &&& 63)) &&& 1) 1) = 0)) = ee2
    refine z_rcs hc hH 4 (pc' := 203) (lv' := [(6, .int 12), (2, .int (x2 + (nB ee2))), (0, .ref 50), (1, .int (nB b1))]) (st' := []) (μ' := mGP μ g p f) (by rfl) ?_
    subst hee2
    exact K
  refine zq_if hc hH (by rfl) (tg := 234) (by rfl) (fun h3 => ?_) (fun h3 => ?_)
  · have h3 : (decide ((lg_cmp ((p >>> ((11 : Int32).toInt64 &&& 63)) &&& 1) 1) = 0)) = false := decide_eq_false (cm_ne.mp h3)
    refine z_rcs hc hH 1 (pc' := 235) (lv' := [(6, .int 11), (2, .int x2), (0, .ref 50), (1, .int (nB b1))]) (st' := [.int 0, .int x2]) (μ' := mGP μ g p f) (by rfl) ?_
    exact zJ hJ1 rfl (by first | with_reducible rfl | (simp only [h3, lb_f, Int64.or_zero, Int32.add_zero, nB_t, nB_f, Bool.not_true, Bool.not_false, Bool.and_true, Bool.true_and, Bool.false_and, Bool.and_false, Bool.or_true, Bool.true_or, Bool.false_or, Bool.or_false, cond_true, cond_false]; done) | rfl) rfl
  · have h3 : (decide ((lg_cmp ((p >>> ((11 : Int32).toInt64 &&& 63)) &&& 1) 1) = 0)) = true := decide_eq_true (cn_ne.mp h3)
    refine z_rcs hc hH 2 (pc' := 228) (lv' := [(6, .int 11), (2, .int x2), (0, .ref 50), (1, .int (nB b1))]) (st' := [.int (nB b1), .int 11, .int x2]) (μ' := mGP μ g p f) (by rfl) ?_
    refine zq_call hc (z_cx_ok hH (by rfl)) (fb_X7_han_11 d' (by omega) (mGP μ g p f) b1) (by decide +kernel) (fun r9 μ9 hq => ?_)
    obtain ⟨hμ9, rfl⟩ := hq
    rw [hμ9]
    clear hμ9 μ9
    show Z 0 231 [(6, .int 11), (2, .int x2), (0, .ref 50), (1, .int (nB b1))] [.int 1, .int x2] (mGP μ g p f)
    refine z_rcs hc hH 1 (pc' := 235) (lv' := [(6, .int 11), (2, .int x2), (0, .ref 50), (1, .int (nB b1))]) (st' := [.int 1, .int x2]) (μ' := mGP μ g p f) (by rfl) ?_
    exact zJ hJ1 rfl (by first | with_reducible rfl | (simp only [h3, lb_f, Int64.or_zero, Int32.add_zero, nB_t, nB_f, Bool.not_true, Bool.not_false, Bool.and_true, Bool.true_and, Bool.false_and, Bool.and_false, Bool.or_true, Bool.true_or, Bool.false_or, Bool.or_false, cond_true, cond_false]; done) | rfl) rfl
theorem cq203_12 (d' : Nat) (Z : zK) (hd : 1 ≤ d') (μ : zM) (hc : z_clo z_x0 mi_X7_compare (z_C d') Z) (x2 : Int32) (b1 : Bool) (g p : Int64) (f : Int32) (K : Z 0 203 [(6, .int 13), (2, .int (x2 + (nB (decide ((lg_cmp ((p >>> ((12 : Int32).toInt64 &&& 63)) &&& 1) 1) = 0))))), (0, .ref 50), (1, .int (nB b1))] [] (mGP μ g p f)) : Z 0 203 [(6, .int 12), (2, .int x2), (0, .ref 50), (1, .int (nB b1))] [] (mGP μ g p f) := by
  have hH : zH mi_X7_compare zt_X7_compare 79 7 7 := hh_X7_compare
  refine z_rcs hc hH 12 (pc' := 222) (lv' := [(6, .int 12), (2, .int x2), (0, .ref 50), (1, .int (nB b1))]) (st' := [.int (lg_cmp ((p >>> ((12 : Int32).toInt64 &&& 63)) &&& 1) 1), .int x2]) (μ' := mGP μ g p f) (by rfl) ?_
  have hJ1 : Z 0 235 [(6, .int 12), (2, .int x2), (0, .ref 50), (1, .int (nB b1))] [.int (nB (decide ((lg_cmp ((p >>> ((12 : Int32).toInt64 &&& 63)) &&& 1) 1) = 0))), .int x2] (mGP μ g p f) := by
    generalize hee2 : (decide ((lg_cmp ((p >>> ((12 : Int32).toInt64 &&& 63)) &&& 1) 1) = 0)) = ee2
    refine z_rcs hc hH 4 (pc' := 203) (lv' := [(6, .int 13), (2, .int (x2 + (nB ee2))), (0, .ref 50), (1, .int (nB b1))]) (st' := []) (μ' := mGP μ g p f) (by rfl) ?_
    subst hee2
    exact K
  refine zq_if hc hH (by rfl) (tg := 234) (by rfl) (fun h3 => ?_) (fun h3 => ?_)
  · have h3 : (decide ((lg_cmp ((p >>> ((12 : Int32).toInt64 &&& 63)) &&& 1) 1) = 0)) = false := decide_eq_false (cm_ne.mp h3)
    refine z_rcs hc hH 1 (pc' := 235) (lv' := [(6, .int 12), (2, .int x2), (0, .ref 50), (1, .int (nB b1))]) (st' := [.int 0, .int x2]) (μ' := mGP μ g p f) (by rfl) ?_
    exact zJ hJ1 rfl (by first | with_reducible rfl | (simp only [h3, lb_f, Int64.or_zero, Int32.add_zero, nB_t, nB_f, Bool.not_true, Bool.not_false, Bool.and_true, Bool.true_and, Bool.false_and, Bool.and_false, Bool.or_true, Bool.true_or, Bool.false_or, Bool.or_false, cond_true, cond_false]; done) | rfl) rfl
  · have h3 : (decide ((lg_cmp ((p >>> ((12 : Int32).toInt64 &&& 63)) &&& 1) 1) = 0)) = true := decide_eq_true (cn_ne.mp h3)
    refine z_rcs hc hH 2 (pc' := 228) (lv' := [(6, .int 12), (2, .int x2), (0, .ref 50), (1, .int (nB b1))]) (st' := [.int (nB b1), .int 12, .int x2]) (μ' := mGP μ g p f) (by rfl) ?_
    refine zq_call hc (z_cx_ok hH (by rfl)) (fb_X7_han_12 d' (by omega) (mGP μ g p f) b1) (by decide +kernel) (fun r9 μ9 hq => ?_)
    obtain ⟨hμ9, rfl⟩ := hq
    rw [hμ9]
    clear hμ9 μ9
    show Z 0 231 [(6, .int 12), (2, .int x2), (0, .ref 50), (1, .int (nB b1))] [.int 1, .int x2] (mGP μ g p f)
    refine z_rcs hc hH 1 (pc' := 235) (lv' := [(6, .int 12), (2, .int x2), (0, .ref 50), (1, .int (nB b1))]) (st' := [.int 1, .int x2]) (μ' := mGP μ g p f) (by rfl) ?_
    exact zJ hJ1 rfl (by first | with_reducible rfl | (simp only [h3, lb_f, Int64.or_zero, Int32.add_zero, nB_t, nB_f, Bool.not_true, Bool.not_false, Bool.and_true, Bool.true_and, Bool.false_and, Bool.and_false, Bool.or_true, Bool.true_or, Bool.false_or, Bool.or_false, cond_true, cond_false]; done) | rfl) rfl
theorem cq203_13 (d' : Nat) (Z : zK) (hd : 1 ≤ d') (μ : zM) (hc : z_clo z_x0 mi_X7_compare (z_C d') Z) (x2 : Int32) (b1 : Bool) (g p : Int64) (f : Int32) (K : Z 0 203 [(6, .int 14), (2, .int (x2 + (nB (decide ((lg_cmp ((p >>> ((13 : Int32).toInt64 &&& 63)) &&& 1) 1) = 0))))), (0, .ref 50), (1, .int (nB b1))] [] (mGP μ g p f)) : Z 0 203 [(6, .int 13), (2, .int x2), (0, .ref 50), (1, .int (nB b1))] [] (mGP μ g p f) := by
  have hH : zH mi_X7_compare zt_X7_compare 79 7 7 := hh_X7_compare
  refine z_rcs hc hH 12 (pc' := 222) (lv' := [(6, .int 13), (2, .int x2), (0, .ref 50), (1, .int (nB b1))]) (st' := [.int (lg_cmp ((p >>> ((13 : Int32).toInt64 &&& 63)) &&& 1) 1), .int x2]) (μ' := mGP μ g p f) (by rfl) ?_
  have hJ1 : Z 0 235 [(6, .int 13), (2, .int x2), (0, .ref 50), (1, .int (nB b1))] [.int (nB (decide ((lg_cmp ((p >>> ((13 : Int32).toInt64 &&& 63)) &&& 1) 1) = 0))), .int x2] (mGP μ g p f) := by
    generalize hee2 : (decide ((lg_cmp ((p >>> ((13 : Int32).toInt64 &&& 63)) &&& 1) 1) = 0)) = ee2
    refine z_rcs hc hH 4 (pc' := 203) (lv' := [(6, .int 14), (2, .int (x2 + (nB ee2))), (0, .ref 50), (1, .int (nB b1))]) (st' := []) (μ' := mGP μ g p f) (by rfl) ?_
    subst hee2
    exact K
  refine zq_if hc hH (by rfl) (tg := 234) (by rfl) (fun h3 => ?_) (fun h3 => ?_)
  · have h3 : (decide ((lg_cmp ((p >>> ((13 : Int32).toInt64 &&& 63)) &&& 1) 1) = 0)) = false := decide_eq_false (cm_ne.mp h3)
    refine z_rcs hc hH 1 (pc' := 235) (lv' := [(6, .int 13), (2, .int x2), (0, .ref 50), (1, .int (nB b1))]) (st' := [.int 0, .int x2]) (μ' := mGP μ g p f) (by rfl) ?_
    exact zJ hJ1 rfl (by first | with_reducible rfl | (simp only [h3, lb_f, Int64.or_zero, Int32.add_zero, nB_t, nB_f, Bool.not_true, Bool.not_false, Bool.and_true, Bool.true_and, Bool.false_and, Bool.and_false, Bool.or_true, Bool.true_or, Bool.false_or, Bool.or_false, cond_true, cond_false]; done) | rfl) rfl
  · have h3 : (decide ((lg_cmp ((p >>> ((13 : Int32).toInt64 &&& 63)) &&& 1) 1) = 0)) = true := decide_eq_true (cn_ne.mp h3)
    refine z_rcs hc hH 2 (pc' := 228) (lv' := [(6, .int 13), (2, .int x2), (0, .ref 50), (1, .int (nB b1))]) (st' := [.int (nB b1), .int 13, .int x2]) (μ' := mGP μ g p f) (by rfl) ?_
    refine zq_call hc (z_cx_ok hH (by rfl)) (fb_X7_han_13 d' (by omega) (mGP μ g p f) b1) (by decide +kernel) (fun r9 μ9 hq => ?_)
    obtain ⟨hμ9, rfl⟩ := hq
    rw [hμ9]
    clear hμ9 μ9
    show Z 0 231 [(6, .int 13), (2, .int x2), (0, .ref 50), (1, .int (nB b1))] [.int 1, .int x2] (mGP μ g p f)
    refine z_rcs hc hH 1 (pc' := 235) (lv' := [(6, .int 13), (2, .int x2), (0, .ref 50), (1, .int (nB b1))]) (st' := [.int 1, .int x2]) (μ' := mGP μ g p f) (by rfl) ?_
    exact zJ hJ1 rfl (by first | with_reducible rfl | (simp only [h3, lb_f, Int64.or_zero, Int32.add_zero, nB_t, nB_f, Bool.not_true, Bool.not_false, Bool.and_true, Bool.true_and, Bool.false_and, Bool.and_false, Bool.or_true, Bool.true_or, Bool.false_or, Bool.or_false, cond_true, cond_false]; done) | rfl) rfl
theorem cq203_14 (d' : Nat) (Z : zK) (hd : 1 ≤ d') (μ : zM) (hc : z_clo z_x0 mi_X7_compare (z_C d') Z) (x2 : Int32) (b1 : Bool) (g p : Int64) (f : Int32) (K : Z 0 203 [(6, .int 15), (2, .int (x2 + (nB (decide ((lg_cmp ((p >>> ((14 : Int32).toInt64 &&& 63)) &&& 1) 1) = 0))))), (0, .ref 50), (1, .int (nB b1))] [] (mGP μ g p f)) : Z 0 203 [(6, .int 14), (2, .int x2), (0, .ref 50), (1, .int (nB b1))] [] (mGP μ g p f) := by
  have hH : zH mi_X7_compare zt_X7_compare 79 7 7 := hh_X7_compare
  refine z_rcs hc hH 12 (pc' := 222) (lv' := [(6, .int 14), (2, .int x2), (0, .ref 50), (1, .int (nB b1))]) (st' := [.int (lg_cmp ((p >>> ((14 : Int32).toInt64 &&& 63)) &&& 1) 1), .int x2]) (μ' := mGP μ g p f) (by rfl) ?_
  have hJ1 : Z 0 235 [(6, .int 14), (2, .int x2), (0, .ref 50), (1, .int (nB b1))] [.int (nB (decide ((lg_cmp ((p >>> ((14 : Int32).toInt64 &&& 63)) &&& 1) 1) = 0))), .int x2] (mGP μ g p f) := by
    generalize hee2 : (decide ((lg_cmp ((p >>> ((14 : Int32).toInt64 &&& 63)) &&& 1) 1) = 0)) = ee2
    refine z_rcs hc hH 4 (pc' := 203) (lv' := [(6, .int 15), (2, .int (x2 + (nB ee2))), (0, .ref 50), (1, .int (nB b1))]) (st' := []) (μ' := mGP μ g p f) (by rfl) ?_
    subst hee2
    exact K
  refine zq_if hc hH (by rfl) (tg := 234) (by rfl) (fun h3 => ?_) (fun h3 => ?_)
  · have h3 : (decide ((lg_cmp ((p >>> ((14 : Int32).toInt64 &&& 63)) &&& 1) 1) = 0)) = false := decide_eq_false (cm_ne.mp h3)
    refine z_rcs hc hH 1 (pc' := 235) (lv' := [(6, .int 14), (2, .int x2), (0, .ref 50), (1, .int (nB b1))]) (st' := [.int 0, .int x2]) (μ' := mGP μ g p f) (by rfl) ?_
    exact zJ hJ1 rfl (by first | with_reducible rfl | (simp only [h3, lb_f, Int64.or_zero, Int32.add_zero, nB_t, nB_f, Bool.not_true, Bool.not_false, Bool.and_true, Bool.true_and, Bool.false_and, Bool.and_false, Bool.or_true, Bool.true_or, Bool.false_or, Bool.or_false, cond_true, cond_false]; done) | rfl) rfl
  · have h3 : (decide ((lg_cmp ((p >>> ((14 : Int32).toInt64 &&& 63)) &&& 1) 1) = 0)) = true := decide_eq_true (cn_ne.mp h3)
    refine z_rcs hc hH 2 (pc' := 228) (lv' := [(6, .int 14), (2, .int x2), (0, .ref 50), (1, .int (nB b1))]) (st' := [.int (nB b1), .int 14, .int x2]) (μ' := mGP μ g p f) (by rfl) ?_
    refine zq_call hc (z_cx_ok hH (by rfl)) (fb_X7_han_14 d' (by omega) (mGP μ g p f) b1) (by decide +kernel) (fun r9 μ9 hq => ?_)
    obtain ⟨hμ9, rfl⟩ := hq
    rw [hμ9]
    clear hμ9 μ9
    show Z 0 231 [(6, .int 14), (2, .int x2), (0, .ref 50), (1, .int (nB b1))] [.int 1, .int x2] (mGP μ g p f)
    refine z_rcs hc hH 1 (pc' := 235) (lv' := [(6, .int 14), (2, .int x2), (0, .ref 50), (1, .int (nB b1))]) (st' := [.int 1, .int x2]) (μ' := mGP μ g p f) (by rfl) ?_
    exact zJ hJ1 rfl (by first | with_reducible rfl | (simp only [h3, lb_f, Int64.or_zero, Int32.add_zero, nB_t, nB_f, Bool.not_true, Bool.not_false, Bool.and_true, Bool.true_and, Bool.false_and, Bool.and_false, Bool.or_true, Bool.true_or, Bool.false_or, Bool.or_false, cond_true, cond_false]; done) | rfl) rfl
theorem cq203_15 (d' : Nat) (Z : zK) (hd : 1 ≤ d') (μ : zM) (hc : z_clo z_x0 mi_X7_compare (z_C d') Z) (x2 : Int32) (b1 : Bool) (g p : Int64) (f : Int32) (K : Z 0 203 [(6, .int 16), (2, .int (x2 + (nB (decide ((lg_cmp ((p >>> ((15 : Int32).toInt64 &&& 63)) &&& 1) 1) = 0))))), (0, .ref 50), (1, .int (nB b1))] [] (mGP μ g p f)) : Z 0 203 [(6, .int 15), (2, .int x2), (0, .ref 50), (1, .int (nB b1))] [] (mGP μ g p f) := by
  have hH : zH mi_X7_compare zt_X7_compare 79 7 7 := hh_X7_compare
  refine z_rcs hc hH 12 (pc' := 222) (lv' := [(6, .int 15), (2, .int x2), (0, .ref 50), (1, .int (nB b1))]) (st' := [.int (lg_cmp ((p >>> ((15 : Int32).toInt64 &&& 63)) &&& 1) 1), .int x2]) (μ' := mGP μ g p f) (by rfl) ?_
  have hJ1 : Z 0 235 [(6, .int 15), (2, .int x2), (0, .ref 50), (1, .int (nB b1))] [.int (nB (decide ((lg_cmp ((p >>> ((15 : Int32).toInt64 &&& 63)) &&& 1) 1) = 0))), .int x2] (mGP μ g p f) := by
    generalize hee2 : (decide ((lg_cmp ((p >>> ((15 : Int32).toInt64 &&& 63)) &&& 1) 1) = 0)) = ee2
    refine z_rcs hc hH 4 (pc' := 203) (lv' := [(6, .int 16), (2, .int (x2 + (nB ee2))), (0, .ref 50), (1, .int (nB b1))]) (st' := []) (μ' := mGP μ g p f) (by rfl) ?_
    subst hee2
    exact K
  refine zq_if hc hH (by rfl) (tg := 234) (by rfl) (fun h3 => ?_) (fun h3 => ?_)
  · have h3 : (decide ((lg_cmp ((p >>> ((15 : Int32).toInt64 &&& 63)) &&& 1) 1) = 0)) = false := decide_eq_false (cm_ne.mp h3)
    refine z_rcs hc hH 1 (pc' := 235) (lv' := [(6, .int 15), (2, .int x2), (0, .ref 50), (1, .int (nB b1))]) (st' := [.int 0, .int x2]) (μ' := mGP μ g p f) (by rfl) ?_
    exact zJ hJ1 rfl (by first | with_reducible rfl | (simp only [h3, lb_f, Int64.or_zero, Int32.add_zero, nB_t, nB_f, Bool.not_true, Bool.not_false, Bool.and_true, Bool.true_and, Bool.false_and, Bool.and_false, Bool.or_true, Bool.true_or, Bool.false_or, Bool.or_false, cond_true, cond_false]; done) | rfl) rfl
  · have h3 : (decide ((lg_cmp ((p >>> ((15 : Int32).toInt64 &&& 63)) &&& 1) 1) = 0)) = true := decide_eq_true (cn_ne.mp h3)
    refine z_rcs hc hH 2 (pc' := 228) (lv' := [(6, .int 15), (2, .int x2), (0, .ref 50), (1, .int (nB b1))]) (st' := [.int (nB b1), .int 15, .int x2]) (μ' := mGP μ g p f) (by rfl) ?_
    refine zq_call hc (z_cx_ok hH (by rfl)) (fb_X7_han_15 d' (by omega) (mGP μ g p f) b1) (by decide +kernel) (fun r9 μ9 hq => ?_)
    obtain ⟨hμ9, rfl⟩ := hq
    rw [hμ9]
    clear hμ9 μ9
    show Z 0 231 [(6, .int 15), (2, .int x2), (0, .ref 50), (1, .int (nB b1))] [.int 1, .int x2] (mGP μ g p f)
    refine z_rcs hc hH 1 (pc' := 235) (lv' := [(6, .int 15), (2, .int x2), (0, .ref 50), (1, .int (nB b1))]) (st' := [.int 1, .int x2]) (μ' := mGP μ g p f) (by rfl) ?_
    exact zJ hJ1 rfl (by first | with_reducible rfl | (simp only [h3, lb_f, Int64.or_zero, Int32.add_zero, nB_t, nB_f, Bool.not_true, Bool.not_false, Bool.and_true, Bool.true_and, Bool.false_and, Bool.and_false, Bool.or_true, Bool.true_or, Bool.false_or, Bool.or_false, cond_true, cond_false]; done) | rfl) rfl
theorem cq203_16 (d' : Nat) (Z : zK) (hd : 1 ≤ d') (μ : zM) (hc : z_clo z_x0 mi_X7_compare (z_C d') Z) (x2 : Int32) (b1 : Bool) (g p : Int64) (f : Int32) (K : Z 0 203 [(6, .int 17), (2, .int (x2 + (bif decide ((lg_cmp ((p >>> ((16 : Int32).toInt64 &&& 63)) &&& 1) 1) = 0) then (2 : Int32) else 0))), (0, .ref 50), (1, .int (nB b1))] [] (mGP μ g p f)) : Z 0 203 [(6, .int 16), (2, .int x2), (0, .ref 50), (1, .int (nB b1))] [] (mGP μ g p f) := by
  have hH : zH mi_X7_compare zt_X7_compare 79 7 7 := hh_X7_compare
  refine z_rcs hc hH 12 (pc' := 222) (lv' := [(6, .int 16), (2, .int x2), (0, .ref 50), (1, .int (nB b1))]) (st' := [.int (lg_cmp ((p >>> ((16 : Int32).toInt64 &&& 63)) &&& 1) 1), .int x2]) (μ' := mGP μ g p f) (by rfl) ?_
  have hJ1 : Z 0 235 [(6, .int 16), (2, .int x2), (0, .ref 50), (1, .int (nB b1))] [.int (bif decide ((lg_cmp ((p >>> ((16 : Int32).toInt64 &&& 63)) &&& 1) 1) = 0) then (2 : Int32) else 0), .int x2] (mGP μ g p f) := by
    generalize hyy2 : (bif decide ((lg_cmp ((p >>> ((16 : Int32).toInt64 &&& 63)) &&& 1) 1) = 0) then (2 : Int32) else 0 : Int32) = yy2
    refine z_rcs hc hH 4 (pc' := 203) (lv' := [(6, .int 17), (2, .int (x2 + yy2)), (0, .ref 50), (1, .int (nB b1))]) (st' := []) (μ' := mGP μ g p f) (by rfl) ?_
    subst hyy2
    exact K
  refine zq_if hc hH (by rfl) (tg := 234) (by rfl) (fun h3 => ?_) (fun h3 => ?_)
  · have h3 : (decide ((lg_cmp ((p >>> ((16 : Int32).toInt64 &&& 63)) &&& 1) 1) = 0)) = false := decide_eq_false (cm_ne.mp h3)
    refine z_rcs hc hH 1 (pc' := 235) (lv' := [(6, .int 16), (2, .int x2), (0, .ref 50), (1, .int (nB b1))]) (st' := [.int 0, .int x2]) (μ' := mGP μ g p f) (by rfl) ?_
    exact zJ hJ1 rfl (by first | with_reducible rfl | (simp only [h3, lb_f, Int64.or_zero, Int32.add_zero, nB_t, nB_f, Bool.not_true, Bool.not_false, Bool.and_true, Bool.true_and, Bool.false_and, Bool.and_false, Bool.or_true, Bool.true_or, Bool.false_or, Bool.or_false, cond_true, cond_false]; done) | rfl) rfl
  · have h3 : (decide ((lg_cmp ((p >>> ((16 : Int32).toInt64 &&& 63)) &&& 1) 1) = 0)) = true := decide_eq_true (cn_ne.mp h3)
    refine z_rcs hc hH 2 (pc' := 228) (lv' := [(6, .int 16), (2, .int x2), (0, .ref 50), (1, .int (nB b1))]) (st' := [.int (nB b1), .int 16, .int x2]) (μ' := mGP μ g p f) (by rfl) ?_
    refine zq_call hc (z_cx_ok hH (by rfl)) (fb_X7_han_16 d' (by omega) (mGP μ g p f) b1) (by decide +kernel) (fun r9 μ9 hq => ?_)
    obtain ⟨hμ9, rfl⟩ := hq
    rw [hμ9]
    clear hμ9 μ9
    show Z 0 231 [(6, .int 16), (2, .int x2), (0, .ref 50), (1, .int (nB b1))] [.int 2, .int x2] (mGP μ g p f)
    refine z_rcs hc hH 1 (pc' := 235) (lv' := [(6, .int 16), (2, .int x2), (0, .ref 50), (1, .int (nB b1))]) (st' := [.int 2, .int x2]) (μ' := mGP μ g p f) (by rfl) ?_
    exact zJ hJ1 rfl (by first | with_reducible rfl | (simp only [h3, lb_f, Int64.or_zero, Int32.add_zero, nB_t, nB_f, Bool.not_true, Bool.not_false, Bool.and_true, Bool.true_and, Bool.false_and, Bool.and_false, Bool.or_true, Bool.true_or, Bool.false_or, Bool.or_false, cond_true, cond_false]; done) | rfl) rfl
theorem cq203_17 (d' : Nat) (Z : zK) (hd : 1 ≤ d') (μ : zM) (hc : z_clo z_x0 mi_X7_compare (z_C d') Z) (x2 : Int32) (b1 : Bool) (g p : Int64) (f : Int32) (K : Z 0 203 [(6, .int 18), (2, .int (x2 + (bif decide ((lg_cmp ((p >>> ((17 : Int32).toInt64 &&& 63)) &&& 1) 1) = 0) then bif b1 then (1 : Int32) else 2 else 0))), (0, .ref 50), (1, .int (nB b1))] [] (mGP μ g p f)) : Z 0 203 [(6, .int 17), (2, .int x2), (0, .ref 50), (1, .int (nB b1))] [] (mGP μ g p f) := by
  have hH : zH mi_X7_compare zt_X7_compare 79 7 7 := hh_X7_compare
  refine z_rcs hc hH 12 (pc' := 222) (lv' := [(6, .int 17), (2, .int x2), (0, .ref 50), (1, .int (nB b1))]) (st' := [.int (lg_cmp ((p >>> ((17 : Int32).toInt64 &&& 63)) &&& 1) 1), .int x2]) (μ' := mGP μ g p f) (by rfl) ?_
  have hJ1 : Z 0 235 [(6, .int 17), (2, .int x2), (0, .ref 50), (1, .int (nB b1))] [.int (bif decide ((lg_cmp ((p >>> ((17 : Int32).toInt64 &&& 63)) &&& 1) 1) = 0) then bif b1 then (1 : Int32) else 2 else 0), .int x2] (mGP μ g p f) := by
    generalize hyy2 : (bif decide ((lg_cmp ((p >>> ((17 : Int32).toInt64 &&& 63)) &&& 1) 1) = 0) then bif b1 then (1 : Int32) else 2 else 0 : Int32) = yy2
    refine z_rcs hc hH 4 (pc' := 203) (lv' := [(6, .int 18), (2, .int (x2 + yy2)), (0, .ref 50), (1, .int (nB b1))]) (st' := []) (μ' := mGP μ g p f) (by rfl) ?_
    subst hyy2
    exact K
  refine zq_if hc hH (by rfl) (tg := 234) (by rfl) (fun h3 => ?_) (fun h3 => ?_)
  · have h3 : (decide ((lg_cmp ((p >>> ((17 : Int32).toInt64 &&& 63)) &&& 1) 1) = 0)) = false := decide_eq_false (cm_ne.mp h3)
    refine z_rcs hc hH 1 (pc' := 235) (lv' := [(6, .int 17), (2, .int x2), (0, .ref 50), (1, .int (nB b1))]) (st' := [.int 0, .int x2]) (μ' := mGP μ g p f) (by rfl) ?_
    exact zJ hJ1 rfl (by first | with_reducible rfl | (simp only [h3, lb_f, Int64.or_zero, Int32.add_zero, nB_t, nB_f, Bool.not_true, Bool.not_false, Bool.and_true, Bool.true_and, Bool.false_and, Bool.and_false, Bool.or_true, Bool.true_or, Bool.false_or, Bool.or_false, cond_true, cond_false]; done) | rfl) rfl
  · have h3 : (decide ((lg_cmp ((p >>> ((17 : Int32).toInt64 &&& 63)) &&& 1) 1) = 0)) = true := decide_eq_true (cn_ne.mp h3)
    refine z_rcs hc hH 2 (pc' := 228) (lv' := [(6, .int 17), (2, .int x2), (0, .ref 50), (1, .int (nB b1))]) (st' := [.int (nB b1), .int 17, .int x2]) (μ' := mGP μ g p f) (by rfl) ?_
    refine zq_call hc (z_cx_ok hH (by rfl)) (fb_X7_han_17 d' (by omega) (mGP μ g p f) b1) (by decide +kernel) (fun r9 μ9 hq => ?_)
    obtain ⟨hμ9, rfl⟩ := hq
    rw [hμ9]
    clear hμ9 μ9
    show Z 0 231 [(6, .int 17), (2, .int x2), (0, .ref 50), (1, .int (nB b1))] [.int (bif b1 then (1 : Int32) else 2), .int x2] (mGP μ g p f)
    refine z_rcs hc hH 1 (pc' := 235) (lv' := [(6, .int 17), (2, .int x2), (0, .ref 50), (1, .int (nB b1))]) (st' := [.int (bif b1 then (1 : Int32) else 2), .int x2]) (μ' := mGP μ g p f) (by rfl) ?_
    exact zJ hJ1 rfl (by first | with_reducible rfl | (simp only [h3, lb_f, Int64.or_zero, Int32.add_zero, nB_t, nB_f, Bool.not_true, Bool.not_false, Bool.and_true, Bool.true_and, Bool.false_and, Bool.and_false, Bool.or_true, Bool.true_or, Bool.false_or, Bool.or_false, cond_true, cond_false]; done) | rfl) rfl
theorem cq203_18 (d' : Nat) (Z : zK) (hd : 1 ≤ d') (μ : zM) (hc : z_clo z_x0 mi_X7_compare (z_C d') Z) (x2 : Int32) (b1 : Bool) (g p : Int64) (f : Int32) (K : Z 0 203 [(6, .int 19), (2, .int (x2 + (bif decide ((lg_cmp ((p >>> ((18 : Int32).toInt64 &&& 63)) &&& 1) 1) = 0) then bif b1 then (1 : Int32) else 2 else 0))), (0, .ref 50), (1, .int (nB b1))] [] (mGP μ g p f)) : Z 0 203 [(6, .int 18), (2, .int x2), (0, .ref 50), (1, .int (nB b1))] [] (mGP μ g p f) := by
  have hH : zH mi_X7_compare zt_X7_compare 79 7 7 := hh_X7_compare
  refine z_rcs hc hH 12 (pc' := 222) (lv' := [(6, .int 18), (2, .int x2), (0, .ref 50), (1, .int (nB b1))]) (st' := [.int (lg_cmp ((p >>> ((18 : Int32).toInt64 &&& 63)) &&& 1) 1), .int x2]) (μ' := mGP μ g p f) (by rfl) ?_
  have hJ1 : Z 0 235 [(6, .int 18), (2, .int x2), (0, .ref 50), (1, .int (nB b1))] [.int (bif decide ((lg_cmp ((p >>> ((18 : Int32).toInt64 &&& 63)) &&& 1) 1) = 0) then bif b1 then (1 : Int32) else 2 else 0), .int x2] (mGP μ g p f) := by
    generalize hyy2 : (bif decide ((lg_cmp ((p >>> ((18 : Int32).toInt64 &&& 63)) &&& 1) 1) = 0) then bif b1 then (1 : Int32) else 2 else 0 : Int32) = yy2
    refine z_rcs hc hH 4 (pc' := 203) (lv' := [(6, .int 19), (2, .int (x2 + yy2)), (0, .ref 50), (1, .int (nB b1))]) (st' := []) (μ' := mGP μ g p f) (by rfl) ?_
    subst hyy2
    exact K
  refine zq_if hc hH (by rfl) (tg := 234) (by rfl) (fun h3 => ?_) (fun h3 => ?_)
  · have h3 : (decide ((lg_cmp ((p >>> ((18 : Int32).toInt64 &&& 63)) &&& 1) 1) = 0)) = false := decide_eq_false (cm_ne.mp h3)
    refine z_rcs hc hH 1 (pc' := 235) (lv' := [(6, .int 18), (2, .int x2), (0, .ref 50), (1, .int (nB b1))]) (st' := [.int 0, .int x2]) (μ' := mGP μ g p f) (by rfl) ?_
    exact zJ hJ1 rfl (by first | with_reducible rfl | (simp only [h3, lb_f, Int64.or_zero, Int32.add_zero, nB_t, nB_f, Bool.not_true, Bool.not_false, Bool.and_true, Bool.true_and, Bool.false_and, Bool.and_false, Bool.or_true, Bool.true_or, Bool.false_or, Bool.or_false, cond_true, cond_false]; done) | rfl) rfl
  · have h3 : (decide ((lg_cmp ((p >>> ((18 : Int32).toInt64 &&& 63)) &&& 1) 1) = 0)) = true := decide_eq_true (cn_ne.mp h3)
    refine z_rcs hc hH 2 (pc' := 228) (lv' := [(6, .int 18), (2, .int x2), (0, .ref 50), (1, .int (nB b1))]) (st' := [.int (nB b1), .int 18, .int x2]) (μ' := mGP μ g p f) (by rfl) ?_
    refine zq_call hc (z_cx_ok hH (by rfl)) (fb_X7_han_18 d' (by omega) (mGP μ g p f) b1) (by decide +kernel) (fun r9 μ9 hq => ?_)
    obtain ⟨hμ9, rfl⟩ := hq
    rw [hμ9]
    clear hμ9 μ9
    show Z 0 231 [(6, .int 18), (2, .int x2), (0, .ref 50), (1, .int (nB b1))] [.int (bif b1 then (1 : Int32) else 2), .int x2] (mGP μ g p f)
    refine z_rcs hc hH 1 (pc' := 235) (lv' := [(6, .int 18), (2, .int x2), (0, .ref 50), (1, .int (nB b1))]) (st' := [.int (bif b1 then (1 : Int32) else 2), .int x2]) (μ' := mGP μ g p f) (by rfl) ?_
    exact zJ hJ1 rfl (by first | with_reducible rfl | (simp only [h3, lb_f, Int64.or_zero, Int32.add_zero, nB_t, nB_f, Bool.not_true, Bool.not_false, Bool.and_true, Bool.true_and, Bool.false_and, Bool.and_false, Bool.or_true, Bool.true_or, Bool.false_or, Bool.or_false, cond_true, cond_false]; done) | rfl) rfl
theorem cq203_19 (d' : Nat) (Z : zK) (hd : 1 ≤ d') (μ : zM) (hc : z_clo z_x0 mi_X7_compare (z_C d') Z) (x2 : Int32) (b1 : Bool) (g p : Int64) (f : Int32) (K : Z 0 203 [(6, .int 20), (2, .int (x2 + (bif decide ((lg_cmp ((p >>> ((19 : Int32).toInt64 &&& 63)) &&& 1) 1) = 0) then (2 : Int32) else 0))), (0, .ref 50), (1, .int (nB b1))] [] (mGP μ g p f)) : Z 0 203 [(6, .int 19), (2, .int x2), (0, .ref 50), (1, .int (nB b1))] [] (mGP μ g p f) := by
  have hH : zH mi_X7_compare zt_X7_compare 79 7 7 := hh_X7_compare
  refine z_rcs hc hH 12 (pc' := 222) (lv' := [(6, .int 19), (2, .int x2), (0, .ref 50), (1, .int (nB b1))]) (st' := [.int (lg_cmp ((p >>> ((19 : Int32).toInt64 &&& 63)) &&& 1) 1), .int x2]) (μ' := mGP μ g p f) (by rfl) ?_
  have hJ1 : Z 0 235 [(6, .int 19), (2, .int x2), (0, .ref 50), (1, .int (nB b1))] [.int (bif decide ((lg_cmp ((p >>> ((19 : Int32).toInt64 &&& 63)) &&& 1) 1) = 0) then (2 : Int32) else 0), .int x2] (mGP μ g p f) := by
    generalize hyy2 : (bif decide ((lg_cmp ((p >>> ((19 : Int32).toInt64 &&& 63)) &&& 1) 1) = 0) then (2 : Int32) else 0 : Int32) = yy2
    refine z_rcs hc hH 4 (pc' := 203) (lv' := [(6, .int 20), (2, .int (x2 + yy2)), (0, .ref 50), (1, .int (nB b1))]) (st' := []) (μ' := mGP μ g p f) (by rfl) ?_
    subst hyy2
    exact K
  refine zq_if hc hH (by rfl) (tg := 234) (by rfl) (fun h3 => ?_) (fun h3 => ?_)
  · have h3 : (decide ((lg_cmp ((p >>> ((19 : Int32).toInt64 &&& 63)) &&& 1) 1) = 0)) = false := decide_eq_false (cm_ne.mp h3)
    refine z_rcs hc hH 1 (pc' := 235) (lv' := [(6, .int 19), (2, .int x2), (0, .ref 50), (1, .int (nB b1))]) (st' := [.int 0, .int x2]) (μ' := mGP μ g p f) (by rfl) ?_
    exact zJ hJ1 rfl (by first | with_reducible rfl | (simp only [h3, lb_f, Int64.or_zero, Int32.add_zero, nB_t, nB_f, Bool.not_true, Bool.not_false, Bool.and_true, Bool.true_and, Bool.false_and, Bool.and_false, Bool.or_true, Bool.true_or, Bool.false_or, Bool.or_false, cond_true, cond_false]; done) | rfl) rfl
  · have h3 : (decide ((lg_cmp ((p >>> ((19 : Int32).toInt64 &&& 63)) &&& 1) 1) = 0)) = true := decide_eq_true (cn_ne.mp h3)
    refine z_rcs hc hH 2 (pc' := 228) (lv' := [(6, .int 19), (2, .int x2), (0, .ref 50), (1, .int (nB b1))]) (st' := [.int (nB b1), .int 19, .int x2]) (μ' := mGP μ g p f) (by rfl) ?_
    refine zq_call hc (z_cx_ok hH (by rfl)) (fb_X7_han_19 d' (by omega) (mGP μ g p f) b1) (by decide +kernel) (fun r9 μ9 hq => ?_)
    obtain ⟨hμ9, rfl⟩ := hq
    rw [hμ9]
    clear hμ9 μ9
    show Z 0 231 [(6, .int 19), (2, .int x2), (0, .ref 50), (1, .int (nB b1))] [.int 2, .int x2] (mGP μ g p f)
    refine z_rcs hc hH 1 (pc' := 235) (lv' := [(6, .int 19), (2, .int x2), (0, .ref 50), (1, .int (nB b1))]) (st' := [.int 2, .int x2]) (μ' := mGP μ g p f) (by rfl) ?_
    exact zJ hJ1 rfl (by first | with_reducible rfl | (simp only [h3, lb_f, Int64.or_zero, Int32.add_zero, nB_t, nB_f, Bool.not_true, Bool.not_false, Bool.and_true, Bool.true_and, Bool.false_and, Bool.and_false, Bool.or_true, Bool.true_or, Bool.false_or, Bool.or_false, cond_true, cond_false]; done) | rfl) rfl
theorem cq203_20 (d' : Nat) (Z : zK) (hd : 1 ≤ d') (μ : zM) (hc : z_clo z_x0 mi_X7_compare (z_C d') Z) (x2 : Int32) (b1 : Bool) (g p : Int64) (f : Int32) (K : Z 0 203 [(6, .int 21), (2, .int (x2 + (bif decide ((lg_cmp ((p >>> ((20 : Int32).toInt64 &&& 63)) &&& 1) 1) = 0) then (2 : Int32) else 0))), (0, .ref 50), (1, .int (nB b1))] [] (mGP μ g p f)) : Z 0 203 [(6, .int 20), (2, .int x2), (0, .ref 50), (1, .int (nB b1))] [] (mGP μ g p f) := by
  have hH : zH mi_X7_compare zt_X7_compare 79 7 7 := hh_X7_compare
  refine z_rcs hc hH 12 (pc' := 222) (lv' := [(6, .int 20), (2, .int x2), (0, .ref 50), (1, .int (nB b1))]) (st' := [.int (lg_cmp ((p >>> ((20 : Int32).toInt64 &&& 63)) &&& 1) 1), .int x2]) (μ' := mGP μ g p f) (by rfl) ?_
  have hJ1 : Z 0 235 [(6, .int 20), (2, .int x2), (0, .ref 50), (1, .int (nB b1))] [.int (bif decide ((lg_cmp ((p >>> ((20 : Int32).toInt64 &&& 63)) &&& 1) 1) = 0) then (2 : Int32) else 0), .int x2] (mGP μ g p f) := by
    generalize hyy2 : (bif decide ((lg_cmp ((p >>> ((20 : Int32).toInt64 &&& 63)) &&& 1) 1) = 0) then (2 : Int32) else 0 : Int32) = yy2
    refine z_rcs hc hH 4 (pc' := 203) (lv' := [(6, .int 21), (2, .int (x2 + yy2)), (0, .ref 50), (1, .int (nB b1))]) (st' := []) (μ' := mGP μ g p f) (by rfl) ?_
    subst hyy2
    exact K
  refine zq_if hc hH (by rfl) (tg := 234) (by rfl) (fun h3 => ?_) (fun h3 => ?_)
  · have h3 : (decide ((lg_cmp ((p >>> ((20 : Int32).toInt64 &&& 63)) &&& 1) 1) = 0)) = false := decide_eq_false (cm_ne.mp h3)
    refine z_rcs hc hH 1 (pc' := 235) (lv' := [(6, .int 20), (2, .int x2), (0, .ref 50), (1, .int (nB b1))]) (st' := [.int 0, .int x2]) (μ' := mGP μ g p f) (by rfl) ?_
    exact zJ hJ1 rfl (by first | with_reducible rfl | (simp only [h3, lb_f, Int64.or_zero, Int32.add_zero, nB_t, nB_f, Bool.not_true, Bool.not_false, Bool.and_true, Bool.true_and, Bool.false_and, Bool.and_false, Bool.or_true, Bool.true_or, Bool.false_or, Bool.or_false, cond_true, cond_false]; done) | rfl) rfl
  · have h3 : (decide ((lg_cmp ((p >>> ((20 : Int32).toInt64 &&& 63)) &&& 1) 1) = 0)) = true := decide_eq_true (cn_ne.mp h3)
    refine z_rcs hc hH 2 (pc' := 228) (lv' := [(6, .int 20), (2, .int x2), (0, .ref 50), (1, .int (nB b1))]) (st' := [.int (nB b1), .int 20, .int x2]) (μ' := mGP μ g p f) (by rfl) ?_
    refine zq_call hc (z_cx_ok hH (by rfl)) (fb_X7_han_20 d' (by omega) (mGP μ g p f) b1) (by decide +kernel) (fun r9 μ9 hq => ?_)
    obtain ⟨hμ9, rfl⟩ := hq
    rw [hμ9]
    clear hμ9 μ9
    show Z 0 231 [(6, .int 20), (2, .int x2), (0, .ref 50), (1, .int (nB b1))] [.int 2, .int x2] (mGP μ g p f)
    refine z_rcs hc hH 1 (pc' := 235) (lv' := [(6, .int 20), (2, .int x2), (0, .ref 50), (1, .int (nB b1))]) (st' := [.int 2, .int x2]) (μ' := mGP μ g p f) (by rfl) ?_
    exact zJ hJ1 rfl (by first | with_reducible rfl | (simp only [h3, lb_f, Int64.or_zero, Int32.add_zero, nB_t, nB_f, Bool.not_true, Bool.not_false, Bool.and_true, Bool.true_and, Bool.false_and, Bool.and_false, Bool.or_true, Bool.true_or, Bool.false_or, Bool.or_false, cond_true, cond_false]; done) | rfl) rfl
theorem cq203_21 (d' : Nat) (Z : zK) (hd : 1 ≤ d') (μ : zM) (hc : z_clo z_x0 mi_X7_compare (z_C d') Z) (x2 : Int32) (b1 : Bool) (g p : Int64) (f : Int32) (K : Z 0 203 [(6, .int 22), (2, .int (x2 + (bif decide ((lg_cmp ((p >>> ((21 : Int32).toInt64 &&& 63)) &&& 1) 1) = 0) then (2 : Int32) else 0))), (0, .ref 50), (1, .int (nB b1))] [] (mGP μ g p f)) : Z 0 203 [(6, .int 21), (2, .int x2), (0, .ref 50), (1, .int (nB b1))] [] (mGP μ g p f) := by
  have hH : zH mi_X7_compare zt_X7_compare 79 7 7 := hh_X7_compare
  refine z_rcs hc hH 12 (pc' := 222) (lv' := [(6, .int 21), (2, .int x2), (0, .ref 50), (1, .int (nB b1))]) (st' := [.int (lg_cmp ((p >>> ((21 : Int32).toInt64 &&& 63)) &&& 1) 1), .int x2]) (μ' := mGP μ g p f) (by rfl) ?_
  have hJ1 : Z 0 235 [(6, .int 21), (2, .int x2), (0, .ref 50), (1, .int (nB b1))] [.int (bif decide ((lg_cmp ((p >>> ((21 : Int32).toInt64 &&& 63)) &&& 1) 1) = 0) then (2 : Int32) else 0), .int x2] (mGP μ g p f) := by
    generalize hyy2 : (bif decide ((lg_cmp ((p >>> ((21 : Int32).toInt64 &&& 63)) &&& 1) 1) = 0) then (2 : Int32) else 0 : Int32) = yy2
    refine z_rcs hc hH 4 (pc' := 203) (lv' := [(6, .int 22), (2, .int (x2 + yy2)), (0, .ref 50), (1, .int (nB b1))]) (st' := []) (μ' := mGP μ g p f) (by rfl) ?_
    subst hyy2
    exact K
  refine zq_if hc hH (by rfl) (tg := 234) (by rfl) (fun h3 => ?_) (fun h3 => ?_)
  · have h3 : (decide ((lg_cmp ((p >>> ((21 : Int32).toInt64 &&& 63)) &&& 1) 1) = 0)) = false := decide_eq_false (cm_ne.mp h3)
    refine z_rcs hc hH 1 (pc' := 235) (lv' := [(6, .int 21), (2, .int x2), (0, .ref 50), (1, .int (nB b1))]) (st' := [.int 0, .int x2]) (μ' := mGP μ g p f) (by rfl) ?_
    exact zJ hJ1 rfl (by first | with_reducible rfl | (simp only [h3, lb_f, Int64.or_zero, Int32.add_zero, nB_t, nB_f, Bool.not_true, Bool.not_false, Bool.and_true, Bool.true_and, Bool.false_and, Bool.and_false, Bool.or_true, Bool.true_or, Bool.false_or, Bool.or_false, cond_true, cond_false]; done) | rfl) rfl
  · have h3 : (decide ((lg_cmp ((p >>> ((21 : Int32).toInt64 &&& 63)) &&& 1) 1) = 0)) = true := decide_eq_true (cn_ne.mp h3)
    refine z_rcs hc hH 2 (pc' := 228) (lv' := [(6, .int 21), (2, .int x2), (0, .ref 50), (1, .int (nB b1))]) (st' := [.int (nB b1), .int 21, .int x2]) (μ' := mGP μ g p f) (by rfl) ?_
    refine zq_call hc (z_cx_ok hH (by rfl)) (fb_X7_han_21 d' (by omega) (mGP μ g p f) b1) (by decide +kernel) (fun r9 μ9 hq => ?_)
    obtain ⟨hμ9, rfl⟩ := hq
    rw [hμ9]
    clear hμ9 μ9
    show Z 0 231 [(6, .int 21), (2, .int x2), (0, .ref 50), (1, .int (nB b1))] [.int 2, .int x2] (mGP μ g p f)
    refine z_rcs hc hH 1 (pc' := 235) (lv' := [(6, .int 21), (2, .int x2), (0, .ref 50), (1, .int (nB b1))]) (st' := [.int 2, .int x2]) (μ' := mGP μ g p f) (by rfl) ?_
    exact zJ hJ1 rfl (by first | with_reducible rfl | (simp only [h3, lb_f, Int64.or_zero, Int32.add_zero, nB_t, nB_f, Bool.not_true, Bool.not_false, Bool.and_true, Bool.true_and, Bool.false_and, Bool.and_false, Bool.or_true, Bool.true_or, Bool.false_or, Bool.or_false, cond_true, cond_false]; done) | rfl) rfl
theorem cq203_22 (d' : Nat) (Z : zK) (hd : 1 ≤ d') (μ : zM) (hc : z_clo z_x0 mi_X7_compare (z_C d') Z) (x2 : Int32) (b1 : Bool) (g p : Int64) (f : Int32) (K : Z 0 203 [(6, .int 23), (2, .int (x2 + (bif decide ((lg_cmp ((p >>> ((22 : Int32).toInt64 &&& 63)) &&& 1) 1) = 0) then (2 : Int32) else 0))), (0, .ref 50), (1, .int (nB b1))] [] (mGP μ g p f)) : Z 0 203 [(6, .int 22), (2, .int x2), (0, .ref 50), (1, .int (nB b1))] [] (mGP μ g p f) := by
  have hH : zH mi_X7_compare zt_X7_compare 79 7 7 := hh_X7_compare
  refine z_rcs hc hH 12 (pc' := 222) (lv' := [(6, .int 22), (2, .int x2), (0, .ref 50), (1, .int (nB b1))]) (st' := [.int (lg_cmp ((p >>> ((22 : Int32).toInt64 &&& 63)) &&& 1) 1), .int x2]) (μ' := mGP μ g p f) (by rfl) ?_
  have hJ1 : Z 0 235 [(6, .int 22), (2, .int x2), (0, .ref 50), (1, .int (nB b1))] [.int (bif decide ((lg_cmp ((p >>> ((22 : Int32).toInt64 &&& 63)) &&& 1) 1) = 0) then (2 : Int32) else 0), .int x2] (mGP μ g p f) := by
    generalize hyy2 : (bif decide ((lg_cmp ((p >>> ((22 : Int32).toInt64 &&& 63)) &&& 1) 1) = 0) then (2 : Int32) else 0 : Int32) = yy2
    refine z_rcs hc hH 4 (pc' := 203) (lv' := [(6, .int 23), (2, .int (x2 + yy2)), (0, .ref 50), (1, .int (nB b1))]) (st' := []) (μ' := mGP μ g p f) (by rfl) ?_
    subst hyy2
    exact K
  refine zq_if hc hH (by rfl) (tg := 234) (by rfl) (fun h3 => ?_) (fun h3 => ?_)
  · have h3 : (decide ((lg_cmp ((p >>> ((22 : Int32).toInt64 &&& 63)) &&& 1) 1) = 0)) = false := decide_eq_false (cm_ne.mp h3)
    refine z_rcs hc hH 1 (pc' := 235) (lv' := [(6, .int 22), (2, .int x2), (0, .ref 50), (1, .int (nB b1))]) (st' := [.int 0, .int x2]) (μ' := mGP μ g p f) (by rfl) ?_
    exact zJ hJ1 rfl (by first | with_reducible rfl | (simp only [h3, lb_f, Int64.or_zero, Int32.add_zero, nB_t, nB_f, Bool.not_true, Bool.not_false, Bool.and_true, Bool.true_and, Bool.false_and, Bool.and_false, Bool.or_true, Bool.true_or, Bool.false_or, Bool.or_false, cond_true, cond_false]; done) | rfl) rfl
  · have h3 : (decide ((lg_cmp ((p >>> ((22 : Int32).toInt64 &&& 63)) &&& 1) 1) = 0)) = true := decide_eq_true (cn_ne.mp h3)
    refine z_rcs hc hH 2 (pc' := 228) (lv' := [(6, .int 22), (2, .int x2), (0, .ref 50), (1, .int (nB b1))]) (st' := [.int (nB b1), .int 22, .int x2]) (μ' := mGP μ g p f) (by rfl) ?_
    refine zq_call hc (z_cx_ok hH (by rfl)) (fb_X7_han_22 d' (by omega) (mGP μ g p f) b1) (by decide +kernel) (fun r9 μ9 hq => ?_)
    obtain ⟨hμ9, rfl⟩ := hq
    rw [hμ9]
    clear hμ9 μ9
    show Z 0 231 [(6, .int 22), (2, .int x2), (0, .ref 50), (1, .int (nB b1))] [.int 2, .int x2] (mGP μ g p f)
    refine z_rcs hc hH 1 (pc' := 235) (lv' := [(6, .int 22), (2, .int x2), (0, .ref 50), (1, .int (nB b1))]) (st' := [.int 2, .int x2]) (μ' := mGP μ g p f) (by rfl) ?_
    exact zJ hJ1 rfl (by first | with_reducible rfl | (simp only [h3, lb_f, Int64.or_zero, Int32.add_zero, nB_t, nB_f, Bool.not_true, Bool.not_false, Bool.and_true, Bool.true_and, Bool.false_and, Bool.and_false, Bool.or_true, Bool.true_or, Bool.false_or, Bool.or_false, cond_true, cond_false]; done) | rfl) rfl
theorem cq203_23 (d' : Nat) (Z : zK) (hd : 1 ≤ d') (μ : zM) (hc : z_clo z_x0 mi_X7_compare (z_C d') Z) (x2 : Int32) (b1 : Bool) (g p : Int64) (f : Int32) (K : Z 0 203 [(6, .int 24), (2, .int (x2 + (bif decide ((lg_cmp ((p >>> ((23 : Int32).toInt64 &&& 63)) &&& 1) 1) = 0) then bif b1 then (1 : Int32) else 2 else 0))), (0, .ref 50), (1, .int (nB b1))] [] (mGP μ g p f)) : Z 0 203 [(6, .int 23), (2, .int x2), (0, .ref 50), (1, .int (nB b1))] [] (mGP μ g p f) := by
  have hH : zH mi_X7_compare zt_X7_compare 79 7 7 := hh_X7_compare
  refine z_rcs hc hH 12 (pc' := 222) (lv' := [(6, .int 23), (2, .int x2), (0, .ref 50), (1, .int (nB b1))]) (st' := [.int (lg_cmp ((p >>> ((23 : Int32).toInt64 &&& 63)) &&& 1) 1), .int x2]) (μ' := mGP μ g p f) (by rfl) ?_
  have hJ1 : Z 0 235 [(6, .int 23), (2, .int x2), (0, .ref 50), (1, .int (nB b1))] [.int (bif decide ((lg_cmp ((p >>> ((23 : Int32).toInt64 &&& 63)) &&& 1) 1) = 0) then bif b1 then (1 : Int32) else 2 else 0), .int x2] (mGP μ g p f) := by
    generalize hyy2 : (bif decide ((lg_cmp ((p >>> ((23 : Int32).toInt64 &&& 63)) &&& 1) 1) = 0) then bif b1 then (1 : Int32) else 2 else 0 : Int32) = yy2
    refine z_rcs hc hH 4 (pc' := 203) (lv' := [(6, .int 24), (2, .int (x2 + yy2)), (0, .ref 50), (1, .int (nB b1))]) (st' := []) (μ' := mGP μ g p f) (by rfl) ?_
    subst hyy2
    exact K
  refine zq_if hc hH (by rfl) (tg := 234) (by rfl) (fun h3 => ?_) (fun h3 => ?_)
  · have h3 : (decide ((lg_cmp ((p >>> ((23 : Int32).toInt64 &&& 63)) &&& 1) 1) = 0)) = false := decide_eq_false (cm_ne.mp h3)
    refine z_rcs hc hH 1 (pc' := 235) (lv' := [(6, .int 23), (2, .int x2), (0, .ref 50), (1, .int (nB b1))]) (st' := [.int 0, .int x2]) (μ' := mGP μ g p f) (by rfl) ?_
    exact zJ hJ1 rfl (by first | with_reducible rfl | (simp only [h3, lb_f, Int64.or_zero, Int32.add_zero, nB_t, nB_f, Bool.not_true, Bool.not_false, Bool.and_true, Bool.true_and, Bool.false_and, Bool.and_false, Bool.or_true, Bool.true_or, Bool.false_or, Bool.or_false, cond_true, cond_false]; done) | rfl) rfl
  · have h3 : (decide ((lg_cmp ((p >>> ((23 : Int32).toInt64 &&& 63)) &&& 1) 1) = 0)) = true := decide_eq_true (cn_ne.mp h3)
    refine z_rcs hc hH 2 (pc' := 228) (lv' := [(6, .int 23), (2, .int x2), (0, .ref 50), (1, .int (nB b1))]) (st' := [.int (nB b1), .int 23, .int x2]) (μ' := mGP μ g p f) (by rfl) ?_
    refine zq_call hc (z_cx_ok hH (by rfl)) (fb_X7_han_23 d' (by omega) (mGP μ g p f) b1) (by decide +kernel) (fun r9 μ9 hq => ?_)
    obtain ⟨hμ9, rfl⟩ := hq
    rw [hμ9]
    clear hμ9 μ9
    show Z 0 231 [(6, .int 23), (2, .int x2), (0, .ref 50), (1, .int (nB b1))] [.int (bif b1 then (1 : Int32) else 2), .int x2] (mGP μ g p f)
    refine z_rcs hc hH 1 (pc' := 235) (lv' := [(6, .int 23), (2, .int x2), (0, .ref 50), (1, .int (nB b1))]) (st' := [.int (bif b1 then (1 : Int32) else 2), .int x2]) (μ' := mGP μ g p f) (by rfl) ?_
    exact zJ hJ1 rfl (by first | with_reducible rfl | (simp only [h3, lb_f, Int64.or_zero, Int32.add_zero, nB_t, nB_f, Bool.not_true, Bool.not_false, Bool.and_true, Bool.true_and, Bool.false_and, Bool.and_false, Bool.or_true, Bool.true_or, Bool.false_or, Bool.or_false, cond_true, cond_false]; done) | rfl) rfl
theorem cq203_24 (d' : Nat) (Z : zK) (hd : 1 ≤ d') (μ : zM) (hc : z_clo z_x0 mi_X7_compare (z_C d') Z) (x2 : Int32) (b1 : Bool) (g p : Int64) (f : Int32) (K : Z 0 203 [(6, .int 25), (2, .int (x2 + (bif decide ((lg_cmp ((p >>> ((24 : Int32).toInt64 &&& 63)) &&& 1) 1) = 0) then (2 : Int32) else 0))), (0, .ref 50), (1, .int (nB b1))] [] (mGP μ g p f)) : Z 0 203 [(6, .int 24), (2, .int x2), (0, .ref 50), (1, .int (nB b1))] [] (mGP μ g p f) := by
  have hH : zH mi_X7_compare zt_X7_compare 79 7 7 := hh_X7_compare
  refine z_rcs hc hH 12 (pc' := 222) (lv' := [(6, .int 24), (2, .int x2), (0, .ref 50), (1, .int (nB b1))]) (st' := [.int (lg_cmp ((p >>> ((24 : Int32).toInt64 &&& 63)) &&& 1) 1), .int x2]) (μ' := mGP μ g p f) (by rfl) ?_
  have hJ1 : Z 0 235 [(6, .int 24), (2, .int x2), (0, .ref 50), (1, .int (nB b1))] [.int (bif decide ((lg_cmp ((p >>> ((24 : Int32).toInt64 &&& 63)) &&& 1) 1) = 0) then (2 : Int32) else 0), .int x2] (mGP μ g p f) := by
    generalize hyy2 : (bif decide ((lg_cmp ((p >>> ((24 : Int32).toInt64 &&& 63)) &&& 1) 1) = 0) then (2 : Int32) else 0 : Int32) = yy2
    refine z_rcs hc hH 4 (pc' := 203) (lv' := [(6, .int 25), (2, .int (x2 + yy2)), (0, .ref 50), (1, .int (nB b1))]) (st' := []) (μ' := mGP μ g p f) (by rfl) ?_
    subst hyy2
    exact K
  refine zq_if hc hH (by rfl) (tg := 234) (by rfl) (fun h3 => ?_) (fun h3 => ?_)
  · have h3 : (decide ((lg_cmp ((p >>> ((24 : Int32).toInt64 &&& 63)) &&& 1) 1) = 0)) = false := decide_eq_false (cm_ne.mp h3)
    refine z_rcs hc hH 1 (pc' := 235) (lv' := [(6, .int 24), (2, .int x2), (0, .ref 50), (1, .int (nB b1))]) (st' := [.int 0, .int x2]) (μ' := mGP μ g p f) (by rfl) ?_
    exact zJ hJ1 rfl (by first | with_reducible rfl | (simp only [h3, lb_f, Int64.or_zero, Int32.add_zero, nB_t, nB_f, Bool.not_true, Bool.not_false, Bool.and_true, Bool.true_and, Bool.false_and, Bool.and_false, Bool.or_true, Bool.true_or, Bool.false_or, Bool.or_false, cond_true, cond_false]; done) | rfl) rfl
  · have h3 : (decide ((lg_cmp ((p >>> ((24 : Int32).toInt64 &&& 63)) &&& 1) 1) = 0)) = true := decide_eq_true (cn_ne.mp h3)
    refine z_rcs hc hH 2 (pc' := 228) (lv' := [(6, .int 24), (2, .int x2), (0, .ref 50), (1, .int (nB b1))]) (st' := [.int (nB b1), .int 24, .int x2]) (μ' := mGP μ g p f) (by rfl) ?_
    refine zq_call hc (z_cx_ok hH (by rfl)) (fb_X7_han_24 d' (by omega) (mGP μ g p f) b1) (by decide +kernel) (fun r9 μ9 hq => ?_)
    obtain ⟨hμ9, rfl⟩ := hq
    rw [hμ9]
    clear hμ9 μ9
    show Z 0 231 [(6, .int 24), (2, .int x2), (0, .ref 50), (1, .int (nB b1))] [.int 2, .int x2] (mGP μ g p f)
    refine z_rcs hc hH 1 (pc' := 235) (lv' := [(6, .int 24), (2, .int x2), (0, .ref 50), (1, .int (nB b1))]) (st' := [.int 2, .int x2]) (μ' := mGP μ g p f) (by rfl) ?_
    exact zJ hJ1 rfl (by first | with_reducible rfl | (simp only [h3, lb_f, Int64.or_zero, Int32.add_zero, nB_t, nB_f, Bool.not_true, Bool.not_false, Bool.and_true, Bool.true_and, Bool.false_and, Bool.and_false, Bool.or_true, Bool.true_or, Bool.false_or, Bool.or_false, cond_true, cond_false]; done) | rfl) rfl
theorem cq203_25 (d' : Nat) (Z : zK) (hd : 1 ≤ d') (μ : zM) (hc : z_clo z_x0 mi_X7_compare (z_C d') Z) (x2 : Int32) (b1 : Bool) (g p : Int64) (f : Int32) (K : Z 0 203 [(6, .int 26), (2, .int (x2 + (bif decide ((lg_cmp ((p >>> ((25 : Int32).toInt64 &&& 63)) &&& 1) 1) = 0) then (2 : Int32) else 0))), (0, .ref 50), (1, .int (nB b1))] [] (mGP μ g p f)) : Z 0 203 [(6, .int 25), (2, .int x2), (0, .ref 50), (1, .int (nB b1))] [] (mGP μ g p f) := by
  have hH : zH mi_X7_compare zt_X7_compare 79 7 7 := hh_X7_compare
  refine z_rcs hc hH 12 (pc' := 222) (lv' := [(6, .int 25), (2, .int x2), (0, .ref 50), (1, .int (nB b1))]) (st' := [.int (lg_cmp ((p >>> ((25 : Int32).toInt64 &&& 63)) &&& 1) 1), .int x2]) (μ' := mGP μ g p f) (by rfl) ?_
  have hJ1 : Z 0 235 [(6, .int 25), (2, .int x2), (0, .ref 50), (1, .int (nB b1))] [.int (bif decide ((lg_cmp ((p >>> ((25 : Int32).toInt64 &&& 63)) &&& 1) 1) = 0) then (2 : Int32) else 0), .int x2] (mGP μ g p f) := by
    generalize hyy2 : (bif decide ((lg_cmp ((p >>> ((25 : Int32).toInt64 &&& 63)) &&& 1) 1) = 0) then (2 : Int32) else 0 : Int32) = yy2
    refine z_rcs hc hH 4 (pc' := 203) (lv' := [(6, .int 26), (2, .int (x2 + yy2)), (0, .ref 50), (1, .int (nB b1))]) (st' := []) (μ' := mGP μ g p f) (by rfl) ?_
    subst hyy2
    exact K
  refine zq_if hc hH (by rfl) (tg := 234) (by rfl) (fun h3 => ?_) (fun h3 => ?_)
  · have h3 : (decide ((lg_cmp ((p >>> ((25 : Int32).toInt64 &&& 63)) &&& 1) 1) = 0)) = false := decide_eq_false (cm_ne.mp h3)
    refine z_rcs hc hH 1 (pc' := 235) (lv' := [(6, .int 25), (2, .int x2), (0, .ref 50), (1, .int (nB b1))]) (st' := [.int 0, .int x2]) (μ' := mGP μ g p f) (by rfl) ?_
    exact zJ hJ1 rfl (by first | with_reducible rfl | (simp only [h3, lb_f, Int64.or_zero, Int32.add_zero, nB_t, nB_f, Bool.not_true, Bool.not_false, Bool.and_true, Bool.true_and, Bool.false_and, Bool.and_false, Bool.or_true, Bool.true_or, Bool.false_or, Bool.or_false, cond_true, cond_false]; done) | rfl) rfl
  · have h3 : (decide ((lg_cmp ((p >>> ((25 : Int32).toInt64 &&& 63)) &&& 1) 1) = 0)) = true := decide_eq_true (cn_ne.mp h3)
    refine z_rcs hc hH 2 (pc' := 228) (lv' := [(6, .int 25), (2, .int x2), (0, .ref 50), (1, .int (nB b1))]) (st' := [.int (nB b1), .int 25, .int x2]) (μ' := mGP μ g p f) (by rfl) ?_
    refine zq_call hc (z_cx_ok hH (by rfl)) (fb_X7_han_25 d' (by omega) (mGP μ g p f) b1) (by decide +kernel) (fun r9 μ9 hq => ?_)
    obtain ⟨hμ9, rfl⟩ := hq
    rw [hμ9]
    clear hμ9 μ9
    show Z 0 231 [(6, .int 25), (2, .int x2), (0, .ref 50), (1, .int (nB b1))] [.int 2, .int x2] (mGP μ g p f)
    refine z_rcs hc hH 1 (pc' := 235) (lv' := [(6, .int 25), (2, .int x2), (0, .ref 50), (1, .int (nB b1))]) (st' := [.int 2, .int x2]) (μ' := mGP μ g p f) (by rfl) ?_
    exact zJ hJ1 rfl (by first | with_reducible rfl | (simp only [h3, lb_f, Int64.or_zero, Int32.add_zero, nB_t, nB_f, Bool.not_true, Bool.not_false, Bool.and_true, Bool.true_and, Bool.false_and, Bool.and_false, Bool.or_true, Bool.true_or, Bool.false_or, Bool.or_false, cond_true, cond_false]; done) | rfl) rfl
theorem cq203_26 (d' : Nat) (Z : zK) (hd : 1 ≤ d') (μ : zM) (hc : z_clo z_x0 mi_X7_compare (z_C d') Z) (x2 : Int32) (b1 : Bool) (g p : Int64) (f : Int32) (K : Z 0 203 [(6, .int 27), (2, .int (x2 + (bif decide ((lg_cmp ((p >>> ((26 : Int32).toInt64 &&& 63)) &&& 1) 1) = 0) then bif b1 then (2 : Int32) else 3 else 0))), (0, .ref 50), (1, .int (nB b1))] [] (mGP μ g p f)) : Z 0 203 [(6, .int 26), (2, .int x2), (0, .ref 50), (1, .int (nB b1))] [] (mGP μ g p f) := by
  have hH : zH mi_X7_compare zt_X7_compare 79 7 7 := hh_X7_compare
  refine z_rcs hc hH 12 (pc' := 222) (lv' := [(6, .int 26), (2, .int x2), (0, .ref 50), (1, .int (nB b1))]) (st' := [.int (lg_cmp ((p >>> ((26 : Int32).toInt64 &&& 63)) &&& 1) 1), .int x2]) (μ' := mGP μ g p f) (by rfl) ?_
  have hJ1 : Z 0 235 [(6, .int 26), (2, .int x2), (0, .ref 50), (1, .int (nB b1))] [.int (bif decide ((lg_cmp ((p >>> ((26 : Int32).toInt64 &&& 63)) &&& 1) 1) = 0) then bif b1 then (2 : Int32) else 3 else 0), .int x2] (mGP μ g p f) := by
    generalize hyy2 : (bif decide ((lg_cmp ((p >>> ((26 : Int32).toInt64 &&& 63)) &&& 1) 1) = 0) then bif b1 then (2 : Int32) else 3 else 0 : Int32) = yy2
    refine z_rcs hc hH 4 (pc' := 203) (lv' := [(6, .int 27), (2, .int (x2 + yy2)), (0, .ref 50), (1, .int (nB b1))]) (st' := []) (μ' := mGP μ g p f) (by rfl) ?_
    subst hyy2
    exact K
  refine zq_if hc hH (by rfl) (tg := 234) (by rfl) (fun h3 => ?_) (fun h3 => ?_)
  · have h3 : (decide ((lg_cmp ((p >>> ((26 : Int32).toInt64 &&& 63)) &&& 1) 1) = 0)) = false := decide_eq_false (cm_ne.mp h3)
    refine z_rcs hc hH 1 (pc' := 235) (lv' := [(6, .int 26), (2, .int x2), (0, .ref 50), (1, .int (nB b1))]) (st' := [.int 0, .int x2]) (μ' := mGP μ g p f) (by rfl) ?_
    exact zJ hJ1 rfl (by first | with_reducible rfl | (simp only [h3, lb_f, Int64.or_zero, Int32.add_zero, nB_t, nB_f, Bool.not_true, Bool.not_false, Bool.and_true, Bool.true_and, Bool.false_and, Bool.and_false, Bool.or_true, Bool.true_or, Bool.false_or, Bool.or_false, cond_true, cond_false]; done) | rfl) rfl
  · have h3 : (decide ((lg_cmp ((p >>> ((26 : Int32).toInt64 &&& 63)) &&& 1) 1) = 0)) = true := decide_eq_true (cn_ne.mp h3)
    refine z_rcs hc hH 2 (pc' := 228) (lv' := [(6, .int 26), (2, .int x2), (0, .ref 50), (1, .int (nB b1))]) (st' := [.int (nB b1), .int 26, .int x2]) (μ' := mGP μ g p f) (by rfl) ?_
    refine zq_call hc (z_cx_ok hH (by rfl)) (fb_X7_han_26 d' (by omega) (mGP μ g p f) b1) (by decide +kernel) (fun r9 μ9 hq => ?_)
    obtain ⟨hμ9, rfl⟩ := hq
    rw [hμ9]
    clear hμ9 μ9
    show Z 0 231 [(6, .int 26), (2, .int x2), (0, .ref 50), (1, .int (nB b1))] [.int (bif b1 then (2 : Int32) else 3), .int x2] (mGP μ g p f)
    refine z_rcs hc hH 1 (pc' := 235) (lv' := [(6, .int 26), (2, .int x2), (0, .ref 50), (1, .int (nB b1))]) (st' := [.int (bif b1 then (2 : Int32) else 3), .int x2]) (μ' := mGP μ g p f) (by rfl) ?_
    exact zJ hJ1 rfl (by first | with_reducible rfl | (simp only [h3, lb_f, Int64.or_zero, Int32.add_zero, nB_t, nB_f, Bool.not_true, Bool.not_false, Bool.and_true, Bool.true_and, Bool.false_and, Bool.and_false, Bool.or_true, Bool.true_or, Bool.false_or, Bool.or_false, cond_true, cond_false]; done) | rfl) rfl
theorem cq203_27 (d' : Nat) (Z : zK) (hd : 1 ≤ d') (μ : zM) (hc : z_clo z_x0 mi_X7_compare (z_C d') Z) (x2 : Int32) (b1 : Bool) (g p : Int64) (f : Int32) (K : Z 0 203 [(6, .int 28), (2, .int (x2 + (bif decide ((lg_cmp ((p >>> ((27 : Int32).toInt64 &&& 63)) &&& 1) 1) = 0) then bif b1 then (2 : Int32) else 3 else 0))), (0, .ref 50), (1, .int (nB b1))] [] (mGP μ g p f)) : Z 0 203 [(6, .int 27), (2, .int x2), (0, .ref 50), (1, .int (nB b1))] [] (mGP μ g p f) := by
  have hH : zH mi_X7_compare zt_X7_compare 79 7 7 := hh_X7_compare
  refine z_rcs hc hH 12 (pc' := 222) (lv' := [(6, .int 27), (2, .int x2), (0, .ref 50), (1, .int (nB b1))]) (st' := [.int (lg_cmp ((p >>> ((27 : Int32).toInt64 &&& 63)) &&& 1) 1), .int x2]) (μ' := mGP μ g p f) (by rfl) ?_
  have hJ1 : Z 0 235 [(6, .int 27), (2, .int x2), (0, .ref 50), (1, .int (nB b1))] [.int (bif decide ((lg_cmp ((p >>> ((27 : Int32).toInt64 &&& 63)) &&& 1) 1) = 0) then bif b1 then (2 : Int32) else 3 else 0), .int x2] (mGP μ g p f) := by
    generalize hyy2 : (bif decide ((lg_cmp ((p >>> ((27 : Int32).toInt64 &&& 63)) &&& 1) 1) = 0) then bif b1 then (2 : Int32) else 3 else 0 : Int32) = yy2
    refine z_rcs hc hH 4 (pc' := 203) (lv' := [(6, .int 28), (2, .int (x2 + yy2)), (0, .ref 50), (1, .int (nB b1))]) (st' := []) (μ' := mGP μ g p f) (by rfl) ?_
    subst hyy2
    exact K
  refine zq_if hc hH (by rfl) (tg := 234) (by rfl) (fun h3 => ?_) (fun h3 => ?_)
  · have h3 : (decide ((lg_cmp ((p >>> ((27 : Int32).toInt64 &&& 63)) &&& 1) 1) = 0)) = false := decide_eq_false (cm_ne.mp h3)
    refine z_rcs hc hH 1 (pc' := 235) (lv' := [(6, .int 27), (2, .int x2), (0, .ref 50), (1, .int (nB b1))]) (st' := [.int 0, .int x2]) (μ' := mGP μ g p f) (by rfl) ?_
    exact zJ hJ1 rfl (by first | with_reducible rfl | (simp only [h3, lb_f, Int64.or_zero, Int32.add_zero, nB_t, nB_f, Bool.not_true, Bool.not_false, Bool.and_true, Bool.true_and, Bool.false_and, Bool.and_false, Bool.or_true, Bool.true_or, Bool.false_or, Bool.or_false, cond_true, cond_false]; done) | rfl) rfl
  · have h3 : (decide ((lg_cmp ((p >>> ((27 : Int32).toInt64 &&& 63)) &&& 1) 1) = 0)) = true := decide_eq_true (cn_ne.mp h3)
    refine z_rcs hc hH 2 (pc' := 228) (lv' := [(6, .int 27), (2, .int x2), (0, .ref 50), (1, .int (nB b1))]) (st' := [.int (nB b1), .int 27, .int x2]) (μ' := mGP μ g p f) (by rfl) ?_
    refine zq_call hc (z_cx_ok hH (by rfl)) (fb_X7_han_27 d' (by omega) (mGP μ g p f) b1) (by decide +kernel) (fun r9 μ9 hq => ?_)
    obtain ⟨hμ9, rfl⟩ := hq
    rw [hμ9]
    clear hμ9 μ9
    show Z 0 231 [(6, .int 27), (2, .int x2), (0, .ref 50), (1, .int (nB b1))] [.int (bif b1 then (2 : Int32) else 3), .int x2] (mGP μ g p f)
    refine z_rcs hc hH 1 (pc' := 235) (lv' := [(6, .int 27), (2, .int x2), (0, .ref 50), (1, .int (nB b1))]) (st' := [.int (bif b1 then (2 : Int32) else 3), .int x2]) (μ' := mGP μ g p f) (by rfl) ?_
    exact zJ hJ1 rfl (by first | with_reducible rfl | (simp only [h3, lb_f, Int64.or_zero, Int32.add_zero, nB_t, nB_f, Bool.not_true, Bool.not_false, Bool.and_true, Bool.true_and, Bool.false_and, Bool.and_false, Bool.or_true, Bool.true_or, Bool.false_or, Bool.or_false, cond_true, cond_false]; done) | rfl) rfl
theorem cq203_28 (d' : Nat) (Z : zK) (hd : 1 ≤ d') (μ : zM) (hc : z_clo z_x0 mi_X7_compare (z_C d') Z) (x2 : Int32) (b1 : Bool) (g p : Int64) (f : Int32) (K : Z 0 203 [(6, .int 29), (2, .int (x2 + (bif decide ((lg_cmp ((p >>> ((28 : Int32).toInt64 &&& 63)) &&& 1) 1) = 0) then bif b1 then (0 : Int32) else 3 else 0))), (0, .ref 50), (1, .int (nB b1))] [] (mGP μ g p f)) : Z 0 203 [(6, .int 28), (2, .int x2), (0, .ref 50), (1, .int (nB b1))] [] (mGP μ g p f) := by
  have hH : zH mi_X7_compare zt_X7_compare 79 7 7 := hh_X7_compare
  refine z_rcs hc hH 12 (pc' := 222) (lv' := [(6, .int 28), (2, .int x2), (0, .ref 50), (1, .int (nB b1))]) (st' := [.int (lg_cmp ((p >>> ((28 : Int32).toInt64 &&& 63)) &&& 1) 1), .int x2]) (μ' := mGP μ g p f) (by rfl) ?_
  have hJ1 : Z 0 235 [(6, .int 28), (2, .int x2), (0, .ref 50), (1, .int (nB b1))] [.int (bif decide ((lg_cmp ((p >>> ((28 : Int32).toInt64 &&& 63)) &&& 1) 1) = 0) then bif b1 then (0 : Int32) else 3 else 0), .int x2] (mGP μ g p f) := by
    generalize hyy2 : (bif decide ((lg_cmp ((p >>> ((28 : Int32).toInt64 &&& 63)) &&& 1) 1) = 0) then bif b1 then (0 : Int32) else 3 else 0 : Int32) = yy2
    refine z_rcs hc hH 4 (pc' := 203) (lv' := [(6, .int 29), (2, .int (x2 + yy2)), (0, .ref 50), (1, .int (nB b1))]) (st' := []) (μ' := mGP μ g p f) (by rfl) ?_
    subst hyy2
    exact K
  refine zq_if hc hH (by rfl) (tg := 234) (by rfl) (fun h3 => ?_) (fun h3 => ?_)
  · have h3 : (decide ((lg_cmp ((p >>> ((28 : Int32).toInt64 &&& 63)) &&& 1) 1) = 0)) = false := decide_eq_false (cm_ne.mp h3)
    refine z_rcs hc hH 1 (pc' := 235) (lv' := [(6, .int 28), (2, .int x2), (0, .ref 50), (1, .int (nB b1))]) (st' := [.int 0, .int x2]) (μ' := mGP μ g p f) (by rfl) ?_
    exact zJ hJ1 rfl (by first | with_reducible rfl | (simp only [h3, lb_f, Int64.or_zero, Int32.add_zero, nB_t, nB_f, Bool.not_true, Bool.not_false, Bool.and_true, Bool.true_and, Bool.false_and, Bool.and_false, Bool.or_true, Bool.true_or, Bool.false_or, Bool.or_false, cond_true, cond_false]; done) | rfl) rfl
  · have h3 : (decide ((lg_cmp ((p >>> ((28 : Int32).toInt64 &&& 63)) &&& 1) 1) = 0)) = true := decide_eq_true (cn_ne.mp h3)
    refine z_rcs hc hH 2 (pc' := 228) (lv' := [(6, .int 28), (2, .int x2), (0, .ref 50), (1, .int (nB b1))]) (st' := [.int (nB b1), .int 28, .int x2]) (μ' := mGP μ g p f) (by rfl) ?_
    refine zq_call hc (z_cx_ok hH (by rfl)) (fb_X7_han_28 d' (by omega) (mGP μ g p f) b1) (by decide +kernel) (fun r9 μ9 hq => ?_)
    obtain ⟨hμ9, rfl⟩ := hq
    rw [hμ9]
    clear hμ9 μ9
    show Z 0 231 [(6, .int 28), (2, .int x2), (0, .ref 50), (1, .int (nB b1))] [.int (bif b1 then (0 : Int32) else 3), .int x2] (mGP μ g p f)
    refine z_rcs hc hH 1 (pc' := 235) (lv' := [(6, .int 28), (2, .int x2), (0, .ref 50), (1, .int (nB b1))]) (st' := [.int (bif b1 then (0 : Int32) else 3), .int x2]) (μ' := mGP μ g p f) (by rfl) ?_
    exact zJ hJ1 rfl (by first | with_reducible rfl | (simp only [h3, lb_f, Int64.or_zero, Int32.add_zero, nB_t, nB_f, Bool.not_true, Bool.not_false, Bool.and_true, Bool.true_and, Bool.false_and, Bool.and_false, Bool.or_true, Bool.true_or, Bool.false_or, Bool.or_false, cond_true, cond_false]; done) | rfl) rfl
theorem cq203_29 (d' : Nat) (Z : zK) (hd : 1 ≤ d') (μ : zM) (hc : z_clo z_x0 mi_X7_compare (z_C d') Z) (x2 : Int32) (b1 : Bool) (g p : Int64) (f : Int32) (K : Z 0 203 [(6, .int 30), (2, .int (x2 + (bif decide ((lg_cmp ((p >>> ((29 : Int32).toInt64 &&& 63)) &&& 1) 1) = 0) then bif b1 then (5 : Int32) else 6 else 0))), (0, .ref 50), (1, .int (nB b1))] [] (mGP μ g p f)) : Z 0 203 [(6, .int 29), (2, .int x2), (0, .ref 50), (1, .int (nB b1))] [] (mGP μ g p f) := by
  have hH : zH mi_X7_compare zt_X7_compare 79 7 7 := hh_X7_compare
  refine z_rcs hc hH 12 (pc' := 222) (lv' := [(6, .int 29), (2, .int x2), (0, .ref 50), (1, .int (nB b1))]) (st' := [.int (lg_cmp ((p >>> ((29 : Int32).toInt64 &&& 63)) &&& 1) 1), .int x2]) (μ' := mGP μ g p f) (by rfl) ?_
  have hJ1 : Z 0 235 [(6, .int 29), (2, .int x2), (0, .ref 50), (1, .int (nB b1))] [.int (bif decide ((lg_cmp ((p >>> ((29 : Int32).toInt64 &&& 63)) &&& 1) 1) = 0) then bif b1 then (5 : Int32) else 6 else 0), .int x2] (mGP μ g p f) := by
    generalize hyy2 : (bif decide ((lg_cmp ((p >>> ((29 : Int32).toInt64 &&& 63)) &&& 1) 1) = 0) then bif b1 then (5 : Int32) else 6 else 0 : Int32) = yy2
    refine z_rcs hc hH 4 (pc' := 203) (lv' := [(6, .int 30), (2, .int (x2 + yy2)), (0, .ref 50), (1, .int (nB b1))]) (st' := []) (μ' := mGP μ g p f) (by rfl) ?_
    subst hyy2
    exact K
  refine zq_if hc hH (by rfl) (tg := 234) (by rfl) (fun h3 => ?_) (fun h3 => ?_)
  · have h3 : (decide ((lg_cmp ((p >>> ((29 : Int32).toInt64 &&& 63)) &&& 1) 1) = 0)) = false := decide_eq_false (cm_ne.mp h3)
    refine z_rcs hc hH 1 (pc' := 235) (lv' := [(6, .int 29), (2, .int x2), (0, .ref 50), (1, .int (nB b1))]) (st' := [.int 0, .int x2]) (μ' := mGP μ g p f) (by rfl) ?_
    exact zJ hJ1 rfl (by first | with_reducible rfl | (simp only [h3, lb_f, Int64.or_zero, Int32.add_zero, nB_t, nB_f, Bool.not_true, Bool.not_false, Bool.and_true, Bool.true_and, Bool.false_and, Bool.and_false, Bool.or_true, Bool.true_or, Bool.false_or, Bool.or_false, cond_true, cond_false]; done) | rfl) rfl
  · have h3 : (decide ((lg_cmp ((p >>> ((29 : Int32).toInt64 &&& 63)) &&& 1) 1) = 0)) = true := decide_eq_true (cn_ne.mp h3)
    refine z_rcs hc hH 2 (pc' := 228) (lv' := [(6, .int 29), (2, .int x2), (0, .ref 50), (1, .int (nB b1))]) (st' := [.int (nB b1), .int 29, .int x2]) (μ' := mGP μ g p f) (by rfl) ?_
    refine zq_call hc (z_cx_ok hH (by rfl)) (fb_X7_han_29 d' (by omega) (mGP μ g p f) b1) (by decide +kernel) (fun r9 μ9 hq => ?_)
    obtain ⟨hμ9, rfl⟩ := hq
    rw [hμ9]
    clear hμ9 μ9
    show Z 0 231 [(6, .int 29), (2, .int x2), (0, .ref 50), (1, .int (nB b1))] [.int (bif b1 then (5 : Int32) else 6), .int x2] (mGP μ g p f)
    refine z_rcs hc hH 1 (pc' := 235) (lv' := [(6, .int 29), (2, .int x2), (0, .ref 50), (1, .int (nB b1))]) (st' := [.int (bif b1 then (5 : Int32) else 6), .int x2]) (μ' := mGP μ g p f) (by rfl) ?_
    exact zJ hJ1 rfl (by first | with_reducible rfl | (simp only [h3, lb_f, Int64.or_zero, Int32.add_zero, nB_t, nB_f, Bool.not_true, Bool.not_false, Bool.and_true, Bool.true_and, Bool.false_and, Bool.and_false, Bool.or_true, Bool.true_or, Bool.false_or, Bool.or_false, cond_true, cond_false]; done) | rfl) rfl
theorem cq203_30 (d' : Nat) (Z : zK) (hd : 1 ≤ d') (μ : zM) (hc : z_clo z_x0 mi_X7_compare (z_C d') Z) (x2 : Int32) (b1 : Bool) (g p : Int64) (f : Int32) (K : Z 0 249 [(4, .long p), (6, .int 30), (2, .int x2), (0, .ref 50), (1, .int (nB b1))] [] (mGP μ g p f)) : Z 0 203 [(6, .int 30), (2, .int x2), (0, .ref 50), (1, .int (nB b1))] [] (mGP μ g p f) := by
  have hH : zH mi_X7_compare zt_X7_compare 79 7 7 := hh_X7_compare
  refine z_rcs hc hH 6 (pc' := 249) (lv' := [(4, .long p), (6, .int 30), (2, .int x2), (0, .ref 50), (1, .int (nB b1))]) (st' := []) (μ' := mGP μ g p f) (by rfl) ?_
  exact K
theorem cq259 (d' : Nat) (Z : zK) (hd : 1 ≤ d') (μ : zM) (hc : z_clo z_x0 mi_X7_compare (z_C d') Z) (x2 : Int32) (b1 : Bool) (g p : Int64) (f : Int32) (K : Z 0 339 [(3, .int (bif decide ((x2 + (μ.1 50 10)) ≤ 4) then if (f <<< ((2 + (x2 + (μ.1 50 10))) &&& 31)) < 2000 then f <<< ((2 + (x2 + (μ.1 50 10))) &&& 31) else 2000 else bif decide ((x2 + (μ.1 50 10)) = 5) then (2000 : Int32) else bif decide (8 ≤ (x2 + (μ.1 50 10))) then bif decide (11 ≤ (x2 + (μ.1 50 10))) then bif decide (13 ≤ (x2 + (μ.1 50 10))) then (8000 : Int32) else 6000 else 4000 else 3000)), (2, .int (x2 + (μ.1 50 10))), (4, .long p), (6, .int 30), (0, .ref 50), (1, .int (nB b1))] [] (mGP μ g p f)) : Z 0 259 [(4, .long p), (6, .int 30), (2, .int x2), (0, .ref 50), (1, .int (nB b1))] [] (mGP μ g p f) := by
  have hH : zH mi_X7_compare zt_X7_compare 79 7 7 := hh_X7_compare
  refine z_rcs hc hH 7 (pc' := 268) (lv' := [(2, .int (x2 + (μ.1 50 10))), (4, .long p), (6, .int 30), (0, .ref 50), (1, .int (nB b1))]) (st' := [.int 4, .int (x2 + (μ.1 50 10))]) (μ' := mGP μ g p f) (by rfl) ?_
  have hJ1 : Z 0 338 [(2, .int (x2 + (μ.1 50 10))), (4, .long p), (6, .int 30), (0, .ref 50), (1, .int (nB b1))] [.int (bif decide ((x2 + (μ.1 50 10)) ≤ 4) then if (f <<< ((2 + (x2 + (μ.1 50 10))) &&& 31)) < 2000 then f <<< ((2 + (x2 + (μ.1 50 10))) &&& 31) else 2000 else bif decide ((x2 + (μ.1 50 10)) = 5) then (2000 : Int32) else bif decide (8 ≤ (x2 + (μ.1 50 10))) then bif decide (11 ≤ (x2 + (μ.1 50 10))) then bif decide (13 ≤ (x2 + (μ.1 50 10))) then (8000 : Int32) else 6000 else 4000 else 3000)] (mGP μ g p f) := by
    generalize hyy2 : (bif decide ((x2 + (μ.1 50 10)) ≤ 4) then if (f <<< ((2 + (x2 + (μ.1 50 10))) &&& 31)) < 2000 then f <<< ((2 + (x2 + (μ.1 50 10))) &&& 31) else 2000 else bif decide ((x2 + (μ.1 50 10)) = 5) then (2000 : Int32) else bif decide (8 ≤ (x2 + (μ.1 50 10))) then bif decide (11 ≤ (x2 + (μ.1 50 10))) then bif decide (13 ≤ (x2 + (μ.1 50 10))) then (8000 : Int32) else 6000 else 4000 else 3000 : Int32) = yy2
    refine z_rcs hc hH 1 (pc' := 339) (lv' := [(3, .int yy2), (2, .int (x2 + (μ.1 50 10))), (4, .long p), (6, .int 30), (0, .ref 50), (1, .int (nB b1))]) (st' := []) (μ' := mGP μ g p f) (by rfl) ?_
    subst hyy2
    exact K
  refine zq_ic hc hH (by rfl) (tg := 324) (by rfl) (fun h3 => ?_) (fun h3 => ?_)
  · have h3 : (decide ((x2 + (μ.1 50 10)) ≤ 4)) = true := decide_eq_true (cm_le.mp h3)
    refine z_rcs hc hH 8 (pc' := 338) (lv' := [(2, .int (x2 + (μ.1 50 10))), (4, .long p), (6, .int 30), (0, .ref 50), (1, .int (nB b1))]) (st' := [.int (if (f <<< ((2 + (x2 + (μ.1 50 10))) &&& 31)) < 2000 then f <<< ((2 + (x2 + (μ.1 50 10))) &&& 31) else 2000)]) (μ' := mGP μ g p f) (by rfl) ?_
    exact zJ hJ1 rfl (by first | with_reducible rfl | (simp only [h3, lb_f, Int64.or_zero, Int32.add_zero, nB_t, nB_f, Bool.not_true, Bool.not_false, Bool.and_true, Bool.true_and, Bool.false_and, Bool.and_false, Bool.or_true, Bool.true_or, Bool.false_or, Bool.or_false, cond_true, cond_false]; done) | rfl) rfl
  · have h3 : (decide ((x2 + (μ.1 50 10)) ≤ 4)) = false := decide_eq_false (cn_le.mp h3)
    refine z_rcs hc hH 2 (pc' := 273) (lv' := [(2, .int (x2 + (μ.1 50 10))), (4, .long p), (6, .int 30), (0, .ref 50), (1, .int (nB b1))]) (st' := [.int 5, .int (x2 + (μ.1 50 10))]) (μ' := mGP μ g p f) (by rfl) ?_
    refine zq_ic hc hH (by rfl) (tg := 282) (by rfl) (fun h4 => ?_) (fun h4 => ?_)
    · have h4 : (decide ((x2 + (μ.1 50 10)) = 5)) = false := decide_eq_false (cm_ne.mp h4)
      refine z_rcs hc hH 2 (pc' := 285) (lv' := [(2, .int (x2 + (μ.1 50 10))), (4, .long p), (6, .int 30), (0, .ref 50), (1, .int (nB b1))]) (st' := [.int 8, .int (x2 + (μ.1 50 10))]) (μ' := mGP μ g p f) (by rfl) ?_
      refine zq_ic hc hH (by rfl) (tg := 294) (by rfl) (fun h5 => ?_) (fun h5 => ?_)
      · have h5 : (decide (8 ≤ (x2 + (μ.1 50 10)))) = true := decide_eq_true (cm_ge.mp h5)
        refine z_rcs hc hH 2 (pc' := 297) (lv' := [(2, .int (x2 + (μ.1 50 10))), (4, .long p), (6, .int 30), (0, .ref 50), (1, .int (nB b1))]) (st' := [.int 11, .int (x2 + (μ.1 50 10))]) (μ' := mGP μ g p f) (by rfl) ?_
        refine zq_ic hc hH (by rfl) (tg := 306) (by rfl) (fun h6 => ?_) (fun h6 => ?_)
        · have h6 : (decide (11 ≤ (x2 + (μ.1 50 10)))) = true := decide_eq_true (cm_ge.mp h6)
          refine z_rcs hc hH 2 (pc' := 309) (lv' := [(2, .int (x2 + (μ.1 50 10))), (4, .long p), (6, .int 30), (0, .ref 50), (1, .int (nB b1))]) (st' := [.int 13, .int (x2 + (μ.1 50 10))]) (μ' := mGP μ g p f) (by rfl) ?_
          refine zq_ic hc hH (by rfl) (tg := 318) (by rfl) (fun h7 => ?_) (fun h7 => ?_)
          · have h7 : (decide (13 ≤ (x2 + (μ.1 50 10)))) = true := decide_eq_true (cm_ge.mp h7)
            refine z_rcs hc hH 2 (pc' := 338) (lv' := [(2, .int (x2 + (μ.1 50 10))), (4, .long p), (6, .int 30), (0, .ref 50), (1, .int (nB b1))]) (st' := [.int 8000]) (μ' := mGP μ g p f) (by rfl) ?_
            exact zJ hJ1 rfl (by first | with_reducible rfl | (simp only [h3, h4, h5, h6, h7, lb_f, Int64.or_zero, Int32.add_zero, nB_t, nB_f, Bool.not_true, Bool.not_false, Bool.and_true, Bool.true_and, Bool.false_and, Bool.and_false, Bool.or_true, Bool.true_or, Bool.false_or, Bool.or_false, cond_true, cond_false]; done) | rfl) rfl
          · have h7 : (decide (13 ≤ (x2 + (μ.1 50 10)))) = false := decide_eq_false (cn_ge.mp h7)
            refine z_rcs hc hH 2 (pc' := 338) (lv' := [(2, .int (x2 + (μ.1 50 10))), (4, .long p), (6, .int 30), (0, .ref 50), (1, .int (nB b1))]) (st' := [.int 6000]) (μ' := mGP μ g p f) (by rfl) ?_
            exact zJ hJ1 rfl (by first | with_reducible rfl | (simp only [h3, h4, h5, h6, h7, lb_f, Int64.or_zero, Int32.add_zero, nB_t, nB_f, Bool.not_true, Bool.not_false, Bool.and_true, Bool.true_and, Bool.false_and, Bool.and_false, Bool.or_true, Bool.true_or, Bool.false_or, Bool.or_false, cond_true, cond_false]; done) | rfl) rfl
        · have h6 : (decide (11 ≤ (x2 + (μ.1 50 10)))) = false := decide_eq_false (cn_ge.mp h6)
          refine z_rcs hc hH 2 (pc' := 338) (lv' := [(2, .int (x2 + (μ.1 50 10))), (4, .long p), (6, .int 30), (0, .ref 50), (1, .int (nB b1))]) (st' := [.int 4000]) (μ' := mGP μ g p f) (by rfl) ?_
          exact zJ hJ1 rfl (by first | with_reducible rfl | (simp only [h3, h4, h5, h6, lb_f, Int64.or_zero, Int32.add_zero, nB_t, nB_f, Bool.not_true, Bool.not_false, Bool.and_true, Bool.true_and, Bool.false_and, Bool.and_false, Bool.or_true, Bool.true_or, Bool.false_or, Bool.or_false, cond_true, cond_false]; done) | rfl) rfl
      · have h5 : (decide (8 ≤ (x2 + (μ.1 50 10)))) = false := decide_eq_false (cn_ge.mp h5)
        refine z_rcs hc hH 2 (pc' := 338) (lv' := [(2, .int (x2 + (μ.1 50 10))), (4, .long p), (6, .int 30), (0, .ref 50), (1, .int (nB b1))]) (st' := [.int 3000]) (μ' := mGP μ g p f) (by rfl) ?_
        exact zJ hJ1 rfl (by first | with_reducible rfl | (simp only [h3, h4, h5, lb_f, Int64.or_zero, Int32.add_zero, nB_t, nB_f, Bool.not_true, Bool.not_false, Bool.and_true, Bool.true_and, Bool.false_and, Bool.and_false, Bool.or_true, Bool.true_or, Bool.false_or, Bool.or_false, cond_true, cond_false]; done) | rfl) rfl
    · have h4 : (decide ((x2 + (μ.1 50 10)) = 5)) = true := decide_eq_true (cn_ne.mp h4)
      refine z_rcs hc hH 2 (pc' := 338) (lv' := [(2, .int (x2 + (μ.1 50 10))), (4, .long p), (6, .int 30), (0, .ref 50), (1, .int (nB b1))]) (st' := [.int 2000]) (μ' := mGP μ g p f) (by rfl) ?_
      exact zJ hJ1 rfl (by first | with_reducible rfl | (simp only [h3, h4, lb_f, Int64.or_zero, Int32.add_zero, nB_t, nB_f, Bool.not_true, Bool.not_false, Bool.and_true, Bool.true_and, Bool.false_and, Bool.and_false, Bool.or_true, Bool.true_or, Bool.false_or, Bool.or_false, cond_true, cond_false]; done) | rfl) rfl
/-! FU of a way: the reference -/
set_option maxRecDepth 8000
theorem fu889_0 (d' : Nat) (Z : zK) (hd : 4 ≤ d') (μ : zM) (q : Nat) (hq : q ≤ 4) (e4 : μ.1 50 4 = nI q) (s l : Nat → Nat) (hA : AY μ s l) (hco : vp_in (μ.1 50 22) 5) (hc : z_clo z_x0 mi_X7_firstSort (z_C d') Z) (x10 : Int32) (x11 : Int32) (b9 : Bool) (b8 : Bool) (x7 : Int32) (b6 : Bool) (b5 : Bool) (x3 : Int32) (x2 : Int32) (x1 : Int32) (b4 : Bool) (g p : Int64) (f : Int32) (K : Z 0 889 [(12, .int 1), (10, .int x10), (11, .int x11), (9, .int (nB b9)), (8, .int (nB b8)), (7, .int x7), (6, .int (nB b6)), (5, .int (nB b5)), (3, .int x3), (2, .int x2), (1, .int x1), (4, .int (nB b4)), (0, .ref 50)] [] (mGP μ g p (bif decide ((μ.1 56 0) = 0) then f else f + (((bif decide ((μ.1 56 0) = 1) then (2 : Int32) else 8) * (bif xHi0 μ then (2 : Int32) else 1)) * (bif xEn (μ.1 57 0) then (2 : Int32) else 1)))) ∧ ∀ x13, Z 0 889 [(12, .int 1), (13, .int x13), (10, .int x10), (11, .int x11), (9, .int (nB b9)), (8, .int (nB b8)), (7, .int x7), (6, .int (nB b6)), (5, .int (nB b5)), (3, .int x3), (2, .int x2), (1, .int x1), (4, .int (nB b4)), (0, .ref 50)] [] (mGP μ g p (bif decide ((μ.1 56 0) = 0) then f else f + (((bif decide ((μ.1 56 0) = 1) then (2 : Int32) else 8) * (bif xHi0 μ then (2 : Int32) else 1)) * (bif xEn (μ.1 57 0) then (2 : Int32) else 1))))) : Z 0 889 [(12, .int 0), (10, .int x10), (11, .int x11), (9, .int (nB b9)), (8, .int (nB b8)), (7, .int x7), (6, .int (nB b6)), (5, .int (nB b5)), (3, .int x3), (2, .int x2), (1, .int x1), (4, .int (nB b4)), (0, .ref 50)] [] (mGP μ g p f) ∧ ∀ x13, Z 0 889 [(12, .int 0), (13, .int x13), (10, .int x10), (11, .int x11), (9, .int (nB b9)), (8, .int (nB b8)), (7, .int x7), (6, .int (nB b6)), (5, .int (nB b5)), (3, .int x3), (2, .int x2), (1, .int x1), (4, .int (nB b4)), (0, .ref 50)] [] (mGP μ g p f) := by
  have hH : zH mi_X7_firstSort zt_X7_firstSort 79 7 14 := hh_X7_firstSort
  refine ⟨?_, fun x13 => ?_⟩
  · skip
    refine z_rcs hc hH 6 (pc' := 901) (lv' := [(12, .int 0), (10, .int x10), (11, .int x11), (9, .int (nB b9)), (8, .int (nB b8)), (7, .int x7), (6, .int (nB b6)), (5, .int (nB b5)), (3, .int x3), (2, .int x2), (1, .int x1), (4, .int (nB b4)), (0, .ref 50)]) (st' := [.int 0, .ref 56]) (μ' := mGP μ g p f) (by rfl) ?_
    refine zq_iald hc hH (by rfl) 4 (by decide +kernel) (show vp_in (nI 0) 4 from vp_in_nI (by decide) (by decide)) ?_
    show Z 0 902 [(12, .int 0), (10, .int x10), (11, .int x11), (9, .int (nB b9)), (8, .int (nB b8)), (7, .int x7), (6, .int (nB b6)), (5, .int (nB b5)), (3, .int x3), (2, .int x2), (1, .int x1), (4, .int (nB b4)), (0, .ref 50)] [.int (μ.1 56 0)] (mGP μ g p f)
    refine zq_if hc hH (by rfl) (tg := 908) (by rfl) (fun h1 => ?_) (fun h1 => ?_)
    · have h1 : (decide ((μ.1 56 0) = 0)) = false := decide_eq_false (cm_ne.mp h1)
      refine z_rcs hc hH 3 (pc' := 914) (lv' := [(12, .int 0), (10, .int x10), (11, .int x11), (9, .int (nB b9)), (8, .int (nB b8)), (7, .int x7), (6, .int (nB b6)), (5, .int (nB b5)), (3, .int x3), (2, .int x2), (1, .int x1), (4, .int (nB b4)), (0, .ref 50)]) (st' := [.int 0, .ref 56]) (μ' := mGP μ g p f) (by rfl) ?_
      refine zq_iald hc hH (by rfl) 4 (by decide +kernel) (show vp_in (nI 0) 4 from vp_in_nI (by decide) (by decide)) ?_
      show Z 0 915 [(12, .int 0), (10, .int x10), (11, .int x11), (9, .int (nB b9)), (8, .int (nB b8)), (7, .int x7), (6, .int (nB b6)), (5, .int (nB b5)), (3, .int x3), (2, .int x2), (1, .int x1), (4, .int (nB b4)), (0, .ref 50)] [.int (μ.1 56 0)] (mGP μ g p f)
      refine z_rcs hc hH 1 (pc' := 916) (lv' := [(12, .int 0), (10, .int x10), (11, .int x11), (9, .int (nB b9)), (8, .int (nB b8)), (7, .int x7), (6, .int (nB b6)), (5, .int (nB b5)), (3, .int x3), (2, .int x2), (1, .int x1), (4, .int (nB b4)), (0, .ref 50)]) (st' := [.int 1, .int (μ.1 56 0)]) (μ' := mGP μ g p f) (by rfl) ?_
      have hJ2 : Z 0 925 [(12, .int 0), (10, .int x10), (11, .int x11), (9, .int (nB b9)), (8, .int (nB b8)), (7, .int x7), (6, .int (nB b6)), (5, .int (nB b5)), (3, .int x3), (2, .int x2), (1, .int x1), (4, .int (nB b4)), (0, .ref 50)] [.int (bif decide ((μ.1 56 0) = 1) then (2 : Int32) else 8)] (mGP μ g p f) := by
        refine z_rcs hc hH 7 (pc' := 937) (lv' := [(13, .int (bif decide ((μ.1 56 0) = 1) then (2 : Int32) else 8)), (12, .int 0), (10, .int x10), (11, .int x11), (9, .int (nB b9)), (8, .int (nB b8)), (7, .int x7), (6, .int (nB b6)), (5, .int (nB b5)), (3, .int x3), (2, .int x2), (1, .int x1), (4, .int (nB b4)), (0, .ref 50)]) (st' := [.int 0, .ref 50, .int (bif decide ((μ.1 56 0) = 1) then (2 : Int32) else 8), .int f, .ref 50]) (μ' := mGP μ g p f) (by rfl) ?_
        refine zq_call hc (z_cx_ok hH (by rfl)) (fb_X7_isHidden0 d' (by omega) (mGP μ g p f)) (by decide +kernel) (fun r9 μ9 hq => ?_)
        obtain ⟨hμ9, rfl⟩ := hq
        rw [hμ9]
        clear hμ9 μ9
        show Z 0 940 [(13, .int (bif decide ((μ.1 56 0) = 1) then (2 : Int32) else 8)), (12, .int 0), (10, .int x10), (11, .int x11), (9, .int (nB b9)), (8, .int (nB b8)), (7, .int x7), (6, .int (nB b6)), (5, .int (nB b5)), (3, .int x3), (2, .int x2), (1, .int x1), (4, .int (nB b4)), (0, .ref 50)] [.int (nB (xHi0 μ)), .int (bif decide ((μ.1 56 0) = 1) then (2 : Int32) else 8), .int f, .ref 50] (mGP μ g p f)
        have hJ3 : Z 0 948 [(13, .int (bif decide ((μ.1 56 0) = 1) then (2 : Int32) else 8)), (12, .int 0), (10, .int x10), (11, .int x11), (9, .int (nB b9)), (8, .int (nB b8)), (7, .int x7), (6, .int (nB b6)), (5, .int (nB b5)), (3, .int x3), (2, .int x2), (1, .int x1), (4, .int (nB b4)), (0, .ref 50)] [.int (bif xHi0 μ then (2 : Int32) else 1), .int (bif decide ((μ.1 56 0) = 1) then (2 : Int32) else 8), .int f, .ref 50] (mGP μ g p f) := by
          refine z_rcs hc hH 4 (pc' := 955) (lv' := [(13, .int (bif decide ((μ.1 56 0) = 1) then (2 : Int32) else 8)), (12, .int 0), (10, .int x10), (11, .int x11), (9, .int (nB b9)), (8, .int (nB b8)), (7, .int x7), (6, .int (nB b6)), (5, .int (nB b5)), (3, .int x3), (2, .int x2), (1, .int x1), (4, .int (nB b4)), (0, .ref 50)]) (st' := [.int 0, .ref 57, .int ((bif decide ((μ.1 56 0) = 1) then (2 : Int32) else 8) * (bif xHi0 μ then (2 : Int32) else 1)), .int f, .ref 50]) (μ' := mGP μ g p f) (by rfl) ?_
          refine zq_iald hc hH (by rfl) 4 (by decide +kernel) (show vp_in (nI 0) 4 from vp_in_nI (by decide) (by decide)) ?_
          show Z 0 956 [(13, .int (bif decide ((μ.1 56 0) = 1) then (2 : Int32) else 8)), (12, .int 0), (10, .int x10), (11, .int x11), (9, .int (nB b9)), (8, .int (nB b8)), (7, .int x7), (6, .int (nB b6)), (5, .int (nB b5)), (3, .int x3), (2, .int x2), (1, .int x1), (4, .int (nB b4)), (0, .ref 50)] [.int (μ.1 57 0), .int ((bif decide ((μ.1 56 0) = 1) then (2 : Int32) else 8) * (bif xHi0 μ then (2 : Int32) else 1)), .int f, .ref 50] (mGP μ g p f)
          refine zq_call hc (z_cx_ok hH (by rfl)) (fb_X7_isEnd d' (by omega) (mGP μ g p f) (μ.1 57 0)) (by decide +kernel) (fun r9 μ9 hq => ?_)
          obtain ⟨hμ9, rfl⟩ := hq
          rw [hμ9]
          clear hμ9 μ9
          show Z 0 959 [(13, .int (bif decide ((μ.1 56 0) = 1) then (2 : Int32) else 8)), (12, .int 0), (10, .int x10), (11, .int x11), (9, .int (nB b9)), (8, .int (nB b8)), (7, .int x7), (6, .int (nB b6)), (5, .int (nB b5)), (3, .int x3), (2, .int x2), (1, .int x1), (4, .int (nB b4)), (0, .ref 50)] [.int (nB (xEn (μ.1 57 0))), .int ((bif decide ((μ.1 56 0) = 1) then (2 : Int32) else 8) * (bif xHi0 μ then (2 : Int32) else 1)), .int f, .ref 50] (mGP μ g p f)
          have hJ4 : Z 0 967 [(13, .int (bif decide ((μ.1 56 0) = 1) then (2 : Int32) else 8)), (12, .int 0), (10, .int x10), (11, .int x11), (9, .int (nB b9)), (8, .int (nB b8)), (7, .int x7), (6, .int (nB b6)), (5, .int (nB b5)), (3, .int x3), (2, .int x2), (1, .int x1), (4, .int (nB b4)), (0, .ref 50)] [.int (bif xEn (μ.1 57 0) then (2 : Int32) else 1), .int ((bif decide ((μ.1 56 0) = 1) then (2 : Int32) else 8) * (bif xHi0 μ then (2 : Int32) else 1)), .int f, .ref 50] (mGP μ g p f) := by
            refine z_rcs hc hH 3 (pc' := 972) (lv' := [(13, .int (bif decide ((μ.1 56 0) = 1) then (2 : Int32) else 8)), (12, .int 0), (10, .int x10), (11, .int x11), (9, .int (nB b9)), (8, .int (nB b8)), (7, .int x7), (6, .int (nB b6)), (5, .int (nB b5)), (3, .int x3), (2, .int x2), (1, .int x1), (4, .int (nB b4)), (0, .ref 50)]) (st' := []) (μ' := z_ui (mGP μ g p f) 50 23 (f + (((bif decide ((μ.1 56 0) = 1) then (2 : Int32) else 8) * (bif xHi0 μ then (2 : Int32) else 1)) * (bif xEn (μ.1 57 0) then (2 : Int32) else 1)))) (by rfl) ?_
            rw [mGP_f]
            refine z_rcs hc hH 2 (pc' := 889) (lv' := [(12, .int 1), (13, .int (bif decide ((μ.1 56 0) = 1) then (2 : Int32) else 8)), (10, .int x10), (11, .int x11), (9, .int (nB b9)), (8, .int (nB b8)), (7, .int x7), (6, .int (nB b6)), (5, .int (nB b5)), (3, .int x3), (2, .int x2), (1, .int x1), (4, .int (nB b4)), (0, .ref 50)]) (st' := []) (μ' := mGP μ g p (f + (((bif decide ((μ.1 56 0) = 1) then (2 : Int32) else 8) * (bif xHi0 μ then (2 : Int32) else 1)) * (bif xEn (μ.1 57 0) then (2 : Int32) else 1)))) (by rfl) ?_
            exact zJ (K.2 _) rfl rfl (by simp only [h1, cond_true, cond_false])
          refine zq_if hc hH (by rfl) (tg := 966) (by rfl) (fun h5 => ?_) (fun h5 => ?_)
          · have h5 : (xEn (μ.1 57 0)) = false := nB_z.mp (cm_eq9.mp h5)
            refine z_rcs hc hH 1 (pc' := 967) (lv' := [(13, .int (bif decide ((μ.1 56 0) = 1) then (2 : Int32) else 8)), (12, .int 0), (10, .int x10), (11, .int x11), (9, .int (nB b9)), (8, .int (nB b8)), (7, .int x7), (6, .int (nB b6)), (5, .int (nB b5)), (3, .int x3), (2, .int x2), (1, .int x1), (4, .int (nB b4)), (0, .ref 50)]) (st' := [.int 1, .int ((bif decide ((μ.1 56 0) = 1) then (2 : Int32) else 8) * (bif xHi0 μ then (2 : Int32) else 1)), .int f, .ref 50]) (μ' := mGP μ g p f) (by rfl) ?_
            exact zJ hJ4 rfl (by first | with_reducible rfl | (simp only [h5, lb_f, Int64.or_zero, Int32.add_zero, nB_t, nB_f, Bool.not_true, Bool.not_false, Bool.and_true, Bool.true_and, Bool.false_and, Bool.and_false, Bool.or_true, Bool.true_or, Bool.false_or, Bool.or_false, cond_true, cond_false]; done) | rfl) rfl
          · have h5 : (xEn (μ.1 57 0)) = true := nB_n.mp (cn_eq.mp h5)
            refine z_rcs hc hH 2 (pc' := 967) (lv' := [(13, .int (bif decide ((μ.1 56 0) = 1) then (2 : Int32) else 8)), (12, .int 0), (10, .int x10), (11, .int x11), (9, .int (nB b9)), (8, .int (nB b8)), (7, .int x7), (6, .int (nB b6)), (5, .int (nB b5)), (3, .int x3), (2, .int x2), (1, .int x1), (4, .int (nB b4)), (0, .ref 50)]) (st' := [.int 2, .int ((bif decide ((μ.1 56 0) = 1) then (2 : Int32) else 8) * (bif xHi0 μ then (2 : Int32) else 1)), .int f, .ref 50]) (μ' := mGP μ g p f) (by rfl) ?_
            exact zJ hJ4 rfl (by first | with_reducible rfl | (simp only [h5, lb_f, Int64.or_zero, Int32.add_zero, nB_t, nB_f, Bool.not_true, Bool.not_false, Bool.and_true, Bool.true_and, Bool.false_and, Bool.and_false, Bool.or_true, Bool.true_or, Bool.false_or, Bool.or_false, cond_true, cond_false]; done) | rfl) rfl
        refine zq_if hc hH (by rfl) (tg := 947) (by rfl) (fun h6 => ?_) (fun h6 => ?_)
        · have h6 : (xHi0 μ) = false := nB_z.mp (cm_eq9.mp h6)
          refine z_rcs hc hH 1 (pc' := 948) (lv' := [(13, .int (bif decide ((μ.1 56 0) = 1) then (2 : Int32) else 8)), (12, .int 0), (10, .int x10), (11, .int x11), (9, .int (nB b9)), (8, .int (nB b8)), (7, .int x7), (6, .int (nB b6)), (5, .int (nB b5)), (3, .int x3), (2, .int x2), (1, .int x1), (4, .int (nB b4)), (0, .ref 50)]) (st' := [.int 1, .int (bif decide ((μ.1 56 0) = 1) then (2 : Int32) else 8), .int f, .ref 50]) (μ' := mGP μ g p f) (by rfl) ?_
          exact zJ hJ3 rfl (by first | with_reducible rfl | (simp only [h6, lb_f, Int64.or_zero, Int32.add_zero, nB_t, nB_f, Bool.not_true, Bool.not_false, Bool.and_true, Bool.true_and, Bool.false_and, Bool.and_false, Bool.or_true, Bool.true_or, Bool.false_or, Bool.or_false, cond_true, cond_false]; done) | rfl) rfl
        · have h6 : (xHi0 μ) = true := nB_n.mp (cn_eq.mp h6)
          refine z_rcs hc hH 2 (pc' := 948) (lv' := [(13, .int (bif decide ((μ.1 56 0) = 1) then (2 : Int32) else 8)), (12, .int 0), (10, .int x10), (11, .int x11), (9, .int (nB b9)), (8, .int (nB b8)), (7, .int x7), (6, .int (nB b6)), (5, .int (nB b5)), (3, .int x3), (2, .int x2), (1, .int x1), (4, .int (nB b4)), (0, .ref 50)]) (st' := [.int 2, .int (bif decide ((μ.1 56 0) = 1) then (2 : Int32) else 8), .int f, .ref 50]) (μ' := mGP μ g p f) (by rfl) ?_
          exact zJ hJ3 rfl (by first | with_reducible rfl | (simp only [h6, lb_f, Int64.or_zero, Int32.add_zero, nB_t, nB_f, Bool.not_true, Bool.not_false, Bool.and_true, Bool.true_and, Bool.false_and, Bool.and_false, Bool.or_true, Bool.true_or, Bool.false_or, Bool.or_false, cond_true, cond_false]; done) | rfl) rfl
      refine zq_ic hc hH (by rfl) (tg := 923) (by rfl) (fun h7 => ?_) (fun h7 => ?_)
      · have h7 : (decide ((μ.1 56 0) = 1)) = false := decide_eq_false (cm_ne.mp h7)
        refine z_rcs hc hH 1 (pc' := 925) (lv' := [(12, .int 0), (10, .int x10), (11, .int x11), (9, .int (nB b9)), (8, .int (nB b8)), (7, .int x7), (6, .int (nB b6)), (5, .int (nB b5)), (3, .int x3), (2, .int x2), (1, .int x1), (4, .int (nB b4)), (0, .ref 50)]) (st' := [.int 8]) (μ' := mGP μ g p f) (by rfl) ?_
        exact zJ hJ2 rfl (by first | with_reducible rfl | (simp only [h7, lb_f, Int64.or_zero, Int32.add_zero, nB_t, nB_f, Bool.not_true, Bool.not_false, Bool.and_true, Bool.true_and, Bool.false_and, Bool.and_false, Bool.or_true, Bool.true_or, Bool.false_or, Bool.or_false, cond_true, cond_false]; done) | rfl) rfl
      · have h7 : (decide ((μ.1 56 0) = 1)) = true := decide_eq_true (cn_ne.mp h7)
        refine z_rcs hc hH 2 (pc' := 925) (lv' := [(12, .int 0), (10, .int x10), (11, .int x11), (9, .int (nB b9)), (8, .int (nB b8)), (7, .int x7), (6, .int (nB b6)), (5, .int (nB b5)), (3, .int x3), (2, .int x2), (1, .int x1), (4, .int (nB b4)), (0, .ref 50)]) (st' := [.int 2]) (μ' := mGP μ g p f) (by rfl) ?_
        exact zJ hJ2 rfl (by first | with_reducible rfl | (simp only [h7, lb_f, Int64.or_zero, Int32.add_zero, nB_t, nB_f, Bool.not_true, Bool.not_false, Bool.and_true, Bool.true_and, Bool.false_and, Bool.and_false, Bool.or_true, Bool.true_or, Bool.false_or, Bool.or_false, cond_true, cond_false]; done) | rfl) rfl
    · have h1 : (decide ((μ.1 56 0) = 0)) = true := decide_eq_true (cn_ne.mp h1)
      refine z_rcs hc hH 3 (pc' := 889) (lv' := [(12, .int 1), (10, .int x10), (11, .int x11), (9, .int (nB b9)), (8, .int (nB b8)), (7, .int x7), (6, .int (nB b6)), (5, .int (nB b5)), (3, .int x3), (2, .int x2), (1, .int x1), (4, .int (nB b4)), (0, .ref 50)]) (st' := []) (μ' := mGP μ g p f) (by rfl) ?_
      exact zJ K.1 rfl rfl (by simp only [h1, cond_true, cond_false])
  · skip
    refine z_rcs hc hH 6 (pc' := 901) (lv' := [(12, .int 0), (13, .int x13), (10, .int x10), (11, .int x11), (9, .int (nB b9)), (8, .int (nB b8)), (7, .int x7), (6, .int (nB b6)), (5, .int (nB b5)), (3, .int x3), (2, .int x2), (1, .int x1), (4, .int (nB b4)), (0, .ref 50)]) (st' := [.int 0, .ref 56]) (μ' := mGP μ g p f) (by rfl) ?_
    refine zq_iald hc hH (by rfl) 4 (by decide +kernel) (show vp_in (nI 0) 4 from vp_in_nI (by decide) (by decide)) ?_
    show Z 0 902 [(12, .int 0), (13, .int x13), (10, .int x10), (11, .int x11), (9, .int (nB b9)), (8, .int (nB b8)), (7, .int x7), (6, .int (nB b6)), (5, .int (nB b5)), (3, .int x3), (2, .int x2), (1, .int x1), (4, .int (nB b4)), (0, .ref 50)] [.int (μ.1 56 0)] (mGP μ g p f)
    refine zq_if hc hH (by rfl) (tg := 908) (by rfl) (fun h1 => ?_) (fun h1 => ?_)
    · have h1 : (decide ((μ.1 56 0) = 0)) = false := decide_eq_false (cm_ne.mp h1)
      refine z_rcs hc hH 3 (pc' := 914) (lv' := [(12, .int 0), (13, .int x13), (10, .int x10), (11, .int x11), (9, .int (nB b9)), (8, .int (nB b8)), (7, .int x7), (6, .int (nB b6)), (5, .int (nB b5)), (3, .int x3), (2, .int x2), (1, .int x1), (4, .int (nB b4)), (0, .ref 50)]) (st' := [.int 0, .ref 56]) (μ' := mGP μ g p f) (by rfl) ?_
      refine zq_iald hc hH (by rfl) 4 (by decide +kernel) (show vp_in (nI 0) 4 from vp_in_nI (by decide) (by decide)) ?_
      show Z 0 915 [(12, .int 0), (13, .int x13), (10, .int x10), (11, .int x11), (9, .int (nB b9)), (8, .int (nB b8)), (7, .int x7), (6, .int (nB b6)), (5, .int (nB b5)), (3, .int x3), (2, .int x2), (1, .int x1), (4, .int (nB b4)), (0, .ref 50)] [.int (μ.1 56 0)] (mGP μ g p f)
      refine z_rcs hc hH 1 (pc' := 916) (lv' := [(12, .int 0), (13, .int x13), (10, .int x10), (11, .int x11), (9, .int (nB b9)), (8, .int (nB b8)), (7, .int x7), (6, .int (nB b6)), (5, .int (nB b5)), (3, .int x3), (2, .int x2), (1, .int x1), (4, .int (nB b4)), (0, .ref 50)]) (st' := [.int 1, .int (μ.1 56 0)]) (μ' := mGP μ g p f) (by rfl) ?_
      have hJ2 : Z 0 925 [(12, .int 0), (13, .int x13), (10, .int x10), (11, .int x11), (9, .int (nB b9)), (8, .int (nB b8)), (7, .int x7), (6, .int (nB b6)), (5, .int (nB b5)), (3, .int x3), (2, .int x2), (1, .int x1), (4, .int (nB b4)), (0, .ref 50)] [.int (bif decide ((μ.1 56 0) = 1) then (2 : Int32) else 8)] (mGP μ g p f) := by
        refine z_rcs hc hH 7 (pc' := 937) (lv' := [(13, .int (bif decide ((μ.1 56 0) = 1) then (2 : Int32) else 8)), (12, .int 0), (10, .int x10), (11, .int x11), (9, .int (nB b9)), (8, .int (nB b8)), (7, .int x7), (6, .int (nB b6)), (5, .int (nB b5)), (3, .int x3), (2, .int x2), (1, .int x1), (4, .int (nB b4)), (0, .ref 50)]) (st' := [.int 0, .ref 50, .int (bif decide ((μ.1 56 0) = 1) then (2 : Int32) else 8), .int f, .ref 50]) (μ' := mGP μ g p f) (by rfl) ?_
        refine zq_call hc (z_cx_ok hH (by rfl)) (fb_X7_isHidden0 d' (by omega) (mGP μ g p f)) (by decide +kernel) (fun r9 μ9 hq => ?_)
        obtain ⟨hμ9, rfl⟩ := hq
        rw [hμ9]
        clear hμ9 μ9
        show Z 0 940 [(13, .int (bif decide ((μ.1 56 0) = 1) then (2 : Int32) else 8)), (12, .int 0), (10, .int x10), (11, .int x11), (9, .int (nB b9)), (8, .int (nB b8)), (7, .int x7), (6, .int (nB b6)), (5, .int (nB b5)), (3, .int x3), (2, .int x2), (1, .int x1), (4, .int (nB b4)), (0, .ref 50)] [.int (nB (xHi0 μ)), .int (bif decide ((μ.1 56 0) = 1) then (2 : Int32) else 8), .int f, .ref 50] (mGP μ g p f)
        have hJ3 : Z 0 948 [(13, .int (bif decide ((μ.1 56 0) = 1) then (2 : Int32) else 8)), (12, .int 0), (10, .int x10), (11, .int x11), (9, .int (nB b9)), (8, .int (nB b8)), (7, .int x7), (6, .int (nB b6)), (5, .int (nB b5)), (3, .int x3), (2, .int x2), (1, .int x1), (4, .int (nB b4)), (0, .ref 50)] [.int (bif xHi0 μ then (2 : Int32) else 1), .int (bif decide ((μ.1 56 0) = 1) then (2 : Int32) else 8), .int f, .ref 50] (mGP μ g p f) := by
          refine z_rcs hc hH 4 (pc' := 955) (lv' := [(13, .int (bif decide ((μ.1 56 0) = 1) then (2 : Int32) else 8)), (12, .int 0), (10, .int x10), (11, .int x11), (9, .int (nB b9)), (8, .int (nB b8)), (7, .int x7), (6, .int (nB b6)), (5, .int (nB b5)), (3, .int x3), (2, .int x2), (1, .int x1), (4, .int (nB b4)), (0, .ref 50)]) (st' := [.int 0, .ref 57, .int ((bif decide ((μ.1 56 0) = 1) then (2 : Int32) else 8) * (bif xHi0 μ then (2 : Int32) else 1)), .int f, .ref 50]) (μ' := mGP μ g p f) (by rfl) ?_
          refine zq_iald hc hH (by rfl) 4 (by decide +kernel) (show vp_in (nI 0) 4 from vp_in_nI (by decide) (by decide)) ?_
          show Z 0 956 [(13, .int (bif decide ((μ.1 56 0) = 1) then (2 : Int32) else 8)), (12, .int 0), (10, .int x10), (11, .int x11), (9, .int (nB b9)), (8, .int (nB b8)), (7, .int x7), (6, .int (nB b6)), (5, .int (nB b5)), (3, .int x3), (2, .int x2), (1, .int x1), (4, .int (nB b4)), (0, .ref 50)] [.int (μ.1 57 0), .int ((bif decide ((μ.1 56 0) = 1) then (2 : Int32) else 8) * (bif xHi0 μ then (2 : Int32) else 1)), .int f, .ref 50] (mGP μ g p f)
          refine zq_call hc (z_cx_ok hH (by rfl)) (fb_X7_isEnd d' (by omega) (mGP μ g p f) (μ.1 57 0)) (by decide +kernel) (fun r9 μ9 hq => ?_)
          obtain ⟨hμ9, rfl⟩ := hq
          rw [hμ9]
          clear hμ9 μ9
          show Z 0 959 [(13, .int (bif decide ((μ.1 56 0) = 1) then (2 : Int32) else 8)), (12, .int 0), (10, .int x10), (11, .int x11), (9, .int (nB b9)), (8, .int (nB b8)), (7, .int x7), (6, .int (nB b6)), (5, .int (nB b5)), (3, .int x3), (2, .int x2), (1, .int x1), (4, .int (nB b4)), (0, .ref 50)] [.int (nB (xEn (μ.1 57 0))), .int ((bif decide ((μ.1 56 0) = 1) then (2 : Int32) else 8) * (bif xHi0 μ then (2 : Int32) else 1)), .int f, .ref 50] (mGP μ g p f)
          have hJ4 : Z 0 967 [(13, .int (bif decide ((μ.1 56 0) = 1) then (2 : Int32) else 8)), (12, .int 0), (10, .int x10), (11, .int x11), (9, .int (nB b9)), (8, .int (nB b8)), (7, .int x7), (6, .int (nB b6)), (5, .int (nB b5)), (3, .int x3), (2, .int x2), (1, .int x1), (4, .int (nB b4)), (0, .ref 50)] [.int (bif xEn (μ.1 57 0) then (2 : Int32) else 1), .int ((bif decide ((μ.1 56 0) = 1) then (2 : Int32) else 8) * (bif xHi0 μ then (2 : Int32) else 1)), .int f, .ref 50] (mGP μ g p f) := by
            refine z_rcs hc hH 3 (pc' := 972) (lv' := [(13, .int (bif decide ((μ.1 56 0) = 1) then (2 : Int32) else 8)), (12, .int 0), (10, .int x10), (11, .int x11), (9, .int (nB b9)), (8, .int (nB b8)), (7, .int x7), (6, .int (nB b6)), (5, .int (nB b5)), (3, .int x3), (2, .int x2), (1, .int x1), (4, .int (nB b4)), (0, .ref 50)]) (st' := []) (μ' := z_ui (mGP μ g p f) 50 23 (f + (((bif decide ((μ.1 56 0) = 1) then (2 : Int32) else 8) * (bif xHi0 μ then (2 : Int32) else 1)) * (bif xEn (μ.1 57 0) then (2 : Int32) else 1)))) (by rfl) ?_
            rw [mGP_f]
            refine z_rcs hc hH 2 (pc' := 889) (lv' := [(12, .int 1), (13, .int (bif decide ((μ.1 56 0) = 1) then (2 : Int32) else 8)), (10, .int x10), (11, .int x11), (9, .int (nB b9)), (8, .int (nB b8)), (7, .int x7), (6, .int (nB b6)), (5, .int (nB b5)), (3, .int x3), (2, .int x2), (1, .int x1), (4, .int (nB b4)), (0, .ref 50)]) (st' := []) (μ' := mGP μ g p (f + (((bif decide ((μ.1 56 0) = 1) then (2 : Int32) else 8) * (bif xHi0 μ then (2 : Int32) else 1)) * (bif xEn (μ.1 57 0) then (2 : Int32) else 1)))) (by rfl) ?_
            exact zJ (K.2 _) rfl rfl (by simp only [h1, cond_true, cond_false])
          refine zq_if hc hH (by rfl) (tg := 966) (by rfl) (fun h5 => ?_) (fun h5 => ?_)
          · have h5 : (xEn (μ.1 57 0)) = false := nB_z.mp (cm_eq9.mp h5)
            refine z_rcs hc hH 1 (pc' := 967) (lv' := [(13, .int (bif decide ((μ.1 56 0) = 1) then (2 : Int32) else 8)), (12, .int 0), (10, .int x10), (11, .int x11), (9, .int (nB b9)), (8, .int (nB b8)), (7, .int x7), (6, .int (nB b6)), (5, .int (nB b5)), (3, .int x3), (2, .int x2), (1, .int x1), (4, .int (nB b4)), (0, .ref 50)]) (st' := [.int 1, .int ((bif decide ((μ.1 56 0) = 1) then (2 : Int32) else 8) * (bif xHi0 μ then (2 : Int32) else 1)), .int f, .ref 50]) (μ' := mGP μ g p f) (by rfl) ?_
            exact zJ hJ4 rfl (by first | with_reducible rfl | (simp only [h5, lb_f, Int64.or_zero, Int32.add_zero, nB_t, nB_f, Bool.not_true, Bool.not_false, Bool.and_true, Bool.true_and, Bool.false_and, Bool.and_false, Bool.or_true, Bool.true_or, Bool.false_or, Bool.or_false, cond_true, cond_false]; done) | rfl) rfl
          · have h5 : (xEn (μ.1 57 0)) = true := nB_n.mp (cn_eq.mp h5)
            refine z_rcs hc hH 2 (pc' := 967) (lv' := [(13, .int (bif decide ((μ.1 56 0) = 1) then (2 : Int32) else 8)), (12, .int 0), (10, .int x10), (11, .int x11), (9, .int (nB b9)), (8, .int (nB b8)), (7, .int x7), (6, .int (nB b6)), (5, .int (nB b5)), (3, .int x3), (2, .int x2), (1, .int x1), (4, .int (nB b4)), (0, .ref 50)]) (st' := [.int 2, .int ((bif decide ((μ.1 56 0) = 1) then (2 : Int32) else 8) * (bif xHi0 μ then (2 : Int32) else 1)), .int f, .ref 50]) (μ' := mGP μ g p f) (by rfl) ?_
            exact zJ hJ4 rfl (by first | with_reducible rfl | (simp only [h5, lb_f, Int64.or_zero, Int32.add_zero, nB_t, nB_f, Bool.not_true, Bool.not_false, Bool.and_true, Bool.true_and, Bool.false_and, Bool.and_false, Bool.or_true, Bool.true_or, Bool.false_or, Bool.or_false, cond_true, cond_false]; done) | rfl) rfl
        refine zq_if hc hH (by rfl) (tg := 947) (by rfl) (fun h6 => ?_) (fun h6 => ?_)
        · have h6 : (xHi0 μ) = false := nB_z.mp (cm_eq9.mp h6)
          refine z_rcs hc hH 1 (pc' := 948) (lv' := [(13, .int (bif decide ((μ.1 56 0) = 1) then (2 : Int32) else 8)), (12, .int 0), (10, .int x10), (11, .int x11), (9, .int (nB b9)), (8, .int (nB b8)), (7, .int x7), (6, .int (nB b6)), (5, .int (nB b5)), (3, .int x3), (2, .int x2), (1, .int x1), (4, .int (nB b4)), (0, .ref 50)]) (st' := [.int 1, .int (bif decide ((μ.1 56 0) = 1) then (2 : Int32) else 8), .int f, .ref 50]) (μ' := mGP μ g p f) (by rfl) ?_
          exact zJ hJ3 rfl (by first | with_reducible rfl | (simp only [h6, lb_f, Int64.or_zero, Int32.add_zero, nB_t, nB_f, Bool.not_true, Bool.not_false, Bool.and_true, Bool.true_and, Bool.false_and, Bool.and_false, Bool.or_true, Bool.true_or, Bool.false_or, Bool.or_false, cond_true, cond_false]; done) | rfl) rfl
        · have h6 : (xHi0 μ) = true := nB_n.mp (cn_eq.mp h6)
          refine z_rcs hc hH 2 (pc' := 948) (lv' := [(13, .int (bif decide ((μ.1 56 0) = 1) then (2 : Int32) else 8)), (12, .int 0), (10, .int x10), (11, .int x11), (9, .int (nB b9)), (8, .int (nB b8)), (7, .int x7), (6, .int (nB b6)), (5, .int (nB b5)), (3, .int x3), (2, .int x2), (1, .int x1), (4, .int (nB b4)), (0, .ref 50)]) (st' := [.int 2, .int (bif decide ((μ.1 56 0) = 1) then (2 : Int32) else 8), .int f, .ref 50]) (μ' := mGP μ g p f) (by rfl) ?_
          exact zJ hJ3 rfl (by first | with_reducible rfl | (simp only [h6, lb_f, Int64.or_zero, Int32.add_zero, nB_t, nB_f, Bool.not_true, Bool.not_false, Bool.and_true, Bool.true_and, Bool.false_and, Bool.and_false, Bool.or_true, Bool.true_or, Bool.false_or, Bool.or_false, cond_true, cond_false]; done) | rfl) rfl
      refine zq_ic hc hH (by rfl) (tg := 923) (by rfl) (fun h7 => ?_) (fun h7 => ?_)
      · have h7 : (decide ((μ.1 56 0) = 1)) = false := decide_eq_false (cm_ne.mp h7)
        refine z_rcs hc hH 1 (pc' := 925) (lv' := [(12, .int 0), (13, .int x13), (10, .int x10), (11, .int x11), (9, .int (nB b9)), (8, .int (nB b8)), (7, .int x7), (6, .int (nB b6)), (5, .int (nB b5)), (3, .int x3), (2, .int x2), (1, .int x1), (4, .int (nB b4)), (0, .ref 50)]) (st' := [.int 8]) (μ' := mGP μ g p f) (by rfl) ?_
        exact zJ hJ2 rfl (by first | with_reducible rfl | (simp only [h7, lb_f, Int64.or_zero, Int32.add_zero, nB_t, nB_f, Bool.not_true, Bool.not_false, Bool.and_true, Bool.true_and, Bool.false_and, Bool.and_false, Bool.or_true, Bool.true_or, Bool.false_or, Bool.or_false, cond_true, cond_false]; done) | rfl) rfl
      · have h7 : (decide ((μ.1 56 0) = 1)) = true := decide_eq_true (cn_ne.mp h7)
        refine z_rcs hc hH 2 (pc' := 925) (lv' := [(12, .int 0), (13, .int x13), (10, .int x10), (11, .int x11), (9, .int (nB b9)), (8, .int (nB b8)), (7, .int x7), (6, .int (nB b6)), (5, .int (nB b5)), (3, .int x3), (2, .int x2), (1, .int x1), (4, .int (nB b4)), (0, .ref 50)]) (st' := [.int 2]) (μ' := mGP μ g p f) (by rfl) ?_
        exact zJ hJ2 rfl (by first | with_reducible rfl | (simp only [h7, lb_f, Int64.or_zero, Int32.add_zero, nB_t, nB_f, Bool.not_true, Bool.not_false, Bool.and_true, Bool.true_and, Bool.false_and, Bool.and_false, Bool.or_true, Bool.true_or, Bool.false_or, Bool.or_false, cond_true, cond_false]; done) | rfl) rfl
    · have h1 : (decide ((μ.1 56 0) = 0)) = true := decide_eq_true (cn_ne.mp h1)
      refine z_rcs hc hH 3 (pc' := 889) (lv' := [(12, .int 1), (13, .int x13), (10, .int x10), (11, .int x11), (9, .int (nB b9)), (8, .int (nB b8)), (7, .int x7), (6, .int (nB b6)), (5, .int (nB b5)), (3, .int x3), (2, .int x2), (1, .int x1), (4, .int (nB b4)), (0, .ref 50)]) (st' := []) (μ' := mGP μ g p f) (by rfl) ?_
      exact zJ (K.2 _) rfl rfl (by simp only [h1, cond_true, cond_false])
theorem fu889_1 (d' : Nat) (Z : zK) (hd : 4 ≤ d') (μ : zM) (q : Nat) (hq : q ≤ 4) (e4 : μ.1 50 4 = nI q) (s l : Nat → Nat) (hA : AY μ s l) (hco : vp_in (μ.1 50 22) 5) (hc : z_clo z_x0 mi_X7_firstSort (z_C d') Z) (x10 : Int32) (x11 : Int32) (b9 : Bool) (b8 : Bool) (x7 : Int32) (b6 : Bool) (b5 : Bool) (x3 : Int32) (x2 : Int32) (x1 : Int32) (b4 : Bool) (g p : Int64) (f : Int32) (K : Z 0 889 [(12, .int 2), (10, .int x10), (11, .int x11), (9, .int (nB b9)), (8, .int (nB b8)), (7, .int x7), (6, .int (nB b6)), (5, .int (nB b5)), (3, .int x3), (2, .int x2), (1, .int x1), (4, .int (nB b4)), (0, .ref 50)] [] (mGP μ g p (bif decide ((μ.1 56 1) = 0) then f else f + (((bif decide ((μ.1 56 1) = 1) then (2 : Int32) else 8) * (bif xHi1 μ then (2 : Int32) else 1)) * (bif xEn (μ.1 57 1) then (2 : Int32) else 1)))) ∧ ∀ x13, Z 0 889 [(12, .int 2), (13, .int x13), (10, .int x10), (11, .int x11), (9, .int (nB b9)), (8, .int (nB b8)), (7, .int x7), (6, .int (nB b6)), (5, .int (nB b5)), (3, .int x3), (2, .int x2), (1, .int x1), (4, .int (nB b4)), (0, .ref 50)] [] (mGP μ g p (bif decide ((μ.1 56 1) = 0) then f else f + (((bif decide ((μ.1 56 1) = 1) then (2 : Int32) else 8) * (bif xHi1 μ then (2 : Int32) else 1)) * (bif xEn (μ.1 57 1) then (2 : Int32) else 1))))) : Z 0 889 [(12, .int 1), (10, .int x10), (11, .int x11), (9, .int (nB b9)), (8, .int (nB b8)), (7, .int x7), (6, .int (nB b6)), (5, .int (nB b5)), (3, .int x3), (2, .int x2), (1, .int x1), (4, .int (nB b4)), (0, .ref 50)] [] (mGP μ g p f) ∧ ∀ x13, Z 0 889 [(12, .int 1), (13, .int x13), (10, .int x10), (11, .int x11), (9, .int (nB b9)), (8, .int (nB b8)), (7, .int x7), (6, .int (nB b6)), (5, .int (nB b5)), (3, .int x3), (2, .int x2), (1, .int x1), (4, .int (nB b4)), (0, .ref 50)] [] (mGP μ g p f) := by
  have hH : zH mi_X7_firstSort zt_X7_firstSort 79 7 14 := hh_X7_firstSort
  refine ⟨?_, fun x13 => ?_⟩
  · skip
    refine z_rcs hc hH 6 (pc' := 901) (lv' := [(12, .int 1), (10, .int x10), (11, .int x11), (9, .int (nB b9)), (8, .int (nB b8)), (7, .int x7), (6, .int (nB b6)), (5, .int (nB b5)), (3, .int x3), (2, .int x2), (1, .int x1), (4, .int (nB b4)), (0, .ref 50)]) (st' := [.int 1, .ref 56]) (μ' := mGP μ g p f) (by rfl) ?_
    refine zq_iald hc hH (by rfl) 4 (by decide +kernel) (show vp_in (nI 1) 4 from vp_in_nI (by decide) (by decide)) ?_
    show Z 0 902 [(12, .int 1), (10, .int x10), (11, .int x11), (9, .int (nB b9)), (8, .int (nB b8)), (7, .int x7), (6, .int (nB b6)), (5, .int (nB b5)), (3, .int x3), (2, .int x2), (1, .int x1), (4, .int (nB b4)), (0, .ref 50)] [.int (μ.1 56 1)] (mGP μ g p f)
    refine zq_if hc hH (by rfl) (tg := 908) (by rfl) (fun h1 => ?_) (fun h1 => ?_)
    · have h1 : (decide ((μ.1 56 1) = 0)) = false := decide_eq_false (cm_ne.mp h1)
      refine z_rcs hc hH 3 (pc' := 914) (lv' := [(12, .int 1), (10, .int x10), (11, .int x11), (9, .int (nB b9)), (8, .int (nB b8)), (7, .int x7), (6, .int (nB b6)), (5, .int (nB b5)), (3, .int x3), (2, .int x2), (1, .int x1), (4, .int (nB b4)), (0, .ref 50)]) (st' := [.int 1, .ref 56]) (μ' := mGP μ g p f) (by rfl) ?_
      refine zq_iald hc hH (by rfl) 4 (by decide +kernel) (show vp_in (nI 1) 4 from vp_in_nI (by decide) (by decide)) ?_
      show Z 0 915 [(12, .int 1), (10, .int x10), (11, .int x11), (9, .int (nB b9)), (8, .int (nB b8)), (7, .int x7), (6, .int (nB b6)), (5, .int (nB b5)), (3, .int x3), (2, .int x2), (1, .int x1), (4, .int (nB b4)), (0, .ref 50)] [.int (μ.1 56 1)] (mGP μ g p f)
      refine z_rcs hc hH 1 (pc' := 916) (lv' := [(12, .int 1), (10, .int x10), (11, .int x11), (9, .int (nB b9)), (8, .int (nB b8)), (7, .int x7), (6, .int (nB b6)), (5, .int (nB b5)), (3, .int x3), (2, .int x2), (1, .int x1), (4, .int (nB b4)), (0, .ref 50)]) (st' := [.int 1, .int (μ.1 56 1)]) (μ' := mGP μ g p f) (by rfl) ?_
      have hJ2 : Z 0 925 [(12, .int 1), (10, .int x10), (11, .int x11), (9, .int (nB b9)), (8, .int (nB b8)), (7, .int x7), (6, .int (nB b6)), (5, .int (nB b5)), (3, .int x3), (2, .int x2), (1, .int x1), (4, .int (nB b4)), (0, .ref 50)] [.int (bif decide ((μ.1 56 1) = 1) then (2 : Int32) else 8)] (mGP μ g p f) := by
        refine z_rcs hc hH 7 (pc' := 937) (lv' := [(13, .int (bif decide ((μ.1 56 1) = 1) then (2 : Int32) else 8)), (12, .int 1), (10, .int x10), (11, .int x11), (9, .int (nB b9)), (8, .int (nB b8)), (7, .int x7), (6, .int (nB b6)), (5, .int (nB b5)), (3, .int x3), (2, .int x2), (1, .int x1), (4, .int (nB b4)), (0, .ref 50)]) (st' := [.int 1, .ref 50, .int (bif decide ((μ.1 56 1) = 1) then (2 : Int32) else 8), .int f, .ref 50]) (μ' := mGP μ g p f) (by rfl) ?_
        refine zq_call hc (z_cx_ok hH (by rfl)) (fb_X7_isHidden1 d' (by omega) (mGP μ g p f)) (by decide +kernel) (fun r9 μ9 hq => ?_)
        obtain ⟨hμ9, rfl⟩ := hq
        rw [hμ9]
        clear hμ9 μ9
        show Z 0 940 [(13, .int (bif decide ((μ.1 56 1) = 1) then (2 : Int32) else 8)), (12, .int 1), (10, .int x10), (11, .int x11), (9, .int (nB b9)), (8, .int (nB b8)), (7, .int x7), (6, .int (nB b6)), (5, .int (nB b5)), (3, .int x3), (2, .int x2), (1, .int x1), (4, .int (nB b4)), (0, .ref 50)] [.int (nB (xHi1 μ)), .int (bif decide ((μ.1 56 1) = 1) then (2 : Int32) else 8), .int f, .ref 50] (mGP μ g p f)
        have hJ3 : Z 0 948 [(13, .int (bif decide ((μ.1 56 1) = 1) then (2 : Int32) else 8)), (12, .int 1), (10, .int x10), (11, .int x11), (9, .int (nB b9)), (8, .int (nB b8)), (7, .int x7), (6, .int (nB b6)), (5, .int (nB b5)), (3, .int x3), (2, .int x2), (1, .int x1), (4, .int (nB b4)), (0, .ref 50)] [.int (bif xHi1 μ then (2 : Int32) else 1), .int (bif decide ((μ.1 56 1) = 1) then (2 : Int32) else 8), .int f, .ref 50] (mGP μ g p f) := by
          refine z_rcs hc hH 4 (pc' := 955) (lv' := [(13, .int (bif decide ((μ.1 56 1) = 1) then (2 : Int32) else 8)), (12, .int 1), (10, .int x10), (11, .int x11), (9, .int (nB b9)), (8, .int (nB b8)), (7, .int x7), (6, .int (nB b6)), (5, .int (nB b5)), (3, .int x3), (2, .int x2), (1, .int x1), (4, .int (nB b4)), (0, .ref 50)]) (st' := [.int 1, .ref 57, .int ((bif decide ((μ.1 56 1) = 1) then (2 : Int32) else 8) * (bif xHi1 μ then (2 : Int32) else 1)), .int f, .ref 50]) (μ' := mGP μ g p f) (by rfl) ?_
          refine zq_iald hc hH (by rfl) 4 (by decide +kernel) (show vp_in (nI 1) 4 from vp_in_nI (by decide) (by decide)) ?_
          show Z 0 956 [(13, .int (bif decide ((μ.1 56 1) = 1) then (2 : Int32) else 8)), (12, .int 1), (10, .int x10), (11, .int x11), (9, .int (nB b9)), (8, .int (nB b8)), (7, .int x7), (6, .int (nB b6)), (5, .int (nB b5)), (3, .int x3), (2, .int x2), (1, .int x1), (4, .int (nB b4)), (0, .ref 50)] [.int (μ.1 57 1), .int ((bif decide ((μ.1 56 1) = 1) then (2 : Int32) else 8) * (bif xHi1 μ then (2 : Int32) else 1)), .int f, .ref 50] (mGP μ g p f)
          refine zq_call hc (z_cx_ok hH (by rfl)) (fb_X7_isEnd d' (by omega) (mGP μ g p f) (μ.1 57 1)) (by decide +kernel) (fun r9 μ9 hq => ?_)
          obtain ⟨hμ9, rfl⟩ := hq
          rw [hμ9]
          clear hμ9 μ9
          show Z 0 959 [(13, .int (bif decide ((μ.1 56 1) = 1) then (2 : Int32) else 8)), (12, .int 1), (10, .int x10), (11, .int x11), (9, .int (nB b9)), (8, .int (nB b8)), (7, .int x7), (6, .int (nB b6)), (5, .int (nB b5)), (3, .int x3), (2, .int x2), (1, .int x1), (4, .int (nB b4)), (0, .ref 50)] [.int (nB (xEn (μ.1 57 1))), .int ((bif decide ((μ.1 56 1) = 1) then (2 : Int32) else 8) * (bif xHi1 μ then (2 : Int32) else 1)), .int f, .ref 50] (mGP μ g p f)
          have hJ4 : Z 0 967 [(13, .int (bif decide ((μ.1 56 1) = 1) then (2 : Int32) else 8)), (12, .int 1), (10, .int x10), (11, .int x11), (9, .int (nB b9)), (8, .int (nB b8)), (7, .int x7), (6, .int (nB b6)), (5, .int (nB b5)), (3, .int x3), (2, .int x2), (1, .int x1), (4, .int (nB b4)), (0, .ref 50)] [.int (bif xEn (μ.1 57 1) then (2 : Int32) else 1), .int ((bif decide ((μ.1 56 1) = 1) then (2 : Int32) else 8) * (bif xHi1 μ then (2 : Int32) else 1)), .int f, .ref 50] (mGP μ g p f) := by
            refine z_rcs hc hH 3 (pc' := 972) (lv' := [(13, .int (bif decide ((μ.1 56 1) = 1) then (2 : Int32) else 8)), (12, .int 1), (10, .int x10), (11, .int x11), (9, .int (nB b9)), (8, .int (nB b8)), (7, .int x7), (6, .int (nB b6)), (5, .int (nB b5)), (3, .int x3), (2, .int x2), (1, .int x1), (4, .int (nB b4)), (0, .ref 50)]) (st' := []) (μ' := z_ui (mGP μ g p f) 50 23 (f + (((bif decide ((μ.1 56 1) = 1) then (2 : Int32) else 8) * (bif xHi1 μ then (2 : Int32) else 1)) * (bif xEn (μ.1 57 1) then (2 : Int32) else 1)))) (by rfl) ?_
            rw [mGP_f]
            refine z_rcs hc hH 2 (pc' := 889) (lv' := [(12, .int 2), (13, .int (bif decide ((μ.1 56 1) = 1) then (2 : Int32) else 8)), (10, .int x10), (11, .int x11), (9, .int (nB b9)), (8, .int (nB b8)), (7, .int x7), (6, .int (nB b6)), (5, .int (nB b5)), (3, .int x3), (2, .int x2), (1, .int x1), (4, .int (nB b4)), (0, .ref 50)]) (st' := []) (μ' := mGP μ g p (f + (((bif decide ((μ.1 56 1) = 1) then (2 : Int32) else 8) * (bif xHi1 μ then (2 : Int32) else 1)) * (bif xEn (μ.1 57 1) then (2 : Int32) else 1)))) (by rfl) ?_
            exact zJ (K.2 _) rfl rfl (by simp only [h1, cond_true, cond_false])
          refine zq_if hc hH (by rfl) (tg := 966) (by rfl) (fun h5 => ?_) (fun h5 => ?_)
          · have h5 : (xEn (μ.1 57 1)) = false := nB_z.mp (cm_eq9.mp h5)
            refine z_rcs hc hH 1 (pc' := 967) (lv' := [(13, .int (bif decide ((μ.1 56 1) = 1) then (2 : Int32) else 8)), (12, .int 1), (10, .int x10), (11, .int x11), (9, .int (nB b9)), (8, .int (nB b8)), (7, .int x7), (6, .int (nB b6)), (5, .int (nB b5)), (3, .int x3), (2, .int x2), (1, .int x1), (4, .int (nB b4)), (0, .ref 50)]) (st' := [.int 1, .int ((bif decide ((μ.1 56 1) = 1) then (2 : Int32) else 8) * (bif xHi1 μ then (2 : Int32) else 1)), .int f, .ref 50]) (μ' := mGP μ g p f) (by rfl) ?_
            exact zJ hJ4 rfl (by first | with_reducible rfl | (simp only [h5, lb_f, Int64.or_zero, Int32.add_zero, nB_t, nB_f, Bool.not_true, Bool.not_false, Bool.and_true, Bool.true_and, Bool.false_and, Bool.and_false, Bool.or_true, Bool.true_or, Bool.false_or, Bool.or_false, cond_true, cond_false]; done) | rfl) rfl
          · have h5 : (xEn (μ.1 57 1)) = true := nB_n.mp (cn_eq.mp h5)
            refine z_rcs hc hH 2 (pc' := 967) (lv' := [(13, .int (bif decide ((μ.1 56 1) = 1) then (2 : Int32) else 8)), (12, .int 1), (10, .int x10), (11, .int x11), (9, .int (nB b9)), (8, .int (nB b8)), (7, .int x7), (6, .int (nB b6)), (5, .int (nB b5)), (3, .int x3), (2, .int x2), (1, .int x1), (4, .int (nB b4)), (0, .ref 50)]) (st' := [.int 2, .int ((bif decide ((μ.1 56 1) = 1) then (2 : Int32) else 8) * (bif xHi1 μ then (2 : Int32) else 1)), .int f, .ref 50]) (μ' := mGP μ g p f) (by rfl) ?_
            exact zJ hJ4 rfl (by first | with_reducible rfl | (simp only [h5, lb_f, Int64.or_zero, Int32.add_zero, nB_t, nB_f, Bool.not_true, Bool.not_false, Bool.and_true, Bool.true_and, Bool.false_and, Bool.and_false, Bool.or_true, Bool.true_or, Bool.false_or, Bool.or_false, cond_true, cond_false]; done) | rfl) rfl
        refine zq_if hc hH (by rfl) (tg := 947) (by rfl) (fun h6 => ?_) (fun h6 => ?_)
        · have h6 : (xHi1 μ) = false := nB_z.mp (cm_eq9.mp h6)
          refine z_rcs hc hH 1 (pc' := 948) (lv' := [(13, .int (bif decide ((μ.1 56 1) = 1) then (2 : Int32) else 8)), (12, .int 1), (10, .int x10), (11, .int x11), (9, .int (nB b9)), (8, .int (nB b8)), (7, .int x7), (6, .int (nB b6)), (5, .int (nB b5)), (3, .int x3), (2, .int x2), (1, .int x1), (4, .int (nB b4)), (0, .ref 50)]) (st' := [.int 1, .int (bif decide ((μ.1 56 1) = 1) then (2 : Int32) else 8), .int f, .ref 50]) (μ' := mGP μ g p f) (by rfl) ?_
          exact zJ hJ3 rfl (by first | with_reducible rfl | (simp only [h6, lb_f, Int64.or_zero, Int32.add_zero, nB_t, nB_f, Bool.not_true, Bool.not_false, Bool.and_true, Bool.true_and, Bool.false_and, Bool.and_false, Bool.or_true, Bool.true_or, Bool.false_or, Bool.or_false, cond_true, cond_false]; done) | rfl) rfl
        · have h6 : (xHi1 μ) = true := nB_n.mp (cn_eq.mp h6)
          refine z_rcs hc hH 2 (pc' := 948) (lv' := [(13, .int (bif decide ((μ.1 56 1) = 1) then (2 : Int32) else 8)), (12, .int 1), (10, .int x10), (11, .int x11), (9, .int (nB b9)), (8, .int (nB b8)), (7, .int x7), (6, .int (nB b6)), (5, .int (nB b5)), (3, .int x3), (2, .int x2), (1, .int x1), (4, .int (nB b4)), (0, .ref 50)]) (st' := [.int 2, .int (bif decide ((μ.1 56 1) = 1) then (2 : Int32) else 8), .int f, .ref 50]) (μ' := mGP μ g p f) (by rfl) ?_
          exact zJ hJ3 rfl (by first | with_reducible rfl | (simp only [h6, lb_f, Int64.or_zero, Int32.add_zero, nB_t, nB_f, Bool.not_true, Bool.not_false, Bool.and_true, Bool.true_and, Bool.false_and, Bool.and_false, Bool.or_true, Bool.true_or, Bool.false_or, Bool.or_false, cond_true, cond_false]; done) | rfl) rfl
      refine zq_ic hc hH (by rfl) (tg := 923) (by rfl) (fun h7 => ?_) (fun h7 => ?_)
      · have h7 : (decide ((μ.1 56 1) = 1)) = false := decide_eq_false (cm_ne.mp h7)
        refine z_rcs hc hH 1 (pc' := 925) (lv' := [(12, .int 1), (10, .int x10), (11, .int x11), (9, .int (nB b9)), (8, .int (nB b8)), (7, .int x7), (6, .int (nB b6)), (5, .int (nB b5)), (3, .int x3), (2, .int x2), (1, .int x1), (4, .int (nB b4)), (0, .ref 50)]) (st' := [.int 8]) (μ' := mGP μ g p f) (by rfl) ?_
        exact zJ hJ2 rfl (by first | with_reducible rfl | (simp only [h7, lb_f, Int64.or_zero, Int32.add_zero, nB_t, nB_f, Bool.not_true, Bool.not_false, Bool.and_true, Bool.true_and, Bool.false_and, Bool.and_false, Bool.or_true, Bool.true_or, Bool.false_or, Bool.or_false, cond_true, cond_false]; done) | rfl) rfl
      · have h7 : (decide ((μ.1 56 1) = 1)) = true := decide_eq_true (cn_ne.mp h7)
        refine z_rcs hc hH 2 (pc' := 925) (lv' := [(12, .int 1), (10, .int x10), (11, .int x11), (9, .int (nB b9)), (8, .int (nB b8)), (7, .int x7), (6, .int (nB b6)), (5, .int (nB b5)), (3, .int x3), (2, .int x2), (1, .int x1), (4, .int (nB b4)), (0, .ref 50)]) (st' := [.int 2]) (μ' := mGP μ g p f) (by rfl) ?_
        exact zJ hJ2 rfl (by first | with_reducible rfl | (simp only [h7, lb_f, Int64.or_zero, Int32.add_zero, nB_t, nB_f, Bool.not_true, Bool.not_false, Bool.and_true, Bool.true_and, Bool.false_and, Bool.and_false, Bool.or_true, Bool.true_or, Bool.false_or, Bool.or_false, cond_true, cond_false]; done) | rfl) rfl
    · have h1 : (decide ((μ.1 56 1) = 0)) = true := decide_eq_true (cn_ne.mp h1)
      refine z_rcs hc hH 3 (pc' := 889) (lv' := [(12, .int 2), (10, .int x10), (11, .int x11), (9, .int (nB b9)), (8, .int (nB b8)), (7, .int x7), (6, .int (nB b6)), (5, .int (nB b5)), (3, .int x3), (2, .int x2), (1, .int x1), (4, .int (nB b4)), (0, .ref 50)]) (st' := []) (μ' := mGP μ g p f) (by rfl) ?_
      exact zJ K.1 rfl rfl (by simp only [h1, cond_true, cond_false])
  · skip
    refine z_rcs hc hH 6 (pc' := 901) (lv' := [(12, .int 1), (13, .int x13), (10, .int x10), (11, .int x11), (9, .int (nB b9)), (8, .int (nB b8)), (7, .int x7), (6, .int (nB b6)), (5, .int (nB b5)), (3, .int x3), (2, .int x2), (1, .int x1), (4, .int (nB b4)), (0, .ref 50)]) (st' := [.int 1, .ref 56]) (μ' := mGP μ g p f) (by rfl) ?_
    refine zq_iald hc hH (by rfl) 4 (by decide +kernel) (show vp_in (nI 1) 4 from vp_in_nI (by decide) (by decide)) ?_
    show Z 0 902 [(12, .int 1), (13, .int x13), (10, .int x10), (11, .int x11), (9, .int (nB b9)), (8, .int (nB b8)), (7, .int x7), (6, .int (nB b6)), (5, .int (nB b5)), (3, .int x3), (2, .int x2), (1, .int x1), (4, .int (nB b4)), (0, .ref 50)] [.int (μ.1 56 1)] (mGP μ g p f)
    refine zq_if hc hH (by rfl) (tg := 908) (by rfl) (fun h1 => ?_) (fun h1 => ?_)
    · have h1 : (decide ((μ.1 56 1) = 0)) = false := decide_eq_false (cm_ne.mp h1)
      refine z_rcs hc hH 3 (pc' := 914) (lv' := [(12, .int 1), (13, .int x13), (10, .int x10), (11, .int x11), (9, .int (nB b9)), (8, .int (nB b8)), (7, .int x7), (6, .int (nB b6)), (5, .int (nB b5)), (3, .int x3), (2, .int x2), (1, .int x1), (4, .int (nB b4)), (0, .ref 50)]) (st' := [.int 1, .ref 56]) (μ' := mGP μ g p f) (by rfl) ?_
      refine zq_iald hc hH (by rfl) 4 (by decide +kernel) (show vp_in (nI 1) 4 from vp_in_nI (by decide) (by decide)) ?_
      show Z 0 915 [(12, .int 1), (13, .int x13), (10, .int x10), (11, .int x11), (9, .int (nB b9)), (8, .int (nB b8)), (7, .int x7), (6, .int (nB b6)), (5, .int (nB b5)), (3, .int x3), (2, .int x2), (1, .int x1), (4, .int (nB b4)), (0, .ref 50)] [.int (μ.1 56 1)] (mGP μ g p f)
      refine z_rcs hc hH 1 (pc' := 916) (lv' := [(12, .int 1), (13, .int x13), (10, .int x10), (11, .int x11), (9, .int (nB b9)), (8, .int (nB b8)), (7, .int x7), (6, .int (nB b6)), (5, .int (nB b5)), (3, .int x3), (2, .int x2), (1, .int x1), (4, .int (nB b4)), (0, .ref 50)]) (st' := [.int 1, .int (μ.1 56 1)]) (μ' := mGP μ g p f) (by rfl) ?_
      have hJ2 : Z 0 925 [(12, .int 1), (13, .int x13), (10, .int x10), (11, .int x11), (9, .int (nB b9)), (8, .int (nB b8)), (7, .int x7), (6, .int (nB b6)), (5, .int (nB b5)), (3, .int x3), (2, .int x2), (1, .int x1), (4, .int (nB b4)), (0, .ref 50)] [.int (bif decide ((μ.1 56 1) = 1) then (2 : Int32) else 8)] (mGP μ g p f) := by
        refine z_rcs hc hH 7 (pc' := 937) (lv' := [(13, .int (bif decide ((μ.1 56 1) = 1) then (2 : Int32) else 8)), (12, .int 1), (10, .int x10), (11, .int x11), (9, .int (nB b9)), (8, .int (nB b8)), (7, .int x7), (6, .int (nB b6)), (5, .int (nB b5)), (3, .int x3), (2, .int x2), (1, .int x1), (4, .int (nB b4)), (0, .ref 50)]) (st' := [.int 1, .ref 50, .int (bif decide ((μ.1 56 1) = 1) then (2 : Int32) else 8), .int f, .ref 50]) (μ' := mGP μ g p f) (by rfl) ?_
        refine zq_call hc (z_cx_ok hH (by rfl)) (fb_X7_isHidden1 d' (by omega) (mGP μ g p f)) (by decide +kernel) (fun r9 μ9 hq => ?_)
        obtain ⟨hμ9, rfl⟩ := hq
        rw [hμ9]
        clear hμ9 μ9
        show Z 0 940 [(13, .int (bif decide ((μ.1 56 1) = 1) then (2 : Int32) else 8)), (12, .int 1), (10, .int x10), (11, .int x11), (9, .int (nB b9)), (8, .int (nB b8)), (7, .int x7), (6, .int (nB b6)), (5, .int (nB b5)), (3, .int x3), (2, .int x2), (1, .int x1), (4, .int (nB b4)), (0, .ref 50)] [.int (nB (xHi1 μ)), .int (bif decide ((μ.1 56 1) = 1) then (2 : Int32) else 8), .int f, .ref 50] (mGP μ g p f)
        have hJ3 : Z 0 948 [(13, .int (bif decide ((μ.1 56 1) = 1) then (2 : Int32) else 8)), (12, .int 1), (10, .int x10), (11, .int x11), (9, .int (nB b9)), (8, .int (nB b8)), (7, .int x7), (6, .int (nB b6)), (5, .int (nB b5)), (3, .int x3), (2, .int x2), (1, .int x1), (4, .int (nB b4)), (0, .ref 50)] [.int (bif xHi1 μ then (2 : Int32) else 1), .int (bif decide ((μ.1 56 1) = 1) then (2 : Int32) else 8), .int f, .ref 50] (mGP μ g p f) := by
          refine z_rcs hc hH 4 (pc' := 955) (lv' := [(13, .int (bif decide ((μ.1 56 1) = 1) then (2 : Int32) else 8)), (12, .int 1), (10, .int x10), (11, .int x11), (9, .int (nB b9)), (8, .int (nB b8)), (7, .int x7), (6, .int (nB b6)), (5, .int (nB b5)), (3, .int x3), (2, .int x2), (1, .int x1), (4, .int (nB b4)), (0, .ref 50)]) (st' := [.int 1, .ref 57, .int ((bif decide ((μ.1 56 1) = 1) then (2 : Int32) else 8) * (bif xHi1 μ then (2 : Int32) else 1)), .int f, .ref 50]) (μ' := mGP μ g p f) (by rfl) ?_
          refine zq_iald hc hH (by rfl) 4 (by decide +kernel) (show vp_in (nI 1) 4 from vp_in_nI (by decide) (by decide)) ?_
          show Z 0 956 [(13, .int (bif decide ((μ.1 56 1) = 1) then (2 : Int32) else 8)), (12, .int 1), (10, .int x10), (11, .int x11), (9, .int (nB b9)), (8, .int (nB b8)), (7, .int x7), (6, .int (nB b6)), (5, .int (nB b5)), (3, .int x3), (2, .int x2), (1, .int x1), (4, .int (nB b4)), (0, .ref 50)] [.int (μ.1 57 1), .int ((bif decide ((μ.1 56 1) = 1) then (2 : Int32) else 8) * (bif xHi1 μ then (2 : Int32) else 1)), .int f, .ref 50] (mGP μ g p f)
          refine zq_call hc (z_cx_ok hH (by rfl)) (fb_X7_isEnd d' (by omega) (mGP μ g p f) (μ.1 57 1)) (by decide +kernel) (fun r9 μ9 hq => ?_)
          obtain ⟨hμ9, rfl⟩ := hq
          rw [hμ9]
          clear hμ9 μ9
          show Z 0 959 [(13, .int (bif decide ((μ.1 56 1) = 1) then (2 : Int32) else 8)), (12, .int 1), (10, .int x10), (11, .int x11), (9, .int (nB b9)), (8, .int (nB b8)), (7, .int x7), (6, .int (nB b6)), (5, .int (nB b5)), (3, .int x3), (2, .int x2), (1, .int x1), (4, .int (nB b4)), (0, .ref 50)] [.int (nB (xEn (μ.1 57 1))), .int ((bif decide ((μ.1 56 1) = 1) then (2 : Int32) else 8) * (bif xHi1 μ then (2 : Int32) else 1)), .int f, .ref 50] (mGP μ g p f)
          have hJ4 : Z 0 967 [(13, .int (bif decide ((μ.1 56 1) = 1) then (2 : Int32) else 8)), (12, .int 1), (10, .int x10), (11, .int x11), (9, .int (nB b9)), (8, .int (nB b8)), (7, .int x7), (6, .int (nB b6)), (5, .int (nB b5)), (3, .int x3), (2, .int x2), (1, .int x1), (4, .int (nB b4)), (0, .ref 50)] [.int (bif xEn (μ.1 57 1) then (2 : Int32) else 1), .int ((bif decide ((μ.1 56 1) = 1) then (2 : Int32) else 8) * (bif xHi1 μ then (2 : Int32) else 1)), .int f, .ref 50] (mGP μ g p f) := by
            refine z_rcs hc hH 3 (pc' := 972) (lv' := [(13, .int (bif decide ((μ.1 56 1) = 1) then (2 : Int32) else 8)), (12, .int 1), (10, .int x10), (11, .int x11), (9, .int (nB b9)), (8, .int (nB b8)), (7, .int x7), (6, .int (nB b6)), (5, .int (nB b5)), (3, .int x3), (2, .int x2), (1, .int x1), (4, .int (nB b4)), (0, .ref 50)]) (st' := []) (μ' := z_ui (mGP μ g p f) 50 23 (f + (((bif decide ((μ.1 56 1) = 1) then (2 : Int32) else 8) * (bif xHi1 μ then (2 : Int32) else 1)) * (bif xEn (μ.1 57 1) then (2 : Int32) else 1)))) (by rfl) ?_
            rw [mGP_f]
            refine z_rcs hc hH 2 (pc' := 889) (lv' := [(12, .int 2), (13, .int (bif decide ((μ.1 56 1) = 1) then (2 : Int32) else 8)), (10, .int x10), (11, .int x11), (9, .int (nB b9)), (8, .int (nB b8)), (7, .int x7), (6, .int (nB b6)), (5, .int (nB b5)), (3, .int x3), (2, .int x2), (1, .int x1), (4, .int (nB b4)), (0, .ref 50)]) (st' := []) (μ' := mGP μ g p (f + (((bif decide ((μ.1 56 1) = 1) then (2 : Int32) else 8) * (bif xHi1 μ then (2 : Int32) else 1)) * (bif xEn (μ.1 57 1) then (2 : Int32) else 1)))) (by rfl) ?_
            exact zJ (K.2 _) rfl rfl (by simp only [h1, cond_true, cond_false])
          refine zq_if hc hH (by rfl) (tg := 966) (by rfl) (fun h5 => ?_) (fun h5 => ?_)
          · have h5 : (xEn (μ.1 57 1)) = false := nB_z.mp (cm_eq9.mp h5)
            refine z_rcs hc hH 1 (pc' := 967) (lv' := [(13, .int (bif decide ((μ.1 56 1) = 1) then (2 : Int32) else 8)), (12, .int 1), (10, .int x10), (11, .int x11), (9, .int (nB b9)), (8, .int (nB b8)), (7, .int x7), (6, .int (nB b6)), (5, .int (nB b5)), (3, .int x3), (2, .int x2), (1, .int x1), (4, .int (nB b4)), (0, .ref 50)]) (st' := [.int 1, .int ((bif decide ((μ.1 56 1) = 1) then (2 : Int32) else 8) * (bif xHi1 μ then (2 : Int32) else 1)), .int f, .ref 50]) (μ' := mGP μ g p f) (by rfl) ?_
            exact zJ hJ4 rfl (by first | with_reducible rfl | (simp only [h5, lb_f, Int64.or_zero, Int32.add_zero, nB_t, nB_f, Bool.not_true, Bool.not_false, Bool.and_true, Bool.true_and, Bool.false_and, Bool.and_false, Bool.or_true, Bool.true_or, Bool.false_or, Bool.or_false, cond_true, cond_false]; done) | rfl) rfl
          · have h5 : (xEn (μ.1 57 1)) = true := nB_n.mp (cn_eq.mp h5)
            refine z_rcs hc hH 2 (pc' := 967) (lv' := [(13, .int (bif decide ((μ.1 56 1) = 1) then (2 : Int32) else 8)), (12, .int 1), (10, .int x10), (11, .int x11), (9, .int (nB b9)), (8, .int (nB b8)), (7, .int x7), (6, .int (nB b6)), (5, .int (nB b5)), (3, .int x3), (2, .int x2), (1, .int x1), (4, .int (nB b4)), (0, .ref 50)]) (st' := [.int 2, .int ((bif decide ((μ.1 56 1) = 1) then (2 : Int32) else 8) * (bif xHi1 μ then (2 : Int32) else 1)), .int f, .ref 50]) (μ' := mGP μ g p f) (by rfl) ?_
            exact zJ hJ4 rfl (by first | with_reducible rfl | (simp only [h5, lb_f, Int64.or_zero, Int32.add_zero, nB_t, nB_f, Bool.not_true, Bool.not_false, Bool.and_true, Bool.true_and, Bool.false_and, Bool.and_false, Bool.or_true, Bool.true_or, Bool.false_or, Bool.or_false, cond_true, cond_false]; done) | rfl) rfl
        refine zq_if hc hH (by rfl) (tg := 947) (by rfl) (fun h6 => ?_) (fun h6 => ?_)
        · have h6 : (xHi1 μ) = false := nB_z.mp (cm_eq9.mp h6)
          refine z_rcs hc hH 1 (pc' := 948) (lv' := [(13, .int (bif decide ((μ.1 56 1) = 1) then (2 : Int32) else 8)), (12, .int 1), (10, .int x10), (11, .int x11), (9, .int (nB b9)), (8, .int (nB b8)), (7, .int x7), (6, .int (nB b6)), (5, .int (nB b5)), (3, .int x3), (2, .int x2), (1, .int x1), (4, .int (nB b4)), (0, .ref 50)]) (st' := [.int 1, .int (bif decide ((μ.1 56 1) = 1) then (2 : Int32) else 8), .int f, .ref 50]) (μ' := mGP μ g p f) (by rfl) ?_
          exact zJ hJ3 rfl (by first | with_reducible rfl | (simp only [h6, lb_f, Int64.or_zero, Int32.add_zero, nB_t, nB_f, Bool.not_true, Bool.not_false, Bool.and_true, Bool.true_and, Bool.false_and, Bool.and_false, Bool.or_true, Bool.true_or, Bool.false_or, Bool.or_false, cond_true, cond_false]; done) | rfl) rfl
        · have h6 : (xHi1 μ) = true := nB_n.mp (cn_eq.mp h6)
          refine z_rcs hc hH 2 (pc' := 948) (lv' := [(13, .int (bif decide ((μ.1 56 1) = 1) then (2 : Int32) else 8)), (12, .int 1), (10, .int x10), (11, .int x11), (9, .int (nB b9)), (8, .int (nB b8)), (7, .int x7), (6, .int (nB b6)), (5, .int (nB b5)), (3, .int x3), (2, .int x2), (1, .int x1), (4, .int (nB b4)), (0, .ref 50)]) (st' := [.int 2, .int (bif decide ((μ.1 56 1) = 1) then (2 : Int32) else 8), .int f, .ref 50]) (μ' := mGP μ g p f) (by rfl) ?_
          exact zJ hJ3 rfl (by first | with_reducible rfl | (simp only [h6, lb_f, Int64.or_zero, Int32.add_zero, nB_t, nB_f, Bool.not_true, Bool.not_false, Bool.and_true, Bool.true_and, Bool.false_and, Bool.and_false, Bool.or_true, Bool.true_or, Bool.false_or, Bool.or_false, cond_true, cond_false]; done) | rfl) rfl
      refine zq_ic hc hH (by rfl) (tg := 923) (by rfl) (fun h7 => ?_) (fun h7 => ?_)
      · have h7 : (decide ((μ.1 56 1) = 1)) = false := decide_eq_false (cm_ne.mp h7)
        refine z_rcs hc hH 1 (pc' := 925) (lv' := [(12, .int 1), (13, .int x13), (10, .int x10), (11, .int x11), (9, .int (nB b9)), (8, .int (nB b8)), (7, .int x7), (6, .int (nB b6)), (5, .int (nB b5)), (3, .int x3), (2, .int x2), (1, .int x1), (4, .int (nB b4)), (0, .ref 50)]) (st' := [.int 8]) (μ' := mGP μ g p f) (by rfl) ?_
        exact zJ hJ2 rfl (by first | with_reducible rfl | (simp only [h7, lb_f, Int64.or_zero, Int32.add_zero, nB_t, nB_f, Bool.not_true, Bool.not_false, Bool.and_true, Bool.true_and, Bool.false_and, Bool.and_false, Bool.or_true, Bool.true_or, Bool.false_or, Bool.or_false, cond_true, cond_false]; done) | rfl) rfl
      · have h7 : (decide ((μ.1 56 1) = 1)) = true := decide_eq_true (cn_ne.mp h7)
        refine z_rcs hc hH 2 (pc' := 925) (lv' := [(12, .int 1), (13, .int x13), (10, .int x10), (11, .int x11), (9, .int (nB b9)), (8, .int (nB b8)), (7, .int x7), (6, .int (nB b6)), (5, .int (nB b5)), (3, .int x3), (2, .int x2), (1, .int x1), (4, .int (nB b4)), (0, .ref 50)]) (st' := [.int 2]) (μ' := mGP μ g p f) (by rfl) ?_
        exact zJ hJ2 rfl (by first | with_reducible rfl | (simp only [h7, lb_f, Int64.or_zero, Int32.add_zero, nB_t, nB_f, Bool.not_true, Bool.not_false, Bool.and_true, Bool.true_and, Bool.false_and, Bool.and_false, Bool.or_true, Bool.true_or, Bool.false_or, Bool.or_false, cond_true, cond_false]; done) | rfl) rfl
    · have h1 : (decide ((μ.1 56 1) = 0)) = true := decide_eq_true (cn_ne.mp h1)
      refine z_rcs hc hH 3 (pc' := 889) (lv' := [(12, .int 2), (13, .int x13), (10, .int x10), (11, .int x11), (9, .int (nB b9)), (8, .int (nB b8)), (7, .int x7), (6, .int (nB b6)), (5, .int (nB b5)), (3, .int x3), (2, .int x2), (1, .int x1), (4, .int (nB b4)), (0, .ref 50)]) (st' := []) (μ' := mGP μ g p f) (by rfl) ?_
      exact zJ (K.2 _) rfl rfl (by simp only [h1, cond_true, cond_false])
theorem fu889_2 (d' : Nat) (Z : zK) (hd : 4 ≤ d') (μ : zM) (q : Nat) (hq : q ≤ 4) (e4 : μ.1 50 4 = nI q) (s l : Nat → Nat) (hA : AY μ s l) (hco : vp_in (μ.1 50 22) 5) (hc : z_clo z_x0 mi_X7_firstSort (z_C d') Z) (x10 : Int32) (x11 : Int32) (b9 : Bool) (b8 : Bool) (x7 : Int32) (b6 : Bool) (b5 : Bool) (x3 : Int32) (x2 : Int32) (x1 : Int32) (b4 : Bool) (g p : Int64) (f : Int32) (K : Z 0 889 [(12, .int 3), (10, .int x10), (11, .int x11), (9, .int (nB b9)), (8, .int (nB b8)), (7, .int x7), (6, .int (nB b6)), (5, .int (nB b5)), (3, .int x3), (2, .int x2), (1, .int x1), (4, .int (nB b4)), (0, .ref 50)] [] (mGP μ g p (bif decide ((μ.1 56 2) = 0) then f else f + (((bif decide ((μ.1 56 2) = 1) then (2 : Int32) else 8) * (bif xHi2 μ then (2 : Int32) else 1)) * (bif xEn (μ.1 57 2) then (2 : Int32) else 1)))) ∧ ∀ x13, Z 0 889 [(12, .int 3), (13, .int x13), (10, .int x10), (11, .int x11), (9, .int (nB b9)), (8, .int (nB b8)), (7, .int x7), (6, .int (nB b6)), (5, .int (nB b5)), (3, .int x3), (2, .int x2), (1, .int x1), (4, .int (nB b4)), (0, .ref 50)] [] (mGP μ g p (bif decide ((μ.1 56 2) = 0) then f else f + (((bif decide ((μ.1 56 2) = 1) then (2 : Int32) else 8) * (bif xHi2 μ then (2 : Int32) else 1)) * (bif xEn (μ.1 57 2) then (2 : Int32) else 1))))) : Z 0 889 [(12, .int 2), (10, .int x10), (11, .int x11), (9, .int (nB b9)), (8, .int (nB b8)), (7, .int x7), (6, .int (nB b6)), (5, .int (nB b5)), (3, .int x3), (2, .int x2), (1, .int x1), (4, .int (nB b4)), (0, .ref 50)] [] (mGP μ g p f) ∧ ∀ x13, Z 0 889 [(12, .int 2), (13, .int x13), (10, .int x10), (11, .int x11), (9, .int (nB b9)), (8, .int (nB b8)), (7, .int x7), (6, .int (nB b6)), (5, .int (nB b5)), (3, .int x3), (2, .int x2), (1, .int x1), (4, .int (nB b4)), (0, .ref 50)] [] (mGP μ g p f) := by
  have hH : zH mi_X7_firstSort zt_X7_firstSort 79 7 14 := hh_X7_firstSort
  refine ⟨?_, fun x13 => ?_⟩
  · skip
    refine z_rcs hc hH 6 (pc' := 901) (lv' := [(12, .int 2), (10, .int x10), (11, .int x11), (9, .int (nB b9)), (8, .int (nB b8)), (7, .int x7), (6, .int (nB b6)), (5, .int (nB b5)), (3, .int x3), (2, .int x2), (1, .int x1), (4, .int (nB b4)), (0, .ref 50)]) (st' := [.int 2, .ref 56]) (μ' := mGP μ g p f) (by rfl) ?_
    refine zq_iald hc hH (by rfl) 4 (by decide +kernel) (show vp_in (nI 2) 4 from vp_in_nI (by decide) (by decide)) ?_
    show Z 0 902 [(12, .int 2), (10, .int x10), (11, .int x11), (9, .int (nB b9)), (8, .int (nB b8)), (7, .int x7), (6, .int (nB b6)), (5, .int (nB b5)), (3, .int x3), (2, .int x2), (1, .int x1), (4, .int (nB b4)), (0, .ref 50)] [.int (μ.1 56 2)] (mGP μ g p f)
    refine zq_if hc hH (by rfl) (tg := 908) (by rfl) (fun h1 => ?_) (fun h1 => ?_)
    · have h1 : (decide ((μ.1 56 2) = 0)) = false := decide_eq_false (cm_ne.mp h1)
      refine z_rcs hc hH 3 (pc' := 914) (lv' := [(12, .int 2), (10, .int x10), (11, .int x11), (9, .int (nB b9)), (8, .int (nB b8)), (7, .int x7), (6, .int (nB b6)), (5, .int (nB b5)), (3, .int x3), (2, .int x2), (1, .int x1), (4, .int (nB b4)), (0, .ref 50)]) (st' := [.int 2, .ref 56]) (μ' := mGP μ g p f) (by rfl) ?_
      refine zq_iald hc hH (by rfl) 4 (by decide +kernel) (show vp_in (nI 2) 4 from vp_in_nI (by decide) (by decide)) ?_
      show Z 0 915 [(12, .int 2), (10, .int x10), (11, .int x11), (9, .int (nB b9)), (8, .int (nB b8)), (7, .int x7), (6, .int (nB b6)), (5, .int (nB b5)), (3, .int x3), (2, .int x2), (1, .int x1), (4, .int (nB b4)), (0, .ref 50)] [.int (μ.1 56 2)] (mGP μ g p f)
      refine z_rcs hc hH 1 (pc' := 916) (lv' := [(12, .int 2), (10, .int x10), (11, .int x11), (9, .int (nB b9)), (8, .int (nB b8)), (7, .int x7), (6, .int (nB b6)), (5, .int (nB b5)), (3, .int x3), (2, .int x2), (1, .int x1), (4, .int (nB b4)), (0, .ref 50)]) (st' := [.int 1, .int (μ.1 56 2)]) (μ' := mGP μ g p f) (by rfl) ?_
      have hJ2 : Z 0 925 [(12, .int 2), (10, .int x10), (11, .int x11), (9, .int (nB b9)), (8, .int (nB b8)), (7, .int x7), (6, .int (nB b6)), (5, .int (nB b5)), (3, .int x3), (2, .int x2), (1, .int x1), (4, .int (nB b4)), (0, .ref 50)] [.int (bif decide ((μ.1 56 2) = 1) then (2 : Int32) else 8)] (mGP μ g p f) := by
        refine z_rcs hc hH 7 (pc' := 937) (lv' := [(13, .int (bif decide ((μ.1 56 2) = 1) then (2 : Int32) else 8)), (12, .int 2), (10, .int x10), (11, .int x11), (9, .int (nB b9)), (8, .int (nB b8)), (7, .int x7), (6, .int (nB b6)), (5, .int (nB b5)), (3, .int x3), (2, .int x2), (1, .int x1), (4, .int (nB b4)), (0, .ref 50)]) (st' := [.int 2, .ref 50, .int (bif decide ((μ.1 56 2) = 1) then (2 : Int32) else 8), .int f, .ref 50]) (μ' := mGP μ g p f) (by rfl) ?_
        refine zq_call hc (z_cx_ok hH (by rfl)) (fb_X7_isHidden2 d' (by omega) (mGP μ g p f)) (by decide +kernel) (fun r9 μ9 hq => ?_)
        obtain ⟨hμ9, rfl⟩ := hq
        rw [hμ9]
        clear hμ9 μ9
        show Z 0 940 [(13, .int (bif decide ((μ.1 56 2) = 1) then (2 : Int32) else 8)), (12, .int 2), (10, .int x10), (11, .int x11), (9, .int (nB b9)), (8, .int (nB b8)), (7, .int x7), (6, .int (nB b6)), (5, .int (nB b5)), (3, .int x3), (2, .int x2), (1, .int x1), (4, .int (nB b4)), (0, .ref 50)] [.int (nB (xHi2 μ)), .int (bif decide ((μ.1 56 2) = 1) then (2 : Int32) else 8), .int f, .ref 50] (mGP μ g p f)
        have hJ3 : Z 0 948 [(13, .int (bif decide ((μ.1 56 2) = 1) then (2 : Int32) else 8)), (12, .int 2), (10, .int x10), (11, .int x11), (9, .int (nB b9)), (8, .int (nB b8)), (7, .int x7), (6, .int (nB b6)), (5, .int (nB b5)), (3, .int x3), (2, .int x2), (1, .int x1), (4, .int (nB b4)), (0, .ref 50)] [.int (bif xHi2 μ then (2 : Int32) else 1), .int (bif decide ((μ.1 56 2) = 1) then (2 : Int32) else 8), .int f, .ref 50] (mGP μ g p f) := by
          refine z_rcs hc hH 4 (pc' := 955) (lv' := [(13, .int (bif decide ((μ.1 56 2) = 1) then (2 : Int32) else 8)), (12, .int 2), (10, .int x10), (11, .int x11), (9, .int (nB b9)), (8, .int (nB b8)), (7, .int x7), (6, .int (nB b6)), (5, .int (nB b5)), (3, .int x3), (2, .int x2), (1, .int x1), (4, .int (nB b4)), (0, .ref 50)]) (st' := [.int 2, .ref 57, .int ((bif decide ((μ.1 56 2) = 1) then (2 : Int32) else 8) * (bif xHi2 μ then (2 : Int32) else 1)), .int f, .ref 50]) (μ' := mGP μ g p f) (by rfl) ?_
          refine zq_iald hc hH (by rfl) 4 (by decide +kernel) (show vp_in (nI 2) 4 from vp_in_nI (by decide) (by decide)) ?_
          show Z 0 956 [(13, .int (bif decide ((μ.1 56 2) = 1) then (2 : Int32) else 8)), (12, .int 2), (10, .int x10), (11, .int x11), (9, .int (nB b9)), (8, .int (nB b8)), (7, .int x7), (6, .int (nB b6)), (5, .int (nB b5)), (3, .int x3), (2, .int x2), (1, .int x1), (4, .int (nB b4)), (0, .ref 50)] [.int (μ.1 57 2), .int ((bif decide ((μ.1 56 2) = 1) then (2 : Int32) else 8) * (bif xHi2 μ then (2 : Int32) else 1)), .int f, .ref 50] (mGP μ g p f)
          refine zq_call hc (z_cx_ok hH (by rfl)) (fb_X7_isEnd d' (by omega) (mGP μ g p f) (μ.1 57 2)) (by decide +kernel) (fun r9 μ9 hq => ?_)
          obtain ⟨hμ9, rfl⟩ := hq
          rw [hμ9]
          clear hμ9 μ9
          show Z 0 959 [(13, .int (bif decide ((μ.1 56 2) = 1) then (2 : Int32) else 8)), (12, .int 2), (10, .int x10), (11, .int x11), (9, .int (nB b9)), (8, .int (nB b8)), (7, .int x7), (6, .int (nB b6)), (5, .int (nB b5)), (3, .int x3), (2, .int x2), (1, .int x1), (4, .int (nB b4)), (0, .ref 50)] [.int (nB (xEn (μ.1 57 2))), .int ((bif decide ((μ.1 56 2) = 1) then (2 : Int32) else 8) * (bif xHi2 μ then (2 : Int32) else 1)), .int f, .ref 50] (mGP μ g p f)
          have hJ4 : Z 0 967 [(13, .int (bif decide ((μ.1 56 2) = 1) then (2 : Int32) else 8)), (12, .int 2), (10, .int x10), (11, .int x11), (9, .int (nB b9)), (8, .int (nB b8)), (7, .int x7), (6, .int (nB b6)), (5, .int (nB b5)), (3, .int x3), (2, .int x2), (1, .int x1), (4, .int (nB b4)), (0, .ref 50)] [.int (bif xEn (μ.1 57 2) then (2 : Int32) else 1), .int ((bif decide ((μ.1 56 2) = 1) then (2 : Int32) else 8) * (bif xHi2 μ then (2 : Int32) else 1)), .int f, .ref 50] (mGP μ g p f) := by
            refine z_rcs hc hH 3 (pc' := 972) (lv' := [(13, .int (bif decide ((μ.1 56 2) = 1) then (2 : Int32) else 8)), (12, .int 2), (10, .int x10), (11, .int x11), (9, .int (nB b9)), (8, .int (nB b8)), (7, .int x7), (6, .int (nB b6)), (5, .int (nB b5)), (3, .int x3), (2, .int x2), (1, .int x1), (4, .int (nB b4)), (0, .ref 50)]) (st' := []) (μ' := z_ui (mGP μ g p f) 50 23 (f + (((bif decide ((μ.1 56 2) = 1) then (2 : Int32) else 8) * (bif xHi2 μ then (2 : Int32) else 1)) * (bif xEn (μ.1 57 2) then (2 : Int32) else 1)))) (by rfl) ?_
            rw [mGP_f]
            refine z_rcs hc hH 2 (pc' := 889) (lv' := [(12, .int 3), (13, .int (bif decide ((μ.1 56 2) = 1) then (2 : Int32) else 8)), (10, .int x10), (11, .int x11), (9, .int (nB b9)), (8, .int (nB b8)), (7, .int x7), (6, .int (nB b6)), (5, .int (nB b5)), (3, .int x3), (2, .int x2), (1, .int x1), (4, .int (nB b4)), (0, .ref 50)]) (st' := []) (μ' := mGP μ g p (f + (((bif decide ((μ.1 56 2) = 1) then (2 : Int32) else 8) * (bif xHi2 μ then (2 : Int32) else 1)) * (bif xEn (μ.1 57 2) then (2 : Int32) else 1)))) (by rfl) ?_
            exact zJ (K.2 _) rfl rfl (by simp only [h1, cond_true, cond_false])
          refine zq_if hc hH (by rfl) (tg := 966) (by rfl) (fun h5 => ?_) (fun h5 => ?_)
          · have h5 : (xEn (μ.1 57 2)) = false := nB_z.mp (cm_eq9.mp h5)
            refine z_rcs hc hH 1 (pc' := 967) (lv' := [(13, .int (bif decide ((μ.1 56 2) = 1) then (2 : Int32) else 8)), (12, .int 2), (10, .int x10), (11, .int x11), (9, .int (nB b9)), (8, .int (nB b8)), (7, .int x7), (6, .int (nB b6)), (5, .int (nB b5)), (3, .int x3), (2, .int x2), (1, .int x1), (4, .int (nB b4)), (0, .ref 50)]) (st' := [.int 1, .int ((bif decide ((μ.1 56 2) = 1) then (2 : Int32) else 8) * (bif xHi2 μ then (2 : Int32) else 1)), .int f, .ref 50]) (μ' := mGP μ g p f) (by rfl) ?_
            exact zJ hJ4 rfl (by first | with_reducible rfl | (simp only [h5, lb_f, Int64.or_zero, Int32.add_zero, nB_t, nB_f, Bool.not_true, Bool.not_false, Bool.and_true, Bool.true_and, Bool.false_and, Bool.and_false, Bool.or_true, Bool.true_or, Bool.false_or, Bool.or_false, cond_true, cond_false]; done) | rfl) rfl
          · have h5 : (xEn (μ.1 57 2)) = true := nB_n.mp (cn_eq.mp h5)
            refine z_rcs hc hH 2 (pc' := 967) (lv' := [(13, .int (bif decide ((μ.1 56 2) = 1) then (2 : Int32) else 8)), (12, .int 2), (10, .int x10), (11, .int x11), (9, .int (nB b9)), (8, .int (nB b8)), (7, .int x7), (6, .int (nB b6)), (5, .int (nB b5)), (3, .int x3), (2, .int x2), (1, .int x1), (4, .int (nB b4)), (0, .ref 50)]) (st' := [.int 2, .int ((bif decide ((μ.1 56 2) = 1) then (2 : Int32) else 8) * (bif xHi2 μ then (2 : Int32) else 1)), .int f, .ref 50]) (μ' := mGP μ g p f) (by rfl) ?_
            exact zJ hJ4 rfl (by first | with_reducible rfl | (simp only [h5, lb_f, Int64.or_zero, Int32.add_zero, nB_t, nB_f, Bool.not_true, Bool.not_false, Bool.and_true, Bool.true_and, Bool.false_and, Bool.and_false, Bool.or_true, Bool.true_or, Bool.false_or, Bool.or_false, cond_true, cond_false]; done) | rfl) rfl
        refine zq_if hc hH (by rfl) (tg := 947) (by rfl) (fun h6 => ?_) (fun h6 => ?_)
        · have h6 : (xHi2 μ) = false := nB_z.mp (cm_eq9.mp h6)
          refine z_rcs hc hH 1 (pc' := 948) (lv' := [(13, .int (bif decide ((μ.1 56 2) = 1) then (2 : Int32) else 8)), (12, .int 2), (10, .int x10), (11, .int x11), (9, .int (nB b9)), (8, .int (nB b8)), (7, .int x7), (6, .int (nB b6)), (5, .int (nB b5)), (3, .int x3), (2, .int x2), (1, .int x1), (4, .int (nB b4)), (0, .ref 50)]) (st' := [.int 1, .int (bif decide ((μ.1 56 2) = 1) then (2 : Int32) else 8), .int f, .ref 50]) (μ' := mGP μ g p f) (by rfl) ?_
          exact zJ hJ3 rfl (by first | with_reducible rfl | (simp only [h6, lb_f, Int64.or_zero, Int32.add_zero, nB_t, nB_f, Bool.not_true, Bool.not_false, Bool.and_true, Bool.true_and, Bool.false_and, Bool.and_false, Bool.or_true, Bool.true_or, Bool.false_or, Bool.or_false, cond_true, cond_false]; done) | rfl) rfl
        · have h6 : (xHi2 μ) = true := nB_n.mp (cn_eq.mp h6)
          refine z_rcs hc hH 2 (pc' := 948) (lv' := [(13, .int (bif decide ((μ.1 56 2) = 1) then (2 : Int32) else 8)), (12, .int 2), (10, .int x10), (11, .int x11), (9, .int (nB b9)), (8, .int (nB b8)), (7, .int x7), (6, .int (nB b6)), (5, .int (nB b5)), (3, .int x3), (2, .int x2), (1, .int x1), (4, .int (nB b4)), (0, .ref 50)]) (st' := [.int 2, .int (bif decide ((μ.1 56 2) = 1) then (2 : Int32) else 8), .int f, .ref 50]) (μ' := mGP μ g p f) (by rfl) ?_
          exact zJ hJ3 rfl (by first | with_reducible rfl | (simp only [h6, lb_f, Int64.or_zero, Int32.add_zero, nB_t, nB_f, Bool.not_true, Bool.not_false, Bool.and_true, Bool.true_and, Bool.false_and, Bool.and_false, Bool.or_true, Bool.true_or, Bool.false_or, Bool.or_false, cond_true, cond_false]; done) | rfl) rfl
      refine zq_ic hc hH (by rfl) (tg := 923) (by rfl) (fun h7 => ?_) (fun h7 => ?_)
      · have h7 : (decide ((μ.1 56 2) = 1)) = false := decide_eq_false (cm_ne.mp h7)
        refine z_rcs hc hH 1 (pc' := 925) (lv' := [(12, .int 2), (10, .int x10), (11, .int x11), (9, .int (nB b9)), (8, .int (nB b8)), (7, .int x7), (6, .int (nB b6)), (5, .int (nB b5)), (3, .int x3), (2, .int x2), (1, .int x1), (4, .int (nB b4)), (0, .ref 50)]) (st' := [.int 8]) (μ' := mGP μ g p f) (by rfl) ?_
        exact zJ hJ2 rfl (by first | with_reducible rfl | (simp only [h7, lb_f, Int64.or_zero, Int32.add_zero, nB_t, nB_f, Bool.not_true, Bool.not_false, Bool.and_true, Bool.true_and, Bool.false_and, Bool.and_false, Bool.or_true, Bool.true_or, Bool.false_or, Bool.or_false, cond_true, cond_false]; done) | rfl) rfl
      · have h7 : (decide ((μ.1 56 2) = 1)) = true := decide_eq_true (cn_ne.mp h7)
        refine z_rcs hc hH 2 (pc' := 925) (lv' := [(12, .int 2), (10, .int x10), (11, .int x11), (9, .int (nB b9)), (8, .int (nB b8)), (7, .int x7), (6, .int (nB b6)), (5, .int (nB b5)), (3, .int x3), (2, .int x2), (1, .int x1), (4, .int (nB b4)), (0, .ref 50)]) (st' := [.int 2]) (μ' := mGP μ g p f) (by rfl) ?_
        exact zJ hJ2 rfl (by first | with_reducible rfl | (simp only [h7, lb_f, Int64.or_zero, Int32.add_zero, nB_t, nB_f, Bool.not_true, Bool.not_false, Bool.and_true, Bool.true_and, Bool.false_and, Bool.and_false, Bool.or_true, Bool.true_or, Bool.false_or, Bool.or_false, cond_true, cond_false]; done) | rfl) rfl
    · have h1 : (decide ((μ.1 56 2) = 0)) = true := decide_eq_true (cn_ne.mp h1)
      refine z_rcs hc hH 3 (pc' := 889) (lv' := [(12, .int 3), (10, .int x10), (11, .int x11), (9, .int (nB b9)), (8, .int (nB b8)), (7, .int x7), (6, .int (nB b6)), (5, .int (nB b5)), (3, .int x3), (2, .int x2), (1, .int x1), (4, .int (nB b4)), (0, .ref 50)]) (st' := []) (μ' := mGP μ g p f) (by rfl) ?_
      exact zJ K.1 rfl rfl (by simp only [h1, cond_true, cond_false])
  · skip
    refine z_rcs hc hH 6 (pc' := 901) (lv' := [(12, .int 2), (13, .int x13), (10, .int x10), (11, .int x11), (9, .int (nB b9)), (8, .int (nB b8)), (7, .int x7), (6, .int (nB b6)), (5, .int (nB b5)), (3, .int x3), (2, .int x2), (1, .int x1), (4, .int (nB b4)), (0, .ref 50)]) (st' := [.int 2, .ref 56]) (μ' := mGP μ g p f) (by rfl) ?_
    refine zq_iald hc hH (by rfl) 4 (by decide +kernel) (show vp_in (nI 2) 4 from vp_in_nI (by decide) (by decide)) ?_
    show Z 0 902 [(12, .int 2), (13, .int x13), (10, .int x10), (11, .int x11), (9, .int (nB b9)), (8, .int (nB b8)), (7, .int x7), (6, .int (nB b6)), (5, .int (nB b5)), (3, .int x3), (2, .int x2), (1, .int x1), (4, .int (nB b4)), (0, .ref 50)] [.int (μ.1 56 2)] (mGP μ g p f)
    refine zq_if hc hH (by rfl) (tg := 908) (by rfl) (fun h1 => ?_) (fun h1 => ?_)
    · have h1 : (decide ((μ.1 56 2) = 0)) = false := decide_eq_false (cm_ne.mp h1)
      refine z_rcs hc hH 3 (pc' := 914) (lv' := [(12, .int 2), (13, .int x13), (10, .int x10), (11, .int x11), (9, .int (nB b9)), (8, .int (nB b8)), (7, .int x7), (6, .int (nB b6)), (5, .int (nB b5)), (3, .int x3), (2, .int x2), (1, .int x1), (4, .int (nB b4)), (0, .ref 50)]) (st' := [.int 2, .ref 56]) (μ' := mGP μ g p f) (by rfl) ?_
      refine zq_iald hc hH (by rfl) 4 (by decide +kernel) (show vp_in (nI 2) 4 from vp_in_nI (by decide) (by decide)) ?_
      show Z 0 915 [(12, .int 2), (13, .int x13), (10, .int x10), (11, .int x11), (9, .int (nB b9)), (8, .int (nB b8)), (7, .int x7), (6, .int (nB b6)), (5, .int (nB b5)), (3, .int x3), (2, .int x2), (1, .int x1), (4, .int (nB b4)), (0, .ref 50)] [.int (μ.1 56 2)] (mGP μ g p f)
      refine z_rcs hc hH 1 (pc' := 916) (lv' := [(12, .int 2), (13, .int x13), (10, .int x10), (11, .int x11), (9, .int (nB b9)), (8, .int (nB b8)), (7, .int x7), (6, .int (nB b6)), (5, .int (nB b5)), (3, .int x3), (2, .int x2), (1, .int x1), (4, .int (nB b4)), (0, .ref 50)]) (st' := [.int 1, .int (μ.1 56 2)]) (μ' := mGP μ g p f) (by rfl) ?_
      have hJ2 : Z 0 925 [(12, .int 2), (13, .int x13), (10, .int x10), (11, .int x11), (9, .int (nB b9)), (8, .int (nB b8)), (7, .int x7), (6, .int (nB b6)), (5, .int (nB b5)), (3, .int x3), (2, .int x2), (1, .int x1), (4, .int (nB b4)), (0, .ref 50)] [.int (bif decide ((μ.1 56 2) = 1) then (2 : Int32) else 8)] (mGP μ g p f) := by
        refine z_rcs hc hH 7 (pc' := 937) (lv' := [(13, .int (bif decide ((μ.1 56 2) = 1) then (2 : Int32) else 8)), (12, .int 2), (10, .int x10), (11, .int x11), (9, .int (nB b9)), (8, .int (nB b8)), (7, .int x7), (6, .int (nB b6)), (5, .int (nB b5)), (3, .int x3), (2, .int x2), (1, .int x1), (4, .int (nB b4)), (0, .ref 50)]) (st' := [.int 2, .ref 50, .int (bif decide ((μ.1 56 2) = 1) then (2 : Int32) else 8), .int f, .ref 50]) (μ' := mGP μ g p f) (by rfl) ?_
        refine zq_call hc (z_cx_ok hH (by rfl)) (fb_X7_isHidden2 d' (by omega) (mGP μ g p f)) (by decide +kernel) (fun r9 μ9 hq => ?_)
        obtain ⟨hμ9, rfl⟩ := hq
        rw [hμ9]
        clear hμ9 μ9
        show Z 0 940 [(13, .int (bif decide ((μ.1 56 2) = 1) then (2 : Int32) else 8)), (12, .int 2), (10, .int x10), (11, .int x11), (9, .int (nB b9)), (8, .int (nB b8)), (7, .int x7), (6, .int (nB b6)), (5, .int (nB b5)), (3, .int x3), (2, .int x2), (1, .int x1), (4, .int (nB b4)), (0, .ref 50)] [.int (nB (xHi2 μ)), .int (bif decide ((μ.1 56 2) = 1) then (2 : Int32) else 8), .int f, .ref 50] (mGP μ g p f)
        have hJ3 : Z 0 948 [(13, .int (bif decide ((μ.1 56 2) = 1) then (2 : Int32) else 8)), (12, .int 2), (10, .int x10), (11, .int x11), (9, .int (nB b9)), (8, .int (nB b8)), (7, .int x7), (6, .int (nB b6)), (5, .int (nB b5)), (3, .int x3), (2, .int x2), (1, .int x1), (4, .int (nB b4)), (0, .ref 50)] [.int (bif xHi2 μ then (2 : Int32) else 1), .int (bif decide ((μ.1 56 2) = 1) then (2 : Int32) else 8), .int f, .ref 50] (mGP μ g p f) := by
          refine z_rcs hc hH 4 (pc' := 955) (lv' := [(13, .int (bif decide ((μ.1 56 2) = 1) then (2 : Int32) else 8)), (12, .int 2), (10, .int x10), (11, .int x11), (9, .int (nB b9)), (8, .int (nB b8)), (7, .int x7), (6, .int (nB b6)), (5, .int (nB b5)), (3, .int x3), (2, .int x2), (1, .int x1), (4, .int (nB b4)), (0, .ref 50)]) (st' := [.int 2, .ref 57, .int ((bif decide ((μ.1 56 2) = 1) then (2 : Int32) else 8) * (bif xHi2 μ then (2 : Int32) else 1)), .int f, .ref 50]) (μ' := mGP μ g p f) (by rfl) ?_
          refine zq_iald hc hH (by rfl) 4 (by decide +kernel) (show vp_in (nI 2) 4 from vp_in_nI (by decide) (by decide)) ?_
          show Z 0 956 [(13, .int (bif decide ((μ.1 56 2) = 1) then (2 : Int32) else 8)), (12, .int 2), (10, .int x10), (11, .int x11), (9, .int (nB b9)), (8, .int (nB b8)), (7, .int x7), (6, .int (nB b6)), (5, .int (nB b5)), (3, .int x3), (2, .int x2), (1, .int x1), (4, .int (nB b4)), (0, .ref 50)] [.int (μ.1 57 2), .int ((bif decide ((μ.1 56 2) = 1) then (2 : Int32) else 8) * (bif xHi2 μ then (2 : Int32) else 1)), .int f, .ref 50] (mGP μ g p f)
          refine zq_call hc (z_cx_ok hH (by rfl)) (fb_X7_isEnd d' (by omega) (mGP μ g p f) (μ.1 57 2)) (by decide +kernel) (fun r9 μ9 hq => ?_)
          obtain ⟨hμ9, rfl⟩ := hq
          rw [hμ9]
          clear hμ9 μ9
          show Z 0 959 [(13, .int (bif decide ((μ.1 56 2) = 1) then (2 : Int32) else 8)), (12, .int 2), (10, .int x10), (11, .int x11), (9, .int (nB b9)), (8, .int (nB b8)), (7, .int x7), (6, .int (nB b6)), (5, .int (nB b5)), (3, .int x3), (2, .int x2), (1, .int x1), (4, .int (nB b4)), (0, .ref 50)] [.int (nB (xEn (μ.1 57 2))), .int ((bif decide ((μ.1 56 2) = 1) then (2 : Int32) else 8) * (bif xHi2 μ then (2 : Int32) else 1)), .int f, .ref 50] (mGP μ g p f)
          have hJ4 : Z 0 967 [(13, .int (bif decide ((μ.1 56 2) = 1) then (2 : Int32) else 8)), (12, .int 2), (10, .int x10), (11, .int x11), (9, .int (nB b9)), (8, .int (nB b8)), (7, .int x7), (6, .int (nB b6)), (5, .int (nB b5)), (3, .int x3), (2, .int x2), (1, .int x1), (4, .int (nB b4)), (0, .ref 50)] [.int (bif xEn (μ.1 57 2) then (2 : Int32) else 1), .int ((bif decide ((μ.1 56 2) = 1) then (2 : Int32) else 8) * (bif xHi2 μ then (2 : Int32) else 1)), .int f, .ref 50] (mGP μ g p f) := by
            refine z_rcs hc hH 3 (pc' := 972) (lv' := [(13, .int (bif decide ((μ.1 56 2) = 1) then (2 : Int32) else 8)), (12, .int 2), (10, .int x10), (11, .int x11), (9, .int (nB b9)), (8, .int (nB b8)), (7, .int x7), (6, .int (nB b6)), (5, .int (nB b5)), (3, .int x3), (2, .int x2), (1, .int x1), (4, .int (nB b4)), (0, .ref 50)]) (st' := []) (μ' := z_ui (mGP μ g p f) 50 23 (f + (((bif decide ((μ.1 56 2) = 1) then (2 : Int32) else 8) * (bif xHi2 μ then (2 : Int32) else 1)) * (bif xEn (μ.1 57 2) then (2 : Int32) else 1)))) (by rfl) ?_
            rw [mGP_f]
            refine z_rcs hc hH 2 (pc' := 889) (lv' := [(12, .int 3), (13, .int (bif decide ((μ.1 56 2) = 1) then (2 : Int32) else 8)), (10, .int x10), (11, .int x11), (9, .int (nB b9)), (8, .int (nB b8)), (7, .int x7), (6, .int (nB b6)), (5, .int (nB b5)), (3, .int x3), (2, .int x2), (1, .int x1), (4, .int (nB b4)), (0, .ref 50)]) (st' := []) (μ' := mGP μ g p (f + (((bif decide ((μ.1 56 2) = 1) then (2 : Int32) else 8) * (bif xHi2 μ then (2 : Int32) else 1)) * (bif xEn (μ.1 57 2) then (2 : Int32) else 1)))) (by rfl) ?_
            exact zJ (K.2 _) rfl rfl (by simp only [h1, cond_true, cond_false])
          refine zq_if hc hH (by rfl) (tg := 966) (by rfl) (fun h5 => ?_) (fun h5 => ?_)
          · have h5 : (xEn (μ.1 57 2)) = false := nB_z.mp (cm_eq9.mp h5)
            refine z_rcs hc hH 1 (pc' := 967) (lv' := [(13, .int (bif decide ((μ.1 56 2) = 1) then (2 : Int32) else 8)), (12, .int 2), (10, .int x10), (11, .int x11), (9, .int (nB b9)), (8, .int (nB b8)), (7, .int x7), (6, .int (nB b6)), (5, .int (nB b5)), (3, .int x3), (2, .int x2), (1, .int x1), (4, .int (nB b4)), (0, .ref 50)]) (st' := [.int 1, .int ((bif decide ((μ.1 56 2) = 1) then (2 : Int32) else 8) * (bif xHi2 μ then (2 : Int32) else 1)), .int f, .ref 50]) (μ' := mGP μ g p f) (by rfl) ?_
            exact zJ hJ4 rfl (by first | with_reducible rfl | (simp only [h5, lb_f, Int64.or_zero, Int32.add_zero, nB_t, nB_f, Bool.not_true, Bool.not_false, Bool.and_true, Bool.true_and, Bool.false_and, Bool.and_false, Bool.or_true, Bool.true_or, Bool.false_or, Bool.or_false, cond_true, cond_false]; done) | rfl) rfl
          · have h5 : (xEn (μ.1 57 2)) = true := nB_n.mp (cn_eq.mp h5)
            refine z_rcs hc hH 2 (pc' := 967) (lv' := [(13, .int (bif decide ((μ.1 56 2) = 1) then (2 : Int32) else 8)), (12, .int 2), (10, .int x10), (11, .int x11), (9, .int (nB b9)), (8, .int (nB b8)), (7, .int x7), (6, .int (nB b6)), (5, .int (nB b5)), (3, .int x3), (2, .int x2), (1, .int x1), (4, .int (nB b4)), (0, .ref 50)]) (st' := [.int 2, .int ((bif decide ((μ.1 56 2) = 1) then (2 : Int32) else 8) * (bif xHi2 μ then (2 : Int32) else 1)), .int f, .ref 50]) (μ' := mGP μ g p f) (by rfl) ?_
            exact zJ hJ4 rfl (by first | with_reducible rfl | (simp only [h5, lb_f, Int64.or_zero, Int32.add_zero, nB_t, nB_f, Bool.not_true, Bool.not_false, Bool.and_true, Bool.true_and, Bool.false_and, Bool.and_false, Bool.or_true, Bool.true_or, Bool.false_or, Bool.or_false, cond_true, cond_false]; done) | rfl) rfl
        refine zq_if hc hH (by rfl) (tg := 947) (by rfl) (fun h6 => ?_) (fun h6 => ?_)
        · have h6 : (xHi2 μ) = false := nB_z.mp (cm_eq9.mp h6)
          refine z_rcs hc hH 1 (pc' := 948) (lv' := [(13, .int (bif decide ((μ.1 56 2) = 1) then (2 : Int32) else 8)), (12, .int 2), (10, .int x10), (11, .int x11), (9, .int (nB b9)), (8, .int (nB b8)), (7, .int x7), (6, .int (nB b6)), (5, .int (nB b5)), (3, .int x3), (2, .int x2), (1, .int x1), (4, .int (nB b4)), (0, .ref 50)]) (st' := [.int 1, .int (bif decide ((μ.1 56 2) = 1) then (2 : Int32) else 8), .int f, .ref 50]) (μ' := mGP μ g p f) (by rfl) ?_
          exact zJ hJ3 rfl (by first | with_reducible rfl | (simp only [h6, lb_f, Int64.or_zero, Int32.add_zero, nB_t, nB_f, Bool.not_true, Bool.not_false, Bool.and_true, Bool.true_and, Bool.false_and, Bool.and_false, Bool.or_true, Bool.true_or, Bool.false_or, Bool.or_false, cond_true, cond_false]; done) | rfl) rfl
        · have h6 : (xHi2 μ) = true := nB_n.mp (cn_eq.mp h6)
          refine z_rcs hc hH 2 (pc' := 948) (lv' := [(13, .int (bif decide ((μ.1 56 2) = 1) then (2 : Int32) else 8)), (12, .int 2), (10, .int x10), (11, .int x11), (9, .int (nB b9)), (8, .int (nB b8)), (7, .int x7), (6, .int (nB b6)), (5, .int (nB b5)), (3, .int x3), (2, .int x2), (1, .int x1), (4, .int (nB b4)), (0, .ref 50)]) (st' := [.int 2, .int (bif decide ((μ.1 56 2) = 1) then (2 : Int32) else 8), .int f, .ref 50]) (μ' := mGP μ g p f) (by rfl) ?_
          exact zJ hJ3 rfl (by first | with_reducible rfl | (simp only [h6, lb_f, Int64.or_zero, Int32.add_zero, nB_t, nB_f, Bool.not_true, Bool.not_false, Bool.and_true, Bool.true_and, Bool.false_and, Bool.and_false, Bool.or_true, Bool.true_or, Bool.false_or, Bool.or_false, cond_true, cond_false]; done) | rfl) rfl
      refine zq_ic hc hH (by rfl) (tg := 923) (by rfl) (fun h7 => ?_) (fun h7 => ?_)
      · have h7 : (decide ((μ.1 56 2) = 1)) = false := decide_eq_false (cm_ne.mp h7)
        refine z_rcs hc hH 1 (pc' := 925) (lv' := [(12, .int 2), (13, .int x13), (10, .int x10), (11, .int x11), (9, .int (nB b9)), (8, .int (nB b8)), (7, .int x7), (6, .int (nB b6)), (5, .int (nB b5)), (3, .int x3), (2, .int x2), (1, .int x1), (4, .int (nB b4)), (0, .ref 50)]) (st' := [.int 8]) (μ' := mGP μ g p f) (by rfl) ?_
        exact zJ hJ2 rfl (by first | with_reducible rfl | (simp only [h7, lb_f, Int64.or_zero, Int32.add_zero, nB_t, nB_f, Bool.not_true, Bool.not_false, Bool.and_true, Bool.true_and, Bool.false_and, Bool.and_false, Bool.or_true, Bool.true_or, Bool.false_or, Bool.or_false, cond_true, cond_false]; done) | rfl) rfl
      · have h7 : (decide ((μ.1 56 2) = 1)) = true := decide_eq_true (cn_ne.mp h7)
        refine z_rcs hc hH 2 (pc' := 925) (lv' := [(12, .int 2), (13, .int x13), (10, .int x10), (11, .int x11), (9, .int (nB b9)), (8, .int (nB b8)), (7, .int x7), (6, .int (nB b6)), (5, .int (nB b5)), (3, .int x3), (2, .int x2), (1, .int x1), (4, .int (nB b4)), (0, .ref 50)]) (st' := [.int 2]) (μ' := mGP μ g p f) (by rfl) ?_
        exact zJ hJ2 rfl (by first | with_reducible rfl | (simp only [h7, lb_f, Int64.or_zero, Int32.add_zero, nB_t, nB_f, Bool.not_true, Bool.not_false, Bool.and_true, Bool.true_and, Bool.false_and, Bool.and_false, Bool.or_true, Bool.true_or, Bool.false_or, Bool.or_false, cond_true, cond_false]; done) | rfl) rfl
    · have h1 : (decide ((μ.1 56 2) = 0)) = true := decide_eq_true (cn_ne.mp h1)
      refine z_rcs hc hH 3 (pc' := 889) (lv' := [(12, .int 3), (13, .int x13), (10, .int x10), (11, .int x11), (9, .int (nB b9)), (8, .int (nB b8)), (7, .int x7), (6, .int (nB b6)), (5, .int (nB b5)), (3, .int x3), (2, .int x2), (1, .int x1), (4, .int (nB b4)), (0, .ref 50)]) (st' := []) (μ' := mGP μ g p f) (by rfl) ?_
      exact zJ (K.2 _) rfl rfl (by simp only [h1, cond_true, cond_false])
theorem fu889_3 (d' : Nat) (Z : zK) (hd : 4 ≤ d') (μ : zM) (q : Nat) (hq : q ≤ 4) (e4 : μ.1 50 4 = nI q) (s l : Nat → Nat) (hA : AY μ s l) (hco : vp_in (μ.1 50 22) 5) (hc : z_clo z_x0 mi_X7_firstSort (z_C d') Z) (x10 : Int32) (x11 : Int32) (b9 : Bool) (b8 : Bool) (x7 : Int32) (b6 : Bool) (b5 : Bool) (x3 : Int32) (x2 : Int32) (x1 : Int32) (b4 : Bool) (g p : Int64) (f : Int32) (K : Z 0 889 [(12, .int 4), (10, .int x10), (11, .int x11), (9, .int (nB b9)), (8, .int (nB b8)), (7, .int x7), (6, .int (nB b6)), (5, .int (nB b5)), (3, .int x3), (2, .int x2), (1, .int x1), (4, .int (nB b4)), (0, .ref 50)] [] (mGP μ g p (bif decide ((μ.1 56 3) = 0) then f else f + (((bif decide ((μ.1 56 3) = 1) then (2 : Int32) else 8) * (bif xHi3 μ then (2 : Int32) else 1)) * (bif xEn (μ.1 57 3) then (2 : Int32) else 1)))) ∧ ∀ x13, Z 0 889 [(12, .int 4), (13, .int x13), (10, .int x10), (11, .int x11), (9, .int (nB b9)), (8, .int (nB b8)), (7, .int x7), (6, .int (nB b6)), (5, .int (nB b5)), (3, .int x3), (2, .int x2), (1, .int x1), (4, .int (nB b4)), (0, .ref 50)] [] (mGP μ g p (bif decide ((μ.1 56 3) = 0) then f else f + (((bif decide ((μ.1 56 3) = 1) then (2 : Int32) else 8) * (bif xHi3 μ then (2 : Int32) else 1)) * (bif xEn (μ.1 57 3) then (2 : Int32) else 1))))) : Z 0 889 [(12, .int 3), (10, .int x10), (11, .int x11), (9, .int (nB b9)), (8, .int (nB b8)), (7, .int x7), (6, .int (nB b6)), (5, .int (nB b5)), (3, .int x3), (2, .int x2), (1, .int x1), (4, .int (nB b4)), (0, .ref 50)] [] (mGP μ g p f) ∧ ∀ x13, Z 0 889 [(12, .int 3), (13, .int x13), (10, .int x10), (11, .int x11), (9, .int (nB b9)), (8, .int (nB b8)), (7, .int x7), (6, .int (nB b6)), (5, .int (nB b5)), (3, .int x3), (2, .int x2), (1, .int x1), (4, .int (nB b4)), (0, .ref 50)] [] (mGP μ g p f) := by
  have hH : zH mi_X7_firstSort zt_X7_firstSort 79 7 14 := hh_X7_firstSort
  refine ⟨?_, fun x13 => ?_⟩
  · skip
    refine z_rcs hc hH 6 (pc' := 901) (lv' := [(12, .int 3), (10, .int x10), (11, .int x11), (9, .int (nB b9)), (8, .int (nB b8)), (7, .int x7), (6, .int (nB b6)), (5, .int (nB b5)), (3, .int x3), (2, .int x2), (1, .int x1), (4, .int (nB b4)), (0, .ref 50)]) (st' := [.int 3, .ref 56]) (μ' := mGP μ g p f) (by rfl) ?_
    refine zq_iald hc hH (by rfl) 4 (by decide +kernel) (show vp_in (nI 3) 4 from vp_in_nI (by decide) (by decide)) ?_
    show Z 0 902 [(12, .int 3), (10, .int x10), (11, .int x11), (9, .int (nB b9)), (8, .int (nB b8)), (7, .int x7), (6, .int (nB b6)), (5, .int (nB b5)), (3, .int x3), (2, .int x2), (1, .int x1), (4, .int (nB b4)), (0, .ref 50)] [.int (μ.1 56 3)] (mGP μ g p f)
    refine zq_if hc hH (by rfl) (tg := 908) (by rfl) (fun h1 => ?_) (fun h1 => ?_)
    · have h1 : (decide ((μ.1 56 3) = 0)) = false := decide_eq_false (cm_ne.mp h1)
      refine z_rcs hc hH 3 (pc' := 914) (lv' := [(12, .int 3), (10, .int x10), (11, .int x11), (9, .int (nB b9)), (8, .int (nB b8)), (7, .int x7), (6, .int (nB b6)), (5, .int (nB b5)), (3, .int x3), (2, .int x2), (1, .int x1), (4, .int (nB b4)), (0, .ref 50)]) (st' := [.int 3, .ref 56]) (μ' := mGP μ g p f) (by rfl) ?_
      refine zq_iald hc hH (by rfl) 4 (by decide +kernel) (show vp_in (nI 3) 4 from vp_in_nI (by decide) (by decide)) ?_
      show Z 0 915 [(12, .int 3), (10, .int x10), (11, .int x11), (9, .int (nB b9)), (8, .int (nB b8)), (7, .int x7), (6, .int (nB b6)), (5, .int (nB b5)), (3, .int x3), (2, .int x2), (1, .int x1), (4, .int (nB b4)), (0, .ref 50)] [.int (μ.1 56 3)] (mGP μ g p f)
      refine z_rcs hc hH 1 (pc' := 916) (lv' := [(12, .int 3), (10, .int x10), (11, .int x11), (9, .int (nB b9)), (8, .int (nB b8)), (7, .int x7), (6, .int (nB b6)), (5, .int (nB b5)), (3, .int x3), (2, .int x2), (1, .int x1), (4, .int (nB b4)), (0, .ref 50)]) (st' := [.int 1, .int (μ.1 56 3)]) (μ' := mGP μ g p f) (by rfl) ?_
      have hJ2 : Z 0 925 [(12, .int 3), (10, .int x10), (11, .int x11), (9, .int (nB b9)), (8, .int (nB b8)), (7, .int x7), (6, .int (nB b6)), (5, .int (nB b5)), (3, .int x3), (2, .int x2), (1, .int x1), (4, .int (nB b4)), (0, .ref 50)] [.int (bif decide ((μ.1 56 3) = 1) then (2 : Int32) else 8)] (mGP μ g p f) := by
        refine z_rcs hc hH 7 (pc' := 937) (lv' := [(13, .int (bif decide ((μ.1 56 3) = 1) then (2 : Int32) else 8)), (12, .int 3), (10, .int x10), (11, .int x11), (9, .int (nB b9)), (8, .int (nB b8)), (7, .int x7), (6, .int (nB b6)), (5, .int (nB b5)), (3, .int x3), (2, .int x2), (1, .int x1), (4, .int (nB b4)), (0, .ref 50)]) (st' := [.int 3, .ref 50, .int (bif decide ((μ.1 56 3) = 1) then (2 : Int32) else 8), .int f, .ref 50]) (μ' := mGP μ g p f) (by rfl) ?_
        refine zq_call hc (z_cx_ok hH (by rfl)) (fb_X7_isHidden3 d' (by omega) (mGP μ g p f)) (by decide +kernel) (fun r9 μ9 hq => ?_)
        obtain ⟨hμ9, rfl⟩ := hq
        rw [hμ9]
        clear hμ9 μ9
        show Z 0 940 [(13, .int (bif decide ((μ.1 56 3) = 1) then (2 : Int32) else 8)), (12, .int 3), (10, .int x10), (11, .int x11), (9, .int (nB b9)), (8, .int (nB b8)), (7, .int x7), (6, .int (nB b6)), (5, .int (nB b5)), (3, .int x3), (2, .int x2), (1, .int x1), (4, .int (nB b4)), (0, .ref 50)] [.int (nB (xHi3 μ)), .int (bif decide ((μ.1 56 3) = 1) then (2 : Int32) else 8), .int f, .ref 50] (mGP μ g p f)
        have hJ3 : Z 0 948 [(13, .int (bif decide ((μ.1 56 3) = 1) then (2 : Int32) else 8)), (12, .int 3), (10, .int x10), (11, .int x11), (9, .int (nB b9)), (8, .int (nB b8)), (7, .int x7), (6, .int (nB b6)), (5, .int (nB b5)), (3, .int x3), (2, .int x2), (1, .int x1), (4, .int (nB b4)), (0, .ref 50)] [.int (bif xHi3 μ then (2 : Int32) else 1), .int (bif decide ((μ.1 56 3) = 1) then (2 : Int32) else 8), .int f, .ref 50] (mGP μ g p f) := by
          refine z_rcs hc hH 4 (pc' := 955) (lv' := [(13, .int (bif decide ((μ.1 56 3) = 1) then (2 : Int32) else 8)), (12, .int 3), (10, .int x10), (11, .int x11), (9, .int (nB b9)), (8, .int (nB b8)), (7, .int x7), (6, .int (nB b6)), (5, .int (nB b5)), (3, .int x3), (2, .int x2), (1, .int x1), (4, .int (nB b4)), (0, .ref 50)]) (st' := [.int 3, .ref 57, .int ((bif decide ((μ.1 56 3) = 1) then (2 : Int32) else 8) * (bif xHi3 μ then (2 : Int32) else 1)), .int f, .ref 50]) (μ' := mGP μ g p f) (by rfl) ?_
          refine zq_iald hc hH (by rfl) 4 (by decide +kernel) (show vp_in (nI 3) 4 from vp_in_nI (by decide) (by decide)) ?_
          show Z 0 956 [(13, .int (bif decide ((μ.1 56 3) = 1) then (2 : Int32) else 8)), (12, .int 3), (10, .int x10), (11, .int x11), (9, .int (nB b9)), (8, .int (nB b8)), (7, .int x7), (6, .int (nB b6)), (5, .int (nB b5)), (3, .int x3), (2, .int x2), (1, .int x1), (4, .int (nB b4)), (0, .ref 50)] [.int (μ.1 57 3), .int ((bif decide ((μ.1 56 3) = 1) then (2 : Int32) else 8) * (bif xHi3 μ then (2 : Int32) else 1)), .int f, .ref 50] (mGP μ g p f)
          refine zq_call hc (z_cx_ok hH (by rfl)) (fb_X7_isEnd d' (by omega) (mGP μ g p f) (μ.1 57 3)) (by decide +kernel) (fun r9 μ9 hq => ?_)
          obtain ⟨hμ9, rfl⟩ := hq
          rw [hμ9]
          clear hμ9 μ9
          show Z 0 959 [(13, .int (bif decide ((μ.1 56 3) = 1) then (2 : Int32) else 8)), (12, .int 3), (10, .int x10), (11, .int x11), (9, .int (nB b9)), (8, .int (nB b8)), (7, .int x7), (6, .int (nB b6)), (5, .int (nB b5)), (3, .int x3), (2, .int x2), (1, .int x1), (4, .int (nB b4)), (0, .ref 50)] [.int (nB (xEn (μ.1 57 3))), .int ((bif decide ((μ.1 56 3) = 1) then (2 : Int32) else 8) * (bif xHi3 μ then (2 : Int32) else 1)), .int f, .ref 50] (mGP μ g p f)
          have hJ4 : Z 0 967 [(13, .int (bif decide ((μ.1 56 3) = 1) then (2 : Int32) else 8)), (12, .int 3), (10, .int x10), (11, .int x11), (9, .int (nB b9)), (8, .int (nB b8)), (7, .int x7), (6, .int (nB b6)), (5, .int (nB b5)), (3, .int x3), (2, .int x2), (1, .int x1), (4, .int (nB b4)), (0, .ref 50)] [.int (bif xEn (μ.1 57 3) then (2 : Int32) else 1), .int ((bif decide ((μ.1 56 3) = 1) then (2 : Int32) else 8) * (bif xHi3 μ then (2 : Int32) else 1)), .int f, .ref 50] (mGP μ g p f) := by
            refine z_rcs hc hH 3 (pc' := 972) (lv' := [(13, .int (bif decide ((μ.1 56 3) = 1) then (2 : Int32) else 8)), (12, .int 3), (10, .int x10), (11, .int x11), (9, .int (nB b9)), (8, .int (nB b8)), (7, .int x7), (6, .int (nB b6)), (5, .int (nB b5)), (3, .int x3), (2, .int x2), (1, .int x1), (4, .int (nB b4)), (0, .ref 50)]) (st' := []) (μ' := z_ui (mGP μ g p f) 50 23 (f + (((bif decide ((μ.1 56 3) = 1) then (2 : Int32) else 8) * (bif xHi3 μ then (2 : Int32) else 1)) * (bif xEn (μ.1 57 3) then (2 : Int32) else 1)))) (by rfl) ?_
            rw [mGP_f]
            refine z_rcs hc hH 2 (pc' := 889) (lv' := [(12, .int 4), (13, .int (bif decide ((μ.1 56 3) = 1) then (2 : Int32) else 8)), (10, .int x10), (11, .int x11), (9, .int (nB b9)), (8, .int (nB b8)), (7, .int x7), (6, .int (nB b6)), (5, .int (nB b5)), (3, .int x3), (2, .int x2), (1, .int x1), (4, .int (nB b4)), (0, .ref 50)]) (st' := []) (μ' := mGP μ g p (f + (((bif decide ((μ.1 56 3) = 1) then (2 : Int32) else 8) * (bif xHi3 μ then (2 : Int32) else 1)) * (bif xEn (μ.1 57 3) then (2 : Int32) else 1)))) (by rfl) ?_
            exact zJ (K.2 _) rfl rfl (by simp only [h1, cond_true, cond_false])
          refine zq_if hc hH (by rfl) (tg := 966) (by rfl) (fun h5 => ?_) (fun h5 => ?_)
          · have h5 : (xEn (μ.1 57 3)) = false := nB_z.mp (cm_eq9.mp h5)
            refine z_rcs hc hH 1 (pc' := 967) (lv' := [(13, .int (bif decide ((μ.1 56 3) = 1) then (2 : Int32) else 8)), (12, .int 3), (10, .int x10), (11, .int x11), (9, .int (nB b9)), (8, .int (nB b8)), (7, .int x7), (6, .int (nB b6)), (5, .int (nB b5)), (3, .int x3), (2, .int x2), (1, .int x1), (4, .int (nB b4)), (0, .ref 50)]) (st' := [.int 1, .int ((bif decide ((μ.1 56 3) = 1) then (2 : Int32) else 8) * (bif xHi3 μ then (2 : Int32) else 1)), .int f, .ref 50]) (μ' := mGP μ g p f) (by rfl) ?_
            exact zJ hJ4 rfl (by first | with_reducible rfl | (simp only [h5, lb_f, Int64.or_zero, Int32.add_zero, nB_t, nB_f, Bool.not_true, Bool.not_false, Bool.and_true, Bool.true_and, Bool.false_and, Bool.and_false, Bool.or_true, Bool.true_or, Bool.false_or, Bool.or_false, cond_true, cond_false]; done) | rfl) rfl
          · have h5 : (xEn (μ.1 57 3)) = true := nB_n.mp (cn_eq.mp h5)
            refine z_rcs hc hH 2 (pc' := 967) (lv' := [(13, .int (bif decide ((μ.1 56 3) = 1) then (2 : Int32) else 8)), (12, .int 3), (10, .int x10), (11, .int x11), (9, .int (nB b9)), (8, .int (nB b8)), (7, .int x7), (6, .int (nB b6)), (5, .int (nB b5)), (3, .int x3), (2, .int x2), (1, .int x1), (4, .int (nB b4)), (0, .ref 50)]) (st' := [.int 2, .int ((bif decide ((μ.1 56 3) = 1) then (2 : Int32) else 8) * (bif xHi3 μ then (2 : Int32) else 1)), .int f, .ref 50]) (μ' := mGP μ g p f) (by rfl) ?_
            exact zJ hJ4 rfl (by first | with_reducible rfl | (simp only [h5, lb_f, Int64.or_zero, Int32.add_zero, nB_t, nB_f, Bool.not_true, Bool.not_false, Bool.and_true, Bool.true_and, Bool.false_and, Bool.and_false, Bool.or_true, Bool.true_or, Bool.false_or, Bool.or_false, cond_true, cond_false]; done) | rfl) rfl
        refine zq_if hc hH (by rfl) (tg := 947) (by rfl) (fun h6 => ?_) (fun h6 => ?_)
        · have h6 : (xHi3 μ) = false := nB_z.mp (cm_eq9.mp h6)
          refine z_rcs hc hH 1 (pc' := 948) (lv' := [(13, .int (bif decide ((μ.1 56 3) = 1) then (2 : Int32) else 8)), (12, .int 3), (10, .int x10), (11, .int x11), (9, .int (nB b9)), (8, .int (nB b8)), (7, .int x7), (6, .int (nB b6)), (5, .int (nB b5)), (3, .int x3), (2, .int x2), (1, .int x1), (4, .int (nB b4)), (0, .ref 50)]) (st' := [.int 1, .int (bif decide ((μ.1 56 3) = 1) then (2 : Int32) else 8), .int f, .ref 50]) (μ' := mGP μ g p f) (by rfl) ?_
          exact zJ hJ3 rfl (by first | with_reducible rfl | (simp only [h6, lb_f, Int64.or_zero, Int32.add_zero, nB_t, nB_f, Bool.not_true, Bool.not_false, Bool.and_true, Bool.true_and, Bool.false_and, Bool.and_false, Bool.or_true, Bool.true_or, Bool.false_or, Bool.or_false, cond_true, cond_false]; done) | rfl) rfl
        · have h6 : (xHi3 μ) = true := nB_n.mp (cn_eq.mp h6)
          refine z_rcs hc hH 2 (pc' := 948) (lv' := [(13, .int (bif decide ((μ.1 56 3) = 1) then (2 : Int32) else 8)), (12, .int 3), (10, .int x10), (11, .int x11), (9, .int (nB b9)), (8, .int (nB b8)), (7, .int x7), (6, .int (nB b6)), (5, .int (nB b5)), (3, .int x3), (2, .int x2), (1, .int x1), (4, .int (nB b4)), (0, .ref 50)]) (st' := [.int 2, .int (bif decide ((μ.1 56 3) = 1) then (2 : Int32) else 8), .int f, .ref 50]) (μ' := mGP μ g p f) (by rfl) ?_
          exact zJ hJ3 rfl (by first | with_reducible rfl | (simp only [h6, lb_f, Int64.or_zero, Int32.add_zero, nB_t, nB_f, Bool.not_true, Bool.not_false, Bool.and_true, Bool.true_and, Bool.false_and, Bool.and_false, Bool.or_true, Bool.true_or, Bool.false_or, Bool.or_false, cond_true, cond_false]; done) | rfl) rfl
      refine zq_ic hc hH (by rfl) (tg := 923) (by rfl) (fun h7 => ?_) (fun h7 => ?_)
      · have h7 : (decide ((μ.1 56 3) = 1)) = false := decide_eq_false (cm_ne.mp h7)
        refine z_rcs hc hH 1 (pc' := 925) (lv' := [(12, .int 3), (10, .int x10), (11, .int x11), (9, .int (nB b9)), (8, .int (nB b8)), (7, .int x7), (6, .int (nB b6)), (5, .int (nB b5)), (3, .int x3), (2, .int x2), (1, .int x1), (4, .int (nB b4)), (0, .ref 50)]) (st' := [.int 8]) (μ' := mGP μ g p f) (by rfl) ?_
        exact zJ hJ2 rfl (by first | with_reducible rfl | (simp only [h7, lb_f, Int64.or_zero, Int32.add_zero, nB_t, nB_f, Bool.not_true, Bool.not_false, Bool.and_true, Bool.true_and, Bool.false_and, Bool.and_false, Bool.or_true, Bool.true_or, Bool.false_or, Bool.or_false, cond_true, cond_false]; done) | rfl) rfl
      · have h7 : (decide ((μ.1 56 3) = 1)) = true := decide_eq_true (cn_ne.mp h7)
        refine z_rcs hc hH 2 (pc' := 925) (lv' := [(12, .int 3), (10, .int x10), (11, .int x11), (9, .int (nB b9)), (8, .int (nB b8)), (7, .int x7), (6, .int (nB b6)), (5, .int (nB b5)), (3, .int x3), (2, .int x2), (1, .int x1), (4, .int (nB b4)), (0, .ref 50)]) (st' := [.int 2]) (μ' := mGP μ g p f) (by rfl) ?_
        exact zJ hJ2 rfl (by first | with_reducible rfl | (simp only [h7, lb_f, Int64.or_zero, Int32.add_zero, nB_t, nB_f, Bool.not_true, Bool.not_false, Bool.and_true, Bool.true_and, Bool.false_and, Bool.and_false, Bool.or_true, Bool.true_or, Bool.false_or, Bool.or_false, cond_true, cond_false]; done) | rfl) rfl
    · have h1 : (decide ((μ.1 56 3) = 0)) = true := decide_eq_true (cn_ne.mp h1)
      refine z_rcs hc hH 3 (pc' := 889) (lv' := [(12, .int 4), (10, .int x10), (11, .int x11), (9, .int (nB b9)), (8, .int (nB b8)), (7, .int x7), (6, .int (nB b6)), (5, .int (nB b5)), (3, .int x3), (2, .int x2), (1, .int x1), (4, .int (nB b4)), (0, .ref 50)]) (st' := []) (μ' := mGP μ g p f) (by rfl) ?_
      exact zJ K.1 rfl rfl (by simp only [h1, cond_true, cond_false])
  · skip
    refine z_rcs hc hH 6 (pc' := 901) (lv' := [(12, .int 3), (13, .int x13), (10, .int x10), (11, .int x11), (9, .int (nB b9)), (8, .int (nB b8)), (7, .int x7), (6, .int (nB b6)), (5, .int (nB b5)), (3, .int x3), (2, .int x2), (1, .int x1), (4, .int (nB b4)), (0, .ref 50)]) (st' := [.int 3, .ref 56]) (μ' := mGP μ g p f) (by rfl) ?_
    refine zq_iald hc hH (by rfl) 4 (by decide +kernel) (show vp_in (nI 3) 4 from vp_in_nI (by decide) (by decide)) ?_
    show Z 0 902 [(12, .int 3), (13, .int x13), (10, .int x10), (11, .int x11), (9, .int (nB b9)), (8, .int (nB b8)), (7, .int x7), (6, .int (nB b6)), (5, .int (nB b5)), (3, .int x3), (2, .int x2), (1, .int x1), (4, .int (nB b4)), (0, .ref 50)] [.int (μ.1 56 3)] (mGP μ g p f)
    refine zq_if hc hH (by rfl) (tg := 908) (by rfl) (fun h1 => ?_) (fun h1 => ?_)
    · have h1 : (decide ((μ.1 56 3) = 0)) = false := decide_eq_false (cm_ne.mp h1)
      refine z_rcs hc hH 3 (pc' := 914) (lv' := [(12, .int 3), (13, .int x13), (10, .int x10), (11, .int x11), (9, .int (nB b9)), (8, .int (nB b8)), (7, .int x7), (6, .int (nB b6)), (5, .int (nB b5)), (3, .int x3), (2, .int x2), (1, .int x1), (4, .int (nB b4)), (0, .ref 50)]) (st' := [.int 3, .ref 56]) (μ' := mGP μ g p f) (by rfl) ?_
      refine zq_iald hc hH (by rfl) 4 (by decide +kernel) (show vp_in (nI 3) 4 from vp_in_nI (by decide) (by decide)) ?_
      show Z 0 915 [(12, .int 3), (13, .int x13), (10, .int x10), (11, .int x11), (9, .int (nB b9)), (8, .int (nB b8)), (7, .int x7), (6, .int (nB b6)), (5, .int (nB b5)), (3, .int x3), (2, .int x2), (1, .int x1), (4, .int (nB b4)), (0, .ref 50)] [.int (μ.1 56 3)] (mGP μ g p f)
      refine z_rcs hc hH 1 (pc' := 916) (lv' := [(12, .int 3), (13, .int x13), (10, .int x10), (11, .int x11), (9, .int (nB b9)), (8, .int (nB b8)), (7, .int x7), (6, .int (nB b6)), (5, .int (nB b5)), (3, .int x3), (2, .int x2), (1, .int x1), (4, .int (nB b4)), (0, .ref 50)]) (st' := [.int 1, .int (μ.1 56 3)]) (μ' := mGP μ g p f) (by rfl) ?_
      have hJ2 : Z 0 925 [(12, .int 3), (13, .int x13), (10, .int x10), (11, .int x11), (9, .int (nB b9)), (8, .int (nB b8)), (7, .int x7), (6, .int (nB b6)), (5, .int (nB b5)), (3, .int x3), (2, .int x2), (1, .int x1), (4, .int (nB b4)), (0, .ref 50)] [.int (bif decide ((μ.1 56 3) = 1) then (2 : Int32) else 8)] (mGP μ g p f) := by
        refine z_rcs hc hH 7 (pc' := 937) (lv' := [(13, .int (bif decide ((μ.1 56 3) = 1) then (2 : Int32) else 8)), (12, .int 3), (10, .int x10), (11, .int x11), (9, .int (nB b9)), (8, .int (nB b8)), (7, .int x7), (6, .int (nB b6)), (5, .int (nB b5)), (3, .int x3), (2, .int x2), (1, .int x1), (4, .int (nB b4)), (0, .ref 50)]) (st' := [.int 3, .ref 50, .int (bif decide ((μ.1 56 3) = 1) then (2 : Int32) else 8), .int f, .ref 50]) (μ' := mGP μ g p f) (by rfl) ?_
        refine zq_call hc (z_cx_ok hH (by rfl)) (fb_X7_isHidden3 d' (by omega) (mGP μ g p f)) (by decide +kernel) (fun r9 μ9 hq => ?_)
        obtain ⟨hμ9, rfl⟩ := hq
        rw [hμ9]
        clear hμ9 μ9
        show Z 0 940 [(13, .int (bif decide ((μ.1 56 3) = 1) then (2 : Int32) else 8)), (12, .int 3), (10, .int x10), (11, .int x11), (9, .int (nB b9)), (8, .int (nB b8)), (7, .int x7), (6, .int (nB b6)), (5, .int (nB b5)), (3, .int x3), (2, .int x2), (1, .int x1), (4, .int (nB b4)), (0, .ref 50)] [.int (nB (xHi3 μ)), .int (bif decide ((μ.1 56 3) = 1) then (2 : Int32) else 8), .int f, .ref 50] (mGP μ g p f)
        have hJ3 : Z 0 948 [(13, .int (bif decide ((μ.1 56 3) = 1) then (2 : Int32) else 8)), (12, .int 3), (10, .int x10), (11, .int x11), (9, .int (nB b9)), (8, .int (nB b8)), (7, .int x7), (6, .int (nB b6)), (5, .int (nB b5)), (3, .int x3), (2, .int x2), (1, .int x1), (4, .int (nB b4)), (0, .ref 50)] [.int (bif xHi3 μ then (2 : Int32) else 1), .int (bif decide ((μ.1 56 3) = 1) then (2 : Int32) else 8), .int f, .ref 50] (mGP μ g p f) := by
          refine z_rcs hc hH 4 (pc' := 955) (lv' := [(13, .int (bif decide ((μ.1 56 3) = 1) then (2 : Int32) else 8)), (12, .int 3), (10, .int x10), (11, .int x11), (9, .int (nB b9)), (8, .int (nB b8)), (7, .int x7), (6, .int (nB b6)), (5, .int (nB b5)), (3, .int x3), (2, .int x2), (1, .int x1), (4, .int (nB b4)), (0, .ref 50)]) (st' := [.int 3, .ref 57, .int ((bif decide ((μ.1 56 3) = 1) then (2 : Int32) else 8) * (bif xHi3 μ then (2 : Int32) else 1)), .int f, .ref 50]) (μ' := mGP μ g p f) (by rfl) ?_
          refine zq_iald hc hH (by rfl) 4 (by decide +kernel) (show vp_in (nI 3) 4 from vp_in_nI (by decide) (by decide)) ?_
          show Z 0 956 [(13, .int (bif decide ((μ.1 56 3) = 1) then (2 : Int32) else 8)), (12, .int 3), (10, .int x10), (11, .int x11), (9, .int (nB b9)), (8, .int (nB b8)), (7, .int x7), (6, .int (nB b6)), (5, .int (nB b5)), (3, .int x3), (2, .int x2), (1, .int x1), (4, .int (nB b4)), (0, .ref 50)] [.int (μ.1 57 3), .int ((bif decide ((μ.1 56 3) = 1) then (2 : Int32) else 8) * (bif xHi3 μ then (2 : Int32) else 1)), .int f, .ref 50] (mGP μ g p f)
          refine zq_call hc (z_cx_ok hH (by rfl)) (fb_X7_isEnd d' (by omega) (mGP μ g p f) (μ.1 57 3)) (by decide +kernel) (fun r9 μ9 hq => ?_)
          obtain ⟨hμ9, rfl⟩ := hq
          rw [hμ9]
          clear hμ9 μ9
          show Z 0 959 [(13, .int (bif decide ((μ.1 56 3) = 1) then (2 : Int32) else 8)), (12, .int 3), (10, .int x10), (11, .int x11), (9, .int (nB b9)), (8, .int (nB b8)), (7, .int x7), (6, .int (nB b6)), (5, .int (nB b5)), (3, .int x3), (2, .int x2), (1, .int x1), (4, .int (nB b4)), (0, .ref 50)] [.int (nB (xEn (μ.1 57 3))), .int ((bif decide ((μ.1 56 3) = 1) then (2 : Int32) else 8) * (bif xHi3 μ then (2 : Int32) else 1)), .int f, .ref 50] (mGP μ g p f)
          have hJ4 : Z 0 967 [(13, .int (bif decide ((μ.1 56 3) = 1) then (2 : Int32) else 8)), (12, .int 3), (10, .int x10), (11, .int x11), (9, .int (nB b9)), (8, .int (nB b8)), (7, .int x7), (6, .int (nB b6)), (5, .int (nB b5)), (3, .int x3), (2, .int x2), (1, .int x1), (4, .int (nB b4)), (0, .ref 50)] [.int (bif xEn (μ.1 57 3) then (2 : Int32) else 1), .int ((bif decide ((μ.1 56 3) = 1) then (2 : Int32) else 8) * (bif xHi3 μ then (2 : Int32) else 1)), .int f, .ref 50] (mGP μ g p f) := by
            refine z_rcs hc hH 3 (pc' := 972) (lv' := [(13, .int (bif decide ((μ.1 56 3) = 1) then (2 : Int32) else 8)), (12, .int 3), (10, .int x10), (11, .int x11), (9, .int (nB b9)), (8, .int (nB b8)), (7, .int x7), (6, .int (nB b6)), (5, .int (nB b5)), (3, .int x3), (2, .int x2), (1, .int x1), (4, .int (nB b4)), (0, .ref 50)]) (st' := []) (μ' := z_ui (mGP μ g p f) 50 23 (f + (((bif decide ((μ.1 56 3) = 1) then (2 : Int32) else 8) * (bif xHi3 μ then (2 : Int32) else 1)) * (bif xEn (μ.1 57 3) then (2 : Int32) else 1)))) (by rfl) ?_
            rw [mGP_f]
            refine z_rcs hc hH 2 (pc' := 889) (lv' := [(12, .int 4), (13, .int (bif decide ((μ.1 56 3) = 1) then (2 : Int32) else 8)), (10, .int x10), (11, .int x11), (9, .int (nB b9)), (8, .int (nB b8)), (7, .int x7), (6, .int (nB b6)), (5, .int (nB b5)), (3, .int x3), (2, .int x2), (1, .int x1), (4, .int (nB b4)), (0, .ref 50)]) (st' := []) (μ' := mGP μ g p (f + (((bif decide ((μ.1 56 3) = 1) then (2 : Int32) else 8) * (bif xHi3 μ then (2 : Int32) else 1)) * (bif xEn (μ.1 57 3) then (2 : Int32) else 1)))) (by rfl) ?_
            exact zJ (K.2 _) rfl rfl (by simp only [h1, cond_true, cond_false])
          refine zq_if hc hH (by rfl) (tg := 966) (by rfl) (fun h5 => ?_) (fun h5 => ?_)
          · have h5 : (xEn (μ.1 57 3)) = false := nB_z.mp (cm_eq9.mp h5)
            refine z_rcs hc hH 1 (pc' := 967) (lv' := [(13, .int (bif decide ((μ.1 56 3) = 1) then (2 : Int32) else 8)), (12, .int 3), (10, .int x10), (11, .int x11), (9, .int (nB b9)), (8, .int (nB b8)), (7, .int x7), (6, .int (nB b6)), (5, .int (nB b5)), (3, .int x3), (2, .int x2), (1, .int x1), (4, .int (nB b4)), (0, .ref 50)]) (st' := [.int 1, .int ((bif decide ((μ.1 56 3) = 1) then (2 : Int32) else 8) * (bif xHi3 μ then (2 : Int32) else 1)), .int f, .ref 50]) (μ' := mGP μ g p f) (by rfl) ?_
            exact zJ hJ4 rfl (by first | with_reducible rfl | (simp only [h5, lb_f, Int64.or_zero, Int32.add_zero, nB_t, nB_f, Bool.not_true, Bool.not_false, Bool.and_true, Bool.true_and, Bool.false_and, Bool.and_false, Bool.or_true, Bool.true_or, Bool.false_or, Bool.or_false, cond_true, cond_false]; done) | rfl) rfl
          · have h5 : (xEn (μ.1 57 3)) = true := nB_n.mp (cn_eq.mp h5)
            refine z_rcs hc hH 2 (pc' := 967) (lv' := [(13, .int (bif decide ((μ.1 56 3) = 1) then (2 : Int32) else 8)), (12, .int 3), (10, .int x10), (11, .int x11), (9, .int (nB b9)), (8, .int (nB b8)), (7, .int x7), (6, .int (nB b6)), (5, .int (nB b5)), (3, .int x3), (2, .int x2), (1, .int x1), (4, .int (nB b4)), (0, .ref 50)]) (st' := [.int 2, .int ((bif decide ((μ.1 56 3) = 1) then (2 : Int32) else 8) * (bif xHi3 μ then (2 : Int32) else 1)), .int f, .ref 50]) (μ' := mGP μ g p f) (by rfl) ?_
            exact zJ hJ4 rfl (by first | with_reducible rfl | (simp only [h5, lb_f, Int64.or_zero, Int32.add_zero, nB_t, nB_f, Bool.not_true, Bool.not_false, Bool.and_true, Bool.true_and, Bool.false_and, Bool.and_false, Bool.or_true, Bool.true_or, Bool.false_or, Bool.or_false, cond_true, cond_false]; done) | rfl) rfl
        refine zq_if hc hH (by rfl) (tg := 947) (by rfl) (fun h6 => ?_) (fun h6 => ?_)
        · have h6 : (xHi3 μ) = false := nB_z.mp (cm_eq9.mp h6)
          refine z_rcs hc hH 1 (pc' := 948) (lv' := [(13, .int (bif decide ((μ.1 56 3) = 1) then (2 : Int32) else 8)), (12, .int 3), (10, .int x10), (11, .int x11), (9, .int (nB b9)), (8, .int (nB b8)), (7, .int x7), (6, .int (nB b6)), (5, .int (nB b5)), (3, .int x3), (2, .int x2), (1, .int x1), (4, .int (nB b4)), (0, .ref 50)]) (st' := [.int 1, .int (bif decide ((μ.1 56 3) = 1) then (2 : Int32) else 8), .int f, .ref 50]) (μ' := mGP μ g p f) (by rfl) ?_
          exact zJ hJ3 rfl (by first | with_reducible rfl | (simp only [h6, lb_f, Int64.or_zero, Int32.add_zero, nB_t, nB_f, Bool.not_true, Bool.not_false, Bool.and_true, Bool.true_and, Bool.false_and, Bool.and_false, Bool.or_true, Bool.true_or, Bool.false_or, Bool.or_false, cond_true, cond_false]; done) | rfl) rfl
        · have h6 : (xHi3 μ) = true := nB_n.mp (cn_eq.mp h6)
          refine z_rcs hc hH 2 (pc' := 948) (lv' := [(13, .int (bif decide ((μ.1 56 3) = 1) then (2 : Int32) else 8)), (12, .int 3), (10, .int x10), (11, .int x11), (9, .int (nB b9)), (8, .int (nB b8)), (7, .int x7), (6, .int (nB b6)), (5, .int (nB b5)), (3, .int x3), (2, .int x2), (1, .int x1), (4, .int (nB b4)), (0, .ref 50)]) (st' := [.int 2, .int (bif decide ((μ.1 56 3) = 1) then (2 : Int32) else 8), .int f, .ref 50]) (μ' := mGP μ g p f) (by rfl) ?_
          exact zJ hJ3 rfl (by first | with_reducible rfl | (simp only [h6, lb_f, Int64.or_zero, Int32.add_zero, nB_t, nB_f, Bool.not_true, Bool.not_false, Bool.and_true, Bool.true_and, Bool.false_and, Bool.and_false, Bool.or_true, Bool.true_or, Bool.false_or, Bool.or_false, cond_true, cond_false]; done) | rfl) rfl
      refine zq_ic hc hH (by rfl) (tg := 923) (by rfl) (fun h7 => ?_) (fun h7 => ?_)
      · have h7 : (decide ((μ.1 56 3) = 1)) = false := decide_eq_false (cm_ne.mp h7)
        refine z_rcs hc hH 1 (pc' := 925) (lv' := [(12, .int 3), (13, .int x13), (10, .int x10), (11, .int x11), (9, .int (nB b9)), (8, .int (nB b8)), (7, .int x7), (6, .int (nB b6)), (5, .int (nB b5)), (3, .int x3), (2, .int x2), (1, .int x1), (4, .int (nB b4)), (0, .ref 50)]) (st' := [.int 8]) (μ' := mGP μ g p f) (by rfl) ?_
        exact zJ hJ2 rfl (by first | with_reducible rfl | (simp only [h7, lb_f, Int64.or_zero, Int32.add_zero, nB_t, nB_f, Bool.not_true, Bool.not_false, Bool.and_true, Bool.true_and, Bool.false_and, Bool.and_false, Bool.or_true, Bool.true_or, Bool.false_or, Bool.or_false, cond_true, cond_false]; done) | rfl) rfl
      · have h7 : (decide ((μ.1 56 3) = 1)) = true := decide_eq_true (cn_ne.mp h7)
        refine z_rcs hc hH 2 (pc' := 925) (lv' := [(12, .int 3), (13, .int x13), (10, .int x10), (11, .int x11), (9, .int (nB b9)), (8, .int (nB b8)), (7, .int x7), (6, .int (nB b6)), (5, .int (nB b5)), (3, .int x3), (2, .int x2), (1, .int x1), (4, .int (nB b4)), (0, .ref 50)]) (st' := [.int 2]) (μ' := mGP μ g p f) (by rfl) ?_
        exact zJ hJ2 rfl (by first | with_reducible rfl | (simp only [h7, lb_f, Int64.or_zero, Int32.add_zero, nB_t, nB_f, Bool.not_true, Bool.not_false, Bool.and_true, Bool.true_and, Bool.false_and, Bool.and_false, Bool.or_true, Bool.true_or, Bool.false_or, Bool.or_false, cond_true, cond_false]; done) | rfl) rfl
    · have h1 : (decide ((μ.1 56 3) = 0)) = true := decide_eq_true (cn_ne.mp h1)
      refine z_rcs hc hH 3 (pc' := 889) (lv' := [(12, .int 4), (13, .int x13), (10, .int x10), (11, .int x11), (9, .int (nB b9)), (8, .int (nB b8)), (7, .int x7), (6, .int (nB b6)), (5, .int (nB b5)), (3, .int x3), (2, .int x2), (1, .int x1), (4, .int (nB b4)), (0, .ref 50)]) (st' := []) (μ' := mGP μ g p f) (by rfl) ?_
      exact zJ (K.2 _) rfl rfl (by simp only [h1, cond_true, cond_false])
theorem fu889_4 (d' : Nat) (Z : zK) (hd : 4 ≤ d') (μ : zM) (q : Nat) (hq : q ≤ 4) (e4 : μ.1 50 4 = nI q) (s l : Nat → Nat) (hA : AY μ s l) (hco : vp_in (μ.1 50 22) 5) (hc : z_clo z_x0 mi_X7_firstSort (z_C d') Z) (x10 : Int32) (x11 : Int32) (b9 : Bool) (b8 : Bool) (x7 : Int32) (b6 : Bool) (b5 : Bool) (x3 : Int32) (x2 : Int32) (x1 : Int32) (b4 : Bool) (g p : Int64) (f : Int32) (K : Z 0 978 [(12, .int 4), (10, .int x10), (11, .int x11), (9, .int (nB b9)), (8, .int (nB b8)), (7, .int x7), (6, .int (nB b6)), (5, .int (nB b5)), (3, .int x3), (2, .int x2), (1, .int x1), (4, .int (nB b4)), (0, .ref 50)] [] (mGP μ g p f) ∧ ∀ x13, Z 0 978 [(12, .int 4), (13, .int x13), (10, .int x10), (11, .int x11), (9, .int (nB b9)), (8, .int (nB b8)), (7, .int x7), (6, .int (nB b6)), (5, .int (nB b5)), (3, .int x3), (2, .int x2), (1, .int x1), (4, .int (nB b4)), (0, .ref 50)] [] (mGP μ g p f)) : Z 0 889 [(12, .int 4), (10, .int x10), (11, .int x11), (9, .int (nB b9)), (8, .int (nB b8)), (7, .int x7), (6, .int (nB b6)), (5, .int (nB b5)), (3, .int x3), (2, .int x2), (1, .int x1), (4, .int (nB b4)), (0, .ref 50)] [] (mGP μ g p f) ∧ ∀ x13, Z 0 889 [(12, .int 4), (13, .int x13), (10, .int x10), (11, .int x11), (9, .int (nB b9)), (8, .int (nB b8)), (7, .int x7), (6, .int (nB b6)), (5, .int (nB b5)), (3, .int x3), (2, .int x2), (1, .int x1), (4, .int (nB b4)), (0, .ref 50)] [] (mGP μ g p f) := by
  have hH : zH mi_X7_firstSort zt_X7_firstSort 79 7 14 := hh_X7_firstSort
  refine ⟨?_, fun x13 => ?_⟩
  · skip
    refine z_rcs hc hH 3 (pc' := 978) (lv' := [(12, .int 4), (10, .int x10), (11, .int x11), (9, .int (nB b9)), (8, .int (nB b8)), (7, .int x7), (6, .int (nB b6)), (5, .int (nB b5)), (3, .int x3), (2, .int x2), (1, .int x1), (4, .int (nB b4)), (0, .ref 50)]) (st' := []) (μ' := mGP μ g p f) (by rfl) ?_
    exact zJ K.1 rfl rfl (by rfl)
  · skip
    refine z_rcs hc hH 3 (pc' := 978) (lv' := [(12, .int 4), (13, .int x13), (10, .int x10), (11, .int x11), (9, .int (nB b9)), (8, .int (nB b8)), (7, .int x7), (6, .int (nB b6)), (5, .int (nB b5)), (3, .int x3), (2, .int x2), (1, .int x1), (4, .int (nB b4)), (0, .ref 50)]) (st' := []) (μ' := mGP μ g p f) (by rfl) ?_
    exact zJ (K.2 _) rfl rfl (by rfl)
theorem fs978A (d' : Nat) (Z : zK) (hd : 4 ≤ d') (μ : zM) (q : Nat) (hq : q ≤ 4) (e4 : μ.1 50 4 = nI q) (s l : Nat → Nat) (hA : AY μ s l) (hco : vp_in (μ.1 50 22) 5) (hc : z_clo z_x0 mi_X7_firstSort (z_C d') Z) (x10 : Int32) (x11 : Int32) (b9 : Bool) (b8 : Bool) (x7 : Int32) (b6 : Bool) (b5 : Bool) (x3 : Int32) (x2 : Int32) (x1 : Int32) (b4 : Bool) (g p : Int64) (f : Int32) (K : Z 0 1136 [(12, .int 4), (10, .int x10), (11, .int x11), (9, .int (nB b9)), (8, .int (nB b8)), (7, .int x7), (6, .int (nB b6)), (5, .int (nB b5)), (3, .int x3), (2, .int x2), (1, .int x1), (4, .int (nB b4)), (0, .ref 50)] [.int (nB b4), .ref 50] (mGP μ g p (bif b4 then bif decide (30 ≤ ((((((((f + (bif xDr (μ.1 50 21) then (2 : Int32) else (0 : Int32))) + (bif decide ((μ.1 50 21) = (27 + (μ.1 50 8))) then (2 : Int32) else (0 : Int32))) + (bif decide ((μ.1 50 21) = (27 + (μ.1 50 9))) then (2 : Int32) else (0 : Int32))) + (bif decide ((μ.1 50 22) = 4) then (2 : Int32) else bif b6 then bif b8 then (0 : Int32) else (2 : Int32) else (0 : Int32))) + (bif decide ((μ.1 50 11) = 0) then (0 : Int32) else bif b9 then (0 : Int32) else (2 : Int32))) + 9) / 10) * 10)) then (((((((f + (bif xDr (μ.1 50 21) then (2 : Int32) else (0 : Int32))) + (bif decide ((μ.1 50 21) = (27 + (μ.1 50 8))) then (2 : Int32) else (0 : Int32))) + (bif decide ((μ.1 50 21) = (27 + (μ.1 50 9))) then (2 : Int32) else (0 : Int32))) + (bif decide ((μ.1 50 22) = 4) then (2 : Int32) else bif b6 then bif b8 then (0 : Int32) else (2 : Int32) else (0 : Int32))) + (bif decide ((μ.1 50 11) = 0) then (0 : Int32) else bif b9 then (0 : Int32) else (2 : Int32))) + 9) / 10) * 10 else (30 : Int32) else (((((((f + (bif xDr (μ.1 50 21) then (2 : Int32) else (0 : Int32))) + (bif decide ((μ.1 50 21) = (27 + (μ.1 50 8))) then (2 : Int32) else (0 : Int32))) + (bif decide ((μ.1 50 21) = (27 + (μ.1 50 9))) then (2 : Int32) else (0 : Int32))) + (bif decide ((μ.1 50 22) = 4) then (2 : Int32) else bif b6 then bif b8 then (0 : Int32) else (2 : Int32) else (0 : Int32))) + (bif decide ((μ.1 50 11) = 0) then (0 : Int32) else bif b9 then (0 : Int32) else (2 : Int32))) + 9) / 10) * 10))) : Z 0 978 [(12, .int 4), (10, .int x10), (11, .int x11), (9, .int (nB b9)), (8, .int (nB b8)), (7, .int x7), (6, .int (nB b6)), (5, .int (nB b5)), (3, .int x3), (2, .int x2), (1, .int x1), (4, .int (nB b4)), (0, .ref 50)] [] (mGP μ g p f) := by
  have hH : zH mi_X7_firstSort zt_X7_firstSort 79 7 14 := hh_X7_firstSort
  refine z_rcs hc hH 2 (pc' := 982) (lv' := [(12, .int 4), (10, .int x10), (11, .int x11), (9, .int (nB b9)), (8, .int (nB b8)), (7, .int x7), (6, .int (nB b6)), (5, .int (nB b5)), (3, .int x3), (2, .int x2), (1, .int x1), (4, .int (nB b4)), (0, .ref 50)]) (st' := [.int (μ.1 50 21)]) (μ' := mGP μ g p f) (by rfl) ?_
  refine zq_call hc (z_cx_ok hH (by rfl)) (fb_X7_isDragon d' (by omega) (mGP μ g p f) (μ.1 50 21)) (by decide +kernel) (fun r9 μ9 hq => ?_)
  obtain ⟨hμ9, rfl⟩ := hq
  rw [hμ9]
  clear hμ9 μ9
  show Z 0 985 [(12, .int 4), (10, .int x10), (11, .int x11), (9, .int (nB b9)), (8, .int (nB b8)), (7, .int x7), (6, .int (nB b6)), (5, .int (nB b5)), (3, .int x3), (2, .int x2), (1, .int x1), (4, .int (nB b4)), (0, .ref 50)] [.int (nB (xDr (μ.1 50 21)))] (mGP μ g p f)
  have hJ1 : Z 0 998 [(12, .int 4), (10, .int x10), (11, .int x11), (9, .int (nB b9)), (8, .int (nB b8)), (7, .int x7), (6, .int (nB b6)), (5, .int (nB b5)), (3, .int x3), (2, .int x2), (1, .int x1), (4, .int (nB b4)), (0, .ref 50)] [] (mGP μ g p (f + (bif xDr (μ.1 50 21) then (2 : Int32) else (0 : Int32)))) := by
    refine z_rcs0 hc hH 6 (pc' := 1009) (lv' := [(12, .int 4), (10, .int x10), (11, .int x11), (9, .int (nB b9)), (8, .int (nB b8)), (7, .int x7), (6, .int (nB b6)), (5, .int (nB b5)), (3, .int x3), (2, .int x2), (1, .int x1), (4, .int (nB b4)), (0, .ref 50)]) (st' := [.int (27 + (μ.1 50 8)), .int (μ.1 50 21)]) (by rfl) ?_
    have hJ2 : Z 0 1022 [(12, .int 4), (10, .int x10), (11, .int x11), (9, .int (nB b9)), (8, .int (nB b8)), (7, .int x7), (6, .int (nB b6)), (5, .int (nB b5)), (3, .int x3), (2, .int x2), (1, .int x1), (4, .int (nB b4)), (0, .ref 50)] [] (mGP μ g p ((f + (bif xDr (μ.1 50 21) then (2 : Int32) else (0 : Int32))) + (bif decide ((μ.1 50 21) = (27 + (μ.1 50 8))) then (2 : Int32) else (0 : Int32)))) := by
      generalize hyy3 : ((f + (bif xDr (μ.1 50 21) then (2 : Int32) else (0 : Int32))) + (bif decide ((μ.1 50 21) = (27 + (μ.1 50 8))) then (2 : Int32) else (0 : Int32)) : Int32) = yy3
      refine z_rcs hc hH 6 (pc' := 1033) (lv' := [(12, .int 4), (10, .int x10), (11, .int x11), (9, .int (nB b9)), (8, .int (nB b8)), (7, .int x7), (6, .int (nB b6)), (5, .int (nB b5)), (3, .int x3), (2, .int x2), (1, .int x1), (4, .int (nB b4)), (0, .ref 50)]) (st' := [.int (27 + (μ.1 50 9)), .int (μ.1 50 21)]) (μ' := mGP μ g p yy3) (by rfl) ?_
      have hJ4 : Z 0 1046 [(12, .int 4), (10, .int x10), (11, .int x11), (9, .int (nB b9)), (8, .int (nB b8)), (7, .int x7), (6, .int (nB b6)), (5, .int (nB b5)), (3, .int x3), (2, .int x2), (1, .int x1), (4, .int (nB b4)), (0, .ref 50)] [] (mGP μ g p (yy3 + (bif decide ((μ.1 50 21) = (27 + (μ.1 50 9))) then (2 : Int32) else (0 : Int32)))) := by
        generalize hyy5 : (yy3 + (bif decide ((μ.1 50 21) = (27 + (μ.1 50 9))) then (2 : Int32) else (0 : Int32)) : Int32) = yy5
        refine z_rcs hc hH 3 (pc' := 1051) (lv' := [(12, .int 4), (10, .int x10), (11, .int x11), (9, .int (nB b9)), (8, .int (nB b8)), (7, .int x7), (6, .int (nB b6)), (5, .int (nB b5)), (3, .int x3), (2, .int x2), (1, .int x1), (4, .int (nB b4)), (0, .ref 50)]) (st' := [.int 4, .int (μ.1 50 22)]) (μ' := mGP μ g p yy5) (by rfl) ?_
        have hJ6 : Z 0 1074 [(12, .int 4), (10, .int x10), (11, .int x11), (9, .int (nB b9)), (8, .int (nB b8)), (7, .int x7), (6, .int (nB b6)), (5, .int (nB b5)), (3, .int x3), (2, .int x2), (1, .int x1), (4, .int (nB b4)), (0, .ref 50)] [] (mGP μ g p (yy5 + (bif decide ((μ.1 50 22) = 4) then (2 : Int32) else bif b6 then bif b8 then (0 : Int32) else (2 : Int32) else (0 : Int32)))) := by
          generalize hyy7 : (yy5 + (bif decide ((μ.1 50 22) = 4) then (2 : Int32) else bif b6 then bif b8 then (0 : Int32) else (2 : Int32) else (0 : Int32)) : Int32) = yy7
          refine z_rcs hc hH 2 (pc' := 1078) (lv' := [(12, .int 4), (10, .int x10), (11, .int x11), (9, .int (nB b9)), (8, .int (nB b8)), (7, .int x7), (6, .int (nB b6)), (5, .int (nB b5)), (3, .int x3), (2, .int x2), (1, .int x1), (4, .int (nB b4)), (0, .ref 50)]) (st' := [.int (μ.1 50 11)]) (μ' := mGP μ g p yy7) (by rfl) ?_
          have hJ8 : Z 0 1096 [(12, .int 4), (10, .int x10), (11, .int x11), (9, .int (nB b9)), (8, .int (nB b8)), (7, .int x7), (6, .int (nB b6)), (5, .int (nB b5)), (3, .int x3), (2, .int x2), (1, .int x1), (4, .int (nB b4)), (0, .ref 50)] [] (mGP μ g p (yy7 + (bif decide ((μ.1 50 11) = 0) then (0 : Int32) else bif b9 then (0 : Int32) else (2 : Int32)))) := by
            generalize hyy9 : (yy7 + (bif decide ((μ.1 50 11) = 0) then (0 : Int32) else bif b9 then (0 : Int32) else (2 : Int32)) : Int32) = yy9
            refine z_rcs hc hH 10 (pc' := 1113) (lv' := [(12, .int 4), (10, .int x10), (11, .int x11), (9, .int (nB b9)), (8, .int (nB b8)), (7, .int x7), (6, .int (nB b6)), (5, .int (nB b5)), (3, .int x3), (2, .int x2), (1, .int x1), (4, .int (nB b4)), (0, .ref 50)]) (st' := []) (μ' := z_ui (mGP μ g p yy9) 50 23 (((yy9 + 9) / 10) * 10)) (by rfl) ?_
            rw [mGP_f]
            refine z_rcs hc hH 1 (pc' := 1115) (lv' := [(12, .int 4), (10, .int x10), (11, .int x11), (9, .int (nB b9)), (8, .int (nB b8)), (7, .int x7), (6, .int (nB b6)), (5, .int (nB b5)), (3, .int x3), (2, .int x2), (1, .int x1), (4, .int (nB b4)), (0, .ref 50)]) (st' := [.int (nB b4)]) (μ' := mGP μ g p (((yy9 + 9) / 10) * 10)) (by rfl) ?_
            have hJ10 : Z 0 1133 [(12, .int 4), (10, .int x10), (11, .int x11), (9, .int (nB b9)), (8, .int (nB b8)), (7, .int x7), (6, .int (nB b6)), (5, .int (nB b5)), (3, .int x3), (2, .int x2), (1, .int x1), (4, .int (nB b4)), (0, .ref 50)] [] (mGP μ g p (bif b4 then bif decide (30 ≤ (((yy9 + 9) / 10) * 10)) then ((yy9 + 9) / 10) * 10 else (30 : Int32) else ((yy9 + 9) / 10) * 10)) := by
              generalize hyy11 : (bif b4 then bif decide (30 ≤ (((yy9 + 9) / 10) * 10)) then ((yy9 + 9) / 10) * 10 else (30 : Int32) else ((yy9 + 9) / 10) * 10 : Int32) = yy11
              refine z_rcs hc hH 2 (pc' := 1136) (lv' := [(12, .int 4), (10, .int x10), (11, .int x11), (9, .int (nB b9)), (8, .int (nB b8)), (7, .int x7), (6, .int (nB b6)), (5, .int (nB b5)), (3, .int x3), (2, .int x2), (1, .int x1), (4, .int (nB b4)), (0, .ref 50)]) (st' := [.int (nB b4), .ref 50]) (μ' := mGP μ g p yy11) (by rfl) ?_
              subst hyy11
              subst hyy9
              subst hyy7
              subst hyy5
              subst hyy3
              exact K
            refine zq_if hc hH (by rfl) (tg := 1133) (by rfl) (fun h12 => ?_) (fun h12 => ?_)
            · have h12 : (b4) = false := nB_z.mp (cm_eq9.mp h12)
              exact zJ hJ10 rfl rfl (by first | with_reducible rfl | (simp only [h12, lb_f, Int64.or_zero, Int32.add_zero, nB_t, nB_f, Bool.not_true, Bool.not_false, Bool.and_true, Bool.true_and, Bool.false_and, Bool.and_false, Bool.or_true, Bool.true_or, Bool.false_or, Bool.or_false, cond_true, cond_false]; done) | rfl)
            · have h12 : (b4) = true := nB_n.mp (cn_eq.mp h12)
              refine z_rcs hc hH 3 (pc' := 1124) (lv' := [(12, .int 4), (10, .int x10), (11, .int x11), (9, .int (nB b9)), (8, .int (nB b8)), (7, .int x7), (6, .int (nB b6)), (5, .int (nB b5)), (3, .int x3), (2, .int x2), (1, .int x1), (4, .int (nB b4)), (0, .ref 50)]) (st' := [.int 30, .int (((yy9 + 9) / 10) * 10)]) (μ' := mGP μ g p (((yy9 + 9) / 10) * 10)) (by rfl) ?_
              refine zq_ic hc hH (by rfl) (tg := 1133) (by rfl) (fun h13 => ?_) (fun h13 => ?_)
              · have h13 : (decide (30 ≤ (((yy9 + 9) / 10) * 10))) = true := decide_eq_true (cm_ge.mp h13)
                exact zJ hJ10 rfl rfl (by first | with_reducible rfl | (simp only [h12, h13, lb_f, Int64.or_zero, Int32.add_zero, nB_t, nB_f, Bool.not_true, Bool.not_false, Bool.and_true, Bool.true_and, Bool.false_and, Bool.and_false, Bool.or_true, Bool.true_or, Bool.false_or, Bool.or_false, cond_true, cond_false]; done) | rfl)
              · have h13 : (decide (30 ≤ (((yy9 + 9) / 10) * 10))) = false := decide_eq_false (cn_ge.mp h13)
                refine z_rcs hc hH 3 (pc' := 1133) (lv' := [(12, .int 4), (10, .int x10), (11, .int x11), (9, .int (nB b9)), (8, .int (nB b8)), (7, .int x7), (6, .int (nB b6)), (5, .int (nB b5)), (3, .int x3), (2, .int x2), (1, .int x1), (4, .int (nB b4)), (0, .ref 50)]) (st' := []) (μ' := z_ui (mGP μ g p (((yy9 + 9) / 10) * 10)) 50 23 (30 : Int32)) (by rfl) ?_
                rw [mGP_f]
                exact zJ hJ10 rfl rfl (by first | with_reducible rfl | (simp only [h12, h13, lb_f, Int64.or_zero, Int32.add_zero, nB_t, nB_f, Bool.not_true, Bool.not_false, Bool.and_true, Bool.true_and, Bool.false_and, Bool.and_false, Bool.or_true, Bool.true_or, Bool.false_or, Bool.or_false, cond_true, cond_false]; done) | rfl)
          refine zq_if hc hH (by rfl) (tg := 1096) (by rfl) (fun h14 => ?_) (fun h14 => ?_)
          · have h14 : (decide ((μ.1 50 11) = 0)) = true := decide_eq_true (cm_eq9.mp h14)
            exact zJ hJ8 rfl rfl (by first | with_reducible rfl | (simp only [h14, lb_f, Int64.or_zero, Int32.add_zero, nB_t, nB_f, Bool.not_true, Bool.not_false, Bool.and_true, Bool.true_and, Bool.false_and, Bool.and_false, Bool.or_true, Bool.true_or, Bool.false_or, Bool.or_false, cond_true, cond_false]; done) | rfl)
          · have h14 : (decide ((μ.1 50 11) = 0)) = false := decide_eq_false (cn_eq.mp h14)
            refine z_rcs hc hH 1 (pc' := 1083) (lv' := [(12, .int 4), (10, .int x10), (11, .int x11), (9, .int (nB b9)), (8, .int (nB b8)), (7, .int x7), (6, .int (nB b6)), (5, .int (nB b5)), (3, .int x3), (2, .int x2), (1, .int x1), (4, .int (nB b4)), (0, .ref 50)]) (st' := [.int (nB b9)]) (μ' := mGP μ g p yy7) (by rfl) ?_
            refine zq_if hc hH (by rfl) (tg := 1096) (by rfl) (fun h15 => ?_) (fun h15 => ?_)
            · have h15 : (b9) = true := nB_n.mp (cm_ne.mp h15)
              exact zJ hJ8 rfl rfl (by first | with_reducible rfl | (simp only [h14, h15, lb_f, Int64.or_zero, Int32.add_zero, nB_t, nB_f, Bool.not_true, Bool.not_false, Bool.and_true, Bool.true_and, Bool.false_and, Bool.and_false, Bool.or_true, Bool.true_or, Bool.false_or, Bool.or_false, cond_true, cond_false]; done) | rfl)
            · have h15 : (b9) = false := nB_z.mp (cn_ne.mp h15)
              refine z_rcs hc hH 6 (pc' := 1096) (lv' := [(12, .int 4), (10, .int x10), (11, .int x11), (9, .int (nB b9)), (8, .int (nB b8)), (7, .int x7), (6, .int (nB b6)), (5, .int (nB b5)), (3, .int x3), (2, .int x2), (1, .int x1), (4, .int (nB b4)), (0, .ref 50)]) (st' := []) (μ' := z_ui (mGP μ g p yy7) 50 23 (yy7 + 2)) (by rfl) ?_
              rw [mGP_f]
              exact zJ hJ8 rfl rfl (by first | with_reducible rfl | (simp only [h14, h15, lb_f, Int64.or_zero, Int32.add_zero, nB_t, nB_f, Bool.not_true, Bool.not_false, Bool.and_true, Bool.true_and, Bool.false_and, Bool.and_false, Bool.or_true, Bool.true_or, Bool.false_or, Bool.or_false, cond_true, cond_false]; done) | rfl)
        refine zq_ic hc hH (by rfl) (tg := 1064) (by rfl) (fun h16 => ?_) (fun h16 => ?_)
        · have h16 : (decide ((μ.1 50 22) = 4)) = true := decide_eq_true (cm_eq9.mp h16)
          refine z_rcs hc hH 6 (pc' := 1074) (lv' := [(12, .int 4), (10, .int x10), (11, .int x11), (9, .int (nB b9)), (8, .int (nB b8)), (7, .int x7), (6, .int (nB b6)), (5, .int (nB b5)), (3, .int x3), (2, .int x2), (1, .int x1), (4, .int (nB b4)), (0, .ref 50)]) (st' := []) (μ' := z_ui (mGP μ g p yy5) 50 23 (yy5 + 2)) (by rfl) ?_
          rw [mGP_f]
          exact zJ hJ6 rfl rfl (by first | with_reducible rfl | (simp only [h16, lb_f, Int64.or_zero, Int32.add_zero, nB_t, nB_f, Bool.not_true, Bool.not_false, Bool.and_true, Bool.true_and, Bool.false_and, Bool.and_false, Bool.or_true, Bool.true_or, Bool.false_or, Bool.or_false, cond_true, cond_false]; done) | rfl)
        · have h16 : (decide ((μ.1 50 22) = 4)) = false := decide_eq_false (cn_eq.mp h16)
          refine z_rcs hc hH 1 (pc' := 1056) (lv' := [(12, .int 4), (10, .int x10), (11, .int x11), (9, .int (nB b9)), (8, .int (nB b8)), (7, .int x7), (6, .int (nB b6)), (5, .int (nB b5)), (3, .int x3), (2, .int x2), (1, .int x1), (4, .int (nB b4)), (0, .ref 50)]) (st' := [.int (nB b6)]) (μ' := mGP μ g p yy5) (by rfl) ?_
          refine zq_if hc hH (by rfl) (tg := 1074) (by rfl) (fun h17 => ?_) (fun h17 => ?_)
          · have h17 : (b6) = false := nB_z.mp (cm_eq9.mp h17)
            exact zJ hJ6 rfl rfl (by first | with_reducible rfl | (simp only [h16, h17, lb_f, Int64.or_zero, Int32.add_zero, nB_t, nB_f, Bool.not_true, Bool.not_false, Bool.and_true, Bool.true_and, Bool.false_and, Bool.and_false, Bool.or_true, Bool.true_or, Bool.false_or, Bool.or_false, cond_true, cond_false]; done) | rfl)
          · have h17 : (b6) = true := nB_n.mp (cn_eq.mp h17)
            refine z_rcs hc hH 1 (pc' := 1061) (lv' := [(12, .int 4), (10, .int x10), (11, .int x11), (9, .int (nB b9)), (8, .int (nB b8)), (7, .int x7), (6, .int (nB b6)), (5, .int (nB b5)), (3, .int x3), (2, .int x2), (1, .int x1), (4, .int (nB b4)), (0, .ref 50)]) (st' := [.int (nB b8)]) (μ' := mGP μ g p yy5) (by rfl) ?_
            refine zq_if hc hH (by rfl) (tg := 1074) (by rfl) (fun h18 => ?_) (fun h18 => ?_)
            · have h18 : (b8) = true := nB_n.mp (cm_ne.mp h18)
              exact zJ hJ6 rfl rfl (by first | with_reducible rfl | (simp only [h16, h17, h18, lb_f, Int64.or_zero, Int32.add_zero, nB_t, nB_f, Bool.not_true, Bool.not_false, Bool.and_true, Bool.true_and, Bool.false_and, Bool.and_false, Bool.or_true, Bool.true_or, Bool.false_or, Bool.or_false, cond_true, cond_false]; done) | rfl)
            · have h18 : (b8) = false := nB_z.mp (cn_ne.mp h18)
              refine z_rcs hc hH 6 (pc' := 1074) (lv' := [(12, .int 4), (10, .int x10), (11, .int x11), (9, .int (nB b9)), (8, .int (nB b8)), (7, .int x7), (6, .int (nB b6)), (5, .int (nB b5)), (3, .int x3), (2, .int x2), (1, .int x1), (4, .int (nB b4)), (0, .ref 50)]) (st' := []) (μ' := z_ui (mGP μ g p yy5) 50 23 (yy5 + 2)) (by rfl) ?_
              rw [mGP_f]
              exact zJ hJ6 rfl rfl (by first | with_reducible rfl | (simp only [h16, h17, h18, lb_f, Int64.or_zero, Int32.add_zero, nB_t, nB_f, Bool.not_true, Bool.not_false, Bool.and_true, Bool.true_and, Bool.false_and, Bool.and_false, Bool.or_true, Bool.true_or, Bool.false_or, Bool.or_false, cond_true, cond_false]; done) | rfl)
      refine zq_ic hc hH (by rfl) (tg := 1046) (by rfl) (fun h19 => ?_) (fun h19 => ?_)
      · have h19 : (decide ((μ.1 50 21) = (27 + (μ.1 50 9)))) = false := decide_eq_false (cm_ne.mp h19)
        exact zJ hJ4 rfl rfl (by first | with_reducible rfl | (simp only [h19, lb_f, Int64.or_zero, Int32.add_zero, nB_t, nB_f, Bool.not_true, Bool.not_false, Bool.and_true, Bool.true_and, Bool.false_and, Bool.and_false, Bool.or_true, Bool.true_or, Bool.false_or, Bool.or_false, cond_true, cond_false]; done) | rfl)
      · have h19 : (decide ((μ.1 50 21) = (27 + (μ.1 50 9)))) = true := decide_eq_true (cn_ne.mp h19)
        refine z_rcs hc hH 6 (pc' := 1046) (lv' := [(12, .int 4), (10, .int x10), (11, .int x11), (9, .int (nB b9)), (8, .int (nB b8)), (7, .int x7), (6, .int (nB b6)), (5, .int (nB b5)), (3, .int x3), (2, .int x2), (1, .int x1), (4, .int (nB b4)), (0, .ref 50)]) (st' := []) (μ' := z_ui (mGP μ g p yy3) 50 23 (yy3 + 2)) (by rfl) ?_
        rw [mGP_f]
        exact zJ hJ4 rfl rfl (by first | with_reducible rfl | (simp only [h19, lb_f, Int64.or_zero, Int32.add_zero, nB_t, nB_f, Bool.not_true, Bool.not_false, Bool.and_true, Bool.true_and, Bool.false_and, Bool.and_false, Bool.or_true, Bool.true_or, Bool.false_or, Bool.or_false, cond_true, cond_false]; done) | rfl)
    refine zq_ic hc hH (by rfl) (tg := 1022) (by rfl) (fun h20 => ?_) (fun h20 => ?_)
    · have h20 : (decide ((μ.1 50 21) = (27 + (μ.1 50 8)))) = false := decide_eq_false (cm_ne.mp h20)
      exact zJ hJ2 rfl rfl (by first | with_reducible rfl | (simp only [h20, lb_f, Int64.or_zero, Int32.add_zero, nB_t, nB_f, Bool.not_true, Bool.not_false, Bool.and_true, Bool.true_and, Bool.false_and, Bool.and_false, Bool.or_true, Bool.true_or, Bool.false_or, Bool.or_false, cond_true, cond_false]; done) | rfl)
    · have h20 : (decide ((μ.1 50 21) = (27 + (μ.1 50 8)))) = true := decide_eq_true (cn_ne.mp h20)
      refine z_rcs hc hH 6 (pc' := 1022) (lv' := [(12, .int 4), (10, .int x10), (11, .int x11), (9, .int (nB b9)), (8, .int (nB b8)), (7, .int x7), (6, .int (nB b6)), (5, .int (nB b5)), (3, .int x3), (2, .int x2), (1, .int x1), (4, .int (nB b4)), (0, .ref 50)]) (st' := []) (μ' := z_ui (mGP μ g p (f + (bif xDr (μ.1 50 21) then (2 : Int32) else (0 : Int32)))) 50 23 ((f + (bif xDr (μ.1 50 21) then (2 : Int32) else (0 : Int32))) + 2)) (by rfl) ?_
      rw [mGP_f]
      exact zJ hJ2 rfl rfl (by first | with_reducible rfl | (simp only [h20, lb_f, Int64.or_zero, Int32.add_zero, nB_t, nB_f, Bool.not_true, Bool.not_false, Bool.and_true, Bool.true_and, Bool.false_and, Bool.and_false, Bool.or_true, Bool.true_or, Bool.false_or, Bool.or_false, cond_true, cond_false]; done) | rfl)
  refine zq_if hc hH (by rfl) (tg := 998) (by rfl) (fun h21 => ?_) (fun h21 => ?_)
  · have h21 : (xDr (μ.1 50 21)) = false := nB_z.mp (cm_eq9.mp h21)
    exact zJ hJ1 rfl rfl (by first | with_reducible rfl | (simp only [h21, lb_f, Int64.or_zero, Int32.add_zero, nB_t, nB_f, Bool.not_true, Bool.not_false, Bool.and_true, Bool.true_and, Bool.false_and, Bool.and_false, Bool.or_true, Bool.true_or, Bool.false_or, Bool.or_false, cond_true, cond_false]; done) | rfl)
  · have h21 : (xDr (μ.1 50 21)) = true := nB_n.mp (cn_eq.mp h21)
    refine z_rcs hc hH 6 (pc' := 998) (lv' := [(12, .int 4), (10, .int x10), (11, .int x11), (9, .int (nB b9)), (8, .int (nB b8)), (7, .int x7), (6, .int (nB b6)), (5, .int (nB b5)), (3, .int x3), (2, .int x2), (1, .int x1), (4, .int (nB b4)), (0, .ref 50)]) (st' := []) (μ' := z_ui (mGP μ g p f) 50 23 (f + 2)) (by rfl) ?_
    rw [mGP_f]
    exact zJ hJ1 rfl rfl (by first | with_reducible rfl | (simp only [h21, lb_f, Int64.or_zero, Int32.add_zero, nB_t, nB_f, Bool.not_true, Bool.not_false, Bool.and_true, Bool.true_and, Bool.false_and, Bool.and_false, Bool.or_true, Bool.true_or, Bool.false_or, Bool.or_false, cond_true, cond_false]; done) | rfl)
theorem fs978B (d' : Nat) (Z : zK) (hd : 4 ≤ d') (μ : zM) (q : Nat) (hq : q ≤ 4) (e4 : μ.1 50 4 = nI q) (s l : Nat → Nat) (hA : AY μ s l) (hco : vp_in (μ.1 50 22) 5) (hc : z_clo z_x0 mi_X7_firstSort (z_C d') Z) (x10 : Int32) (x11 : Int32) (b9 : Bool) (b8 : Bool) (x7 : Int32) (b6 : Bool) (b5 : Bool) (x3 : Int32) (x2 : Int32) (x1 : Int32) (b4 : Bool) (x13 : Int32) (g p : Int64) (f : Int32) (K : Z 0 1136 [(12, .int 4), (13, .int x13), (10, .int x10), (11, .int x11), (9, .int (nB b9)), (8, .int (nB b8)), (7, .int x7), (6, .int (nB b6)), (5, .int (nB b5)), (3, .int x3), (2, .int x2), (1, .int x1), (4, .int (nB b4)), (0, .ref 50)] [.int (nB b4), .ref 50] (mGP μ g p (bif b4 then bif decide (30 ≤ ((((((((f + (bif xDr (μ.1 50 21) then (2 : Int32) else (0 : Int32))) + (bif decide ((μ.1 50 21) = (27 + (μ.1 50 8))) then (2 : Int32) else (0 : Int32))) + (bif decide ((μ.1 50 21) = (27 + (μ.1 50 9))) then (2 : Int32) else (0 : Int32))) + (bif decide ((μ.1 50 22) = 4) then (2 : Int32) else bif b6 then bif b8 then (0 : Int32) else (2 : Int32) else (0 : Int32))) + (bif decide ((μ.1 50 11) = 0) then (0 : Int32) else bif b9 then (0 : Int32) else (2 : Int32))) + 9) / 10) * 10)) then (((((((f + (bif xDr (μ.1 50 21) then (2 : Int32) else (0 : Int32))) + (bif decide ((μ.1 50 21) = (27 + (μ.1 50 8))) then (2 : Int32) else (0 : Int32))) + (bif decide ((μ.1 50 21) = (27 + (μ.1 50 9))) then (2 : Int32) else (0 : Int32))) + (bif decide ((μ.1 50 22) = 4) then (2 : Int32) else bif b6 then bif b8 then (0 : Int32) else (2 : Int32) else (0 : Int32))) + (bif decide ((μ.1 50 11) = 0) then (0 : Int32) else bif b9 then (0 : Int32) else (2 : Int32))) + 9) / 10) * 10 else (30 : Int32) else (((((((f + (bif xDr (μ.1 50 21) then (2 : Int32) else (0 : Int32))) + (bif decide ((μ.1 50 21) = (27 + (μ.1 50 8))) then (2 : Int32) else (0 : Int32))) + (bif decide ((μ.1 50 21) = (27 + (μ.1 50 9))) then (2 : Int32) else (0 : Int32))) + (bif decide ((μ.1 50 22) = 4) then (2 : Int32) else bif b6 then bif b8 then (0 : Int32) else (2 : Int32) else (0 : Int32))) + (bif decide ((μ.1 50 11) = 0) then (0 : Int32) else bif b9 then (0 : Int32) else (2 : Int32))) + 9) / 10) * 10))) : Z 0 978 [(12, .int 4), (13, .int x13), (10, .int x10), (11, .int x11), (9, .int (nB b9)), (8, .int (nB b8)), (7, .int x7), (6, .int (nB b6)), (5, .int (nB b5)), (3, .int x3), (2, .int x2), (1, .int x1), (4, .int (nB b4)), (0, .ref 50)] [] (mGP μ g p f) := by
  have hH : zH mi_X7_firstSort zt_X7_firstSort 79 7 14 := hh_X7_firstSort
  refine z_rcs hc hH 2 (pc' := 982) (lv' := [(12, .int 4), (13, .int x13), (10, .int x10), (11, .int x11), (9, .int (nB b9)), (8, .int (nB b8)), (7, .int x7), (6, .int (nB b6)), (5, .int (nB b5)), (3, .int x3), (2, .int x2), (1, .int x1), (4, .int (nB b4)), (0, .ref 50)]) (st' := [.int (μ.1 50 21)]) (μ' := mGP μ g p f) (by rfl) ?_
  refine zq_call hc (z_cx_ok hH (by rfl)) (fb_X7_isDragon d' (by omega) (mGP μ g p f) (μ.1 50 21)) (by decide +kernel) (fun r9 μ9 hq => ?_)
  obtain ⟨hμ9, rfl⟩ := hq
  rw [hμ9]
  clear hμ9 μ9
  show Z 0 985 [(12, .int 4), (13, .int x13), (10, .int x10), (11, .int x11), (9, .int (nB b9)), (8, .int (nB b8)), (7, .int x7), (6, .int (nB b6)), (5, .int (nB b5)), (3, .int x3), (2, .int x2), (1, .int x1), (4, .int (nB b4)), (0, .ref 50)] [.int (nB (xDr (μ.1 50 21)))] (mGP μ g p f)
  have hJ1 : Z 0 998 [(12, .int 4), (13, .int x13), (10, .int x10), (11, .int x11), (9, .int (nB b9)), (8, .int (nB b8)), (7, .int x7), (6, .int (nB b6)), (5, .int (nB b5)), (3, .int x3), (2, .int x2), (1, .int x1), (4, .int (nB b4)), (0, .ref 50)] [] (mGP μ g p (f + (bif xDr (μ.1 50 21) then (2 : Int32) else (0 : Int32)))) := by
    refine z_rcs0 hc hH 6 (pc' := 1009) (lv' := [(12, .int 4), (13, .int x13), (10, .int x10), (11, .int x11), (9, .int (nB b9)), (8, .int (nB b8)), (7, .int x7), (6, .int (nB b6)), (5, .int (nB b5)), (3, .int x3), (2, .int x2), (1, .int x1), (4, .int (nB b4)), (0, .ref 50)]) (st' := [.int (27 + (μ.1 50 8)), .int (μ.1 50 21)]) (by rfl) ?_
    have hJ2 : Z 0 1022 [(12, .int 4), (13, .int x13), (10, .int x10), (11, .int x11), (9, .int (nB b9)), (8, .int (nB b8)), (7, .int x7), (6, .int (nB b6)), (5, .int (nB b5)), (3, .int x3), (2, .int x2), (1, .int x1), (4, .int (nB b4)), (0, .ref 50)] [] (mGP μ g p ((f + (bif xDr (μ.1 50 21) then (2 : Int32) else (0 : Int32))) + (bif decide ((μ.1 50 21) = (27 + (μ.1 50 8))) then (2 : Int32) else (0 : Int32)))) := by
      generalize hyy3 : ((f + (bif xDr (μ.1 50 21) then (2 : Int32) else (0 : Int32))) + (bif decide ((μ.1 50 21) = (27 + (μ.1 50 8))) then (2 : Int32) else (0 : Int32)) : Int32) = yy3
      refine z_rcs hc hH 6 (pc' := 1033) (lv' := [(12, .int 4), (13, .int x13), (10, .int x10), (11, .int x11), (9, .int (nB b9)), (8, .int (nB b8)), (7, .int x7), (6, .int (nB b6)), (5, .int (nB b5)), (3, .int x3), (2, .int x2), (1, .int x1), (4, .int (nB b4)), (0, .ref 50)]) (st' := [.int (27 + (μ.1 50 9)), .int (μ.1 50 21)]) (μ' := mGP μ g p yy3) (by rfl) ?_
      have hJ4 : Z 0 1046 [(12, .int 4), (13, .int x13), (10, .int x10), (11, .int x11), (9, .int (nB b9)), (8, .int (nB b8)), (7, .int x7), (6, .int (nB b6)), (5, .int (nB b5)), (3, .int x3), (2, .int x2), (1, .int x1), (4, .int (nB b4)), (0, .ref 50)] [] (mGP μ g p (yy3 + (bif decide ((μ.1 50 21) = (27 + (μ.1 50 9))) then (2 : Int32) else (0 : Int32)))) := by
        generalize hyy5 : (yy3 + (bif decide ((μ.1 50 21) = (27 + (μ.1 50 9))) then (2 : Int32) else (0 : Int32)) : Int32) = yy5
        refine z_rcs hc hH 3 (pc' := 1051) (lv' := [(12, .int 4), (13, .int x13), (10, .int x10), (11, .int x11), (9, .int (nB b9)), (8, .int (nB b8)), (7, .int x7), (6, .int (nB b6)), (5, .int (nB b5)), (3, .int x3), (2, .int x2), (1, .int x1), (4, .int (nB b4)), (0, .ref 50)]) (st' := [.int 4, .int (μ.1 50 22)]) (μ' := mGP μ g p yy5) (by rfl) ?_
        have hJ6 : Z 0 1074 [(12, .int 4), (13, .int x13), (10, .int x10), (11, .int x11), (9, .int (nB b9)), (8, .int (nB b8)), (7, .int x7), (6, .int (nB b6)), (5, .int (nB b5)), (3, .int x3), (2, .int x2), (1, .int x1), (4, .int (nB b4)), (0, .ref 50)] [] (mGP μ g p (yy5 + (bif decide ((μ.1 50 22) = 4) then (2 : Int32) else bif b6 then bif b8 then (0 : Int32) else (2 : Int32) else (0 : Int32)))) := by
          generalize hyy7 : (yy5 + (bif decide ((μ.1 50 22) = 4) then (2 : Int32) else bif b6 then bif b8 then (0 : Int32) else (2 : Int32) else (0 : Int32)) : Int32) = yy7
          refine z_rcs hc hH 2 (pc' := 1078) (lv' := [(12, .int 4), (13, .int x13), (10, .int x10), (11, .int x11), (9, .int (nB b9)), (8, .int (nB b8)), (7, .int x7), (6, .int (nB b6)), (5, .int (nB b5)), (3, .int x3), (2, .int x2), (1, .int x1), (4, .int (nB b4)), (0, .ref 50)]) (st' := [.int (μ.1 50 11)]) (μ' := mGP μ g p yy7) (by rfl) ?_
          have hJ8 : Z 0 1096 [(12, .int 4), (13, .int x13), (10, .int x10), (11, .int x11), (9, .int (nB b9)), (8, .int (nB b8)), (7, .int x7), (6, .int (nB b6)), (5, .int (nB b5)), (3, .int x3), (2, .int x2), (1, .int x1), (4, .int (nB b4)), (0, .ref 50)] [] (mGP μ g p (yy7 + (bif decide ((μ.1 50 11) = 0) then (0 : Int32) else bif b9 then (0 : Int32) else (2 : Int32)))) := by
            generalize hyy9 : (yy7 + (bif decide ((μ.1 50 11) = 0) then (0 : Int32) else bif b9 then (0 : Int32) else (2 : Int32)) : Int32) = yy9
            refine z_rcs hc hH 10 (pc' := 1113) (lv' := [(12, .int 4), (13, .int x13), (10, .int x10), (11, .int x11), (9, .int (nB b9)), (8, .int (nB b8)), (7, .int x7), (6, .int (nB b6)), (5, .int (nB b5)), (3, .int x3), (2, .int x2), (1, .int x1), (4, .int (nB b4)), (0, .ref 50)]) (st' := []) (μ' := z_ui (mGP μ g p yy9) 50 23 (((yy9 + 9) / 10) * 10)) (by rfl) ?_
            rw [mGP_f]
            refine z_rcs hc hH 1 (pc' := 1115) (lv' := [(12, .int 4), (13, .int x13), (10, .int x10), (11, .int x11), (9, .int (nB b9)), (8, .int (nB b8)), (7, .int x7), (6, .int (nB b6)), (5, .int (nB b5)), (3, .int x3), (2, .int x2), (1, .int x1), (4, .int (nB b4)), (0, .ref 50)]) (st' := [.int (nB b4)]) (μ' := mGP μ g p (((yy9 + 9) / 10) * 10)) (by rfl) ?_
            have hJ10 : Z 0 1133 [(12, .int 4), (13, .int x13), (10, .int x10), (11, .int x11), (9, .int (nB b9)), (8, .int (nB b8)), (7, .int x7), (6, .int (nB b6)), (5, .int (nB b5)), (3, .int x3), (2, .int x2), (1, .int x1), (4, .int (nB b4)), (0, .ref 50)] [] (mGP μ g p (bif b4 then bif decide (30 ≤ (((yy9 + 9) / 10) * 10)) then ((yy9 + 9) / 10) * 10 else (30 : Int32) else ((yy9 + 9) / 10) * 10)) := by
              generalize hyy11 : (bif b4 then bif decide (30 ≤ (((yy9 + 9) / 10) * 10)) then ((yy9 + 9) / 10) * 10 else (30 : Int32) else ((yy9 + 9) / 10) * 10 : Int32) = yy11
              refine z_rcs hc hH 2 (pc' := 1136) (lv' := [(12, .int 4), (13, .int x13), (10, .int x10), (11, .int x11), (9, .int (nB b9)), (8, .int (nB b8)), (7, .int x7), (6, .int (nB b6)), (5, .int (nB b5)), (3, .int x3), (2, .int x2), (1, .int x1), (4, .int (nB b4)), (0, .ref 50)]) (st' := [.int (nB b4), .ref 50]) (μ' := mGP μ g p yy11) (by rfl) ?_
              subst hyy11
              subst hyy9
              subst hyy7
              subst hyy5
              subst hyy3
              exact K
            refine zq_if hc hH (by rfl) (tg := 1133) (by rfl) (fun h12 => ?_) (fun h12 => ?_)
            · have h12 : (b4) = false := nB_z.mp (cm_eq9.mp h12)
              exact zJ hJ10 rfl rfl (by first | with_reducible rfl | (simp only [h12, lb_f, Int64.or_zero, Int32.add_zero, nB_t, nB_f, Bool.not_true, Bool.not_false, Bool.and_true, Bool.true_and, Bool.false_and, Bool.and_false, Bool.or_true, Bool.true_or, Bool.false_or, Bool.or_false, cond_true, cond_false]; done) | rfl)
            · have h12 : (b4) = true := nB_n.mp (cn_eq.mp h12)
              refine z_rcs hc hH 3 (pc' := 1124) (lv' := [(12, .int 4), (13, .int x13), (10, .int x10), (11, .int x11), (9, .int (nB b9)), (8, .int (nB b8)), (7, .int x7), (6, .int (nB b6)), (5, .int (nB b5)), (3, .int x3), (2, .int x2), (1, .int x1), (4, .int (nB b4)), (0, .ref 50)]) (st' := [.int 30, .int (((yy9 + 9) / 10) * 10)]) (μ' := mGP μ g p (((yy9 + 9) / 10) * 10)) (by rfl) ?_
              refine zq_ic hc hH (by rfl) (tg := 1133) (by rfl) (fun h13 => ?_) (fun h13 => ?_)
              · have h13 : (decide (30 ≤ (((yy9 + 9) / 10) * 10))) = true := decide_eq_true (cm_ge.mp h13)
                exact zJ hJ10 rfl rfl (by first | with_reducible rfl | (simp only [h12, h13, lb_f, Int64.or_zero, Int32.add_zero, nB_t, nB_f, Bool.not_true, Bool.not_false, Bool.and_true, Bool.true_and, Bool.false_and, Bool.and_false, Bool.or_true, Bool.true_or, Bool.false_or, Bool.or_false, cond_true, cond_false]; done) | rfl)
              · have h13 : (decide (30 ≤ (((yy9 + 9) / 10) * 10))) = false := decide_eq_false (cn_ge.mp h13)
                refine z_rcs hc hH 3 (pc' := 1133) (lv' := [(12, .int 4), (13, .int x13), (10, .int x10), (11, .int x11), (9, .int (nB b9)), (8, .int (nB b8)), (7, .int x7), (6, .int (nB b6)), (5, .int (nB b5)), (3, .int x3), (2, .int x2), (1, .int x1), (4, .int (nB b4)), (0, .ref 50)]) (st' := []) (μ' := z_ui (mGP μ g p (((yy9 + 9) / 10) * 10)) 50 23 (30 : Int32)) (by rfl) ?_
                rw [mGP_f]
                exact zJ hJ10 rfl rfl (by first | with_reducible rfl | (simp only [h12, h13, lb_f, Int64.or_zero, Int32.add_zero, nB_t, nB_f, Bool.not_true, Bool.not_false, Bool.and_true, Bool.true_and, Bool.false_and, Bool.and_false, Bool.or_true, Bool.true_or, Bool.false_or, Bool.or_false, cond_true, cond_false]; done) | rfl)
          refine zq_if hc hH (by rfl) (tg := 1096) (by rfl) (fun h14 => ?_) (fun h14 => ?_)
          · have h14 : (decide ((μ.1 50 11) = 0)) = true := decide_eq_true (cm_eq9.mp h14)
            exact zJ hJ8 rfl rfl (by first | with_reducible rfl | (simp only [h14, lb_f, Int64.or_zero, Int32.add_zero, nB_t, nB_f, Bool.not_true, Bool.not_false, Bool.and_true, Bool.true_and, Bool.false_and, Bool.and_false, Bool.or_true, Bool.true_or, Bool.false_or, Bool.or_false, cond_true, cond_false]; done) | rfl)
          · have h14 : (decide ((μ.1 50 11) = 0)) = false := decide_eq_false (cn_eq.mp h14)
            refine z_rcs hc hH 1 (pc' := 1083) (lv' := [(12, .int 4), (13, .int x13), (10, .int x10), (11, .int x11), (9, .int (nB b9)), (8, .int (nB b8)), (7, .int x7), (6, .int (nB b6)), (5, .int (nB b5)), (3, .int x3), (2, .int x2), (1, .int x1), (4, .int (nB b4)), (0, .ref 50)]) (st' := [.int (nB b9)]) (μ' := mGP μ g p yy7) (by rfl) ?_
            refine zq_if hc hH (by rfl) (tg := 1096) (by rfl) (fun h15 => ?_) (fun h15 => ?_)
            · have h15 : (b9) = true := nB_n.mp (cm_ne.mp h15)
              exact zJ hJ8 rfl rfl (by first | with_reducible rfl | (simp only [h14, h15, lb_f, Int64.or_zero, Int32.add_zero, nB_t, nB_f, Bool.not_true, Bool.not_false, Bool.and_true, Bool.true_and, Bool.false_and, Bool.and_false, Bool.or_true, Bool.true_or, Bool.false_or, Bool.or_false, cond_true, cond_false]; done) | rfl)
            · have h15 : (b9) = false := nB_z.mp (cn_ne.mp h15)
              refine z_rcs hc hH 6 (pc' := 1096) (lv' := [(12, .int 4), (13, .int x13), (10, .int x10), (11, .int x11), (9, .int (nB b9)), (8, .int (nB b8)), (7, .int x7), (6, .int (nB b6)), (5, .int (nB b5)), (3, .int x3), (2, .int x2), (1, .int x1), (4, .int (nB b4)), (0, .ref 50)]) (st' := []) (μ' := z_ui (mGP μ g p yy7) 50 23 (yy7 + 2)) (by rfl) ?_
              rw [mGP_f]
              exact zJ hJ8 rfl rfl (by first | with_reducible rfl | (simp only [h14, h15, lb_f, Int64.or_zero, Int32.add_zero, nB_t, nB_f, Bool.not_true, Bool.not_false, Bool.and_true, Bool.true_and, Bool.false_and, Bool.and_false, Bool.or_true, Bool.true_or, Bool.false_or, Bool.or_false, cond_true, cond_false]; done) | rfl)
        refine zq_ic hc hH (by rfl) (tg := 1064) (by rfl) (fun h16 => ?_) (fun h16 => ?_)
        · have h16 : (decide ((μ.1 50 22) = 4)) = true := decide_eq_true (cm_eq9.mp h16)
          refine z_rcs hc hH 6 (pc' := 1074) (lv' := [(12, .int 4), (13, .int x13), (10, .int x10), (11, .int x11), (9, .int (nB b9)), (8, .int (nB b8)), (7, .int x7), (6, .int (nB b6)), (5, .int (nB b5)), (3, .int x3), (2, .int x2), (1, .int x1), (4, .int (nB b4)), (0, .ref 50)]) (st' := []) (μ' := z_ui (mGP μ g p yy5) 50 23 (yy5 + 2)) (by rfl) ?_
          rw [mGP_f]
          exact zJ hJ6 rfl rfl (by first | with_reducible rfl | (simp only [h16, lb_f, Int64.or_zero, Int32.add_zero, nB_t, nB_f, Bool.not_true, Bool.not_false, Bool.and_true, Bool.true_and, Bool.false_and, Bool.and_false, Bool.or_true, Bool.true_or, Bool.false_or, Bool.or_false, cond_true, cond_false]; done) | rfl)
        · have h16 : (decide ((μ.1 50 22) = 4)) = false := decide_eq_false (cn_eq.mp h16)
          refine z_rcs hc hH 1 (pc' := 1056) (lv' := [(12, .int 4), (13, .int x13), (10, .int x10), (11, .int x11), (9, .int (nB b9)), (8, .int (nB b8)), (7, .int x7), (6, .int (nB b6)), (5, .int (nB b5)), (3, .int x3), (2, .int x2), (1, .int x1), (4, .int (nB b4)), (0, .ref 50)]) (st' := [.int (nB b6)]) (μ' := mGP μ g p yy5) (by rfl) ?_
          refine zq_if hc hH (by rfl) (tg := 1074) (by rfl) (fun h17 => ?_) (fun h17 => ?_)
          · have h17 : (b6) = false := nB_z.mp (cm_eq9.mp h17)
            exact zJ hJ6 rfl rfl (by first | with_reducible rfl | (simp only [h16, h17, lb_f, Int64.or_zero, Int32.add_zero, nB_t, nB_f, Bool.not_true, Bool.not_false, Bool.and_true, Bool.true_and, Bool.false_and, Bool.and_false, Bool.or_true, Bool.true_or, Bool.false_or, Bool.or_false, cond_true, cond_false]; done) | rfl)
          · have h17 : (b6) = true := nB_n.mp (cn_eq.mp h17)
            refine z_rcs hc hH 1 (pc' := 1061) (lv' := [(12, .int 4), (13, .int x13), (10, .int x10), (11, .int x11), (9, .int (nB b9)), (8, .int (nB b8)), (7, .int x7), (6, .int (nB b6)), (5, .int (nB b5)), (3, .int x3), (2, .int x2), (1, .int x1), (4, .int (nB b4)), (0, .ref 50)]) (st' := [.int (nB b8)]) (μ' := mGP μ g p yy5) (by rfl) ?_
            refine zq_if hc hH (by rfl) (tg := 1074) (by rfl) (fun h18 => ?_) (fun h18 => ?_)
            · have h18 : (b8) = true := nB_n.mp (cm_ne.mp h18)
              exact zJ hJ6 rfl rfl (by first | with_reducible rfl | (simp only [h16, h17, h18, lb_f, Int64.or_zero, Int32.add_zero, nB_t, nB_f, Bool.not_true, Bool.not_false, Bool.and_true, Bool.true_and, Bool.false_and, Bool.and_false, Bool.or_true, Bool.true_or, Bool.false_or, Bool.or_false, cond_true, cond_false]; done) | rfl)
            · have h18 : (b8) = false := nB_z.mp (cn_ne.mp h18)
              refine z_rcs hc hH 6 (pc' := 1074) (lv' := [(12, .int 4), (13, .int x13), (10, .int x10), (11, .int x11), (9, .int (nB b9)), (8, .int (nB b8)), (7, .int x7), (6, .int (nB b6)), (5, .int (nB b5)), (3, .int x3), (2, .int x2), (1, .int x1), (4, .int (nB b4)), (0, .ref 50)]) (st' := []) (μ' := z_ui (mGP μ g p yy5) 50 23 (yy5 + 2)) (by rfl) ?_
              rw [mGP_f]
              exact zJ hJ6 rfl rfl (by first | with_reducible rfl | (simp only [h16, h17, h18, lb_f, Int64.or_zero, Int32.add_zero, nB_t, nB_f, Bool.not_true, Bool.not_false, Bool.and_true, Bool.true_and, Bool.false_and, Bool.and_false, Bool.or_true, Bool.true_or, Bool.false_or, Bool.or_false, cond_true, cond_false]; done) | rfl)
      refine zq_ic hc hH (by rfl) (tg := 1046) (by rfl) (fun h19 => ?_) (fun h19 => ?_)
      · have h19 : (decide ((μ.1 50 21) = (27 + (μ.1 50 9)))) = false := decide_eq_false (cm_ne.mp h19)
        exact zJ hJ4 rfl rfl (by first | with_reducible rfl | (simp only [h19, lb_f, Int64.or_zero, Int32.add_zero, nB_t, nB_f, Bool.not_true, Bool.not_false, Bool.and_true, Bool.true_and, Bool.false_and, Bool.and_false, Bool.or_true, Bool.true_or, Bool.false_or, Bool.or_false, cond_true, cond_false]; done) | rfl)
      · have h19 : (decide ((μ.1 50 21) = (27 + (μ.1 50 9)))) = true := decide_eq_true (cn_ne.mp h19)
        refine z_rcs hc hH 6 (pc' := 1046) (lv' := [(12, .int 4), (13, .int x13), (10, .int x10), (11, .int x11), (9, .int (nB b9)), (8, .int (nB b8)), (7, .int x7), (6, .int (nB b6)), (5, .int (nB b5)), (3, .int x3), (2, .int x2), (1, .int x1), (4, .int (nB b4)), (0, .ref 50)]) (st' := []) (μ' := z_ui (mGP μ g p yy3) 50 23 (yy3 + 2)) (by rfl) ?_
        rw [mGP_f]
        exact zJ hJ4 rfl rfl (by first | with_reducible rfl | (simp only [h19, lb_f, Int64.or_zero, Int32.add_zero, nB_t, nB_f, Bool.not_true, Bool.not_false, Bool.and_true, Bool.true_and, Bool.false_and, Bool.and_false, Bool.or_true, Bool.true_or, Bool.false_or, Bool.or_false, cond_true, cond_false]; done) | rfl)
    refine zq_ic hc hH (by rfl) (tg := 1022) (by rfl) (fun h20 => ?_) (fun h20 => ?_)
    · have h20 : (decide ((μ.1 50 21) = (27 + (μ.1 50 8)))) = false := decide_eq_false (cm_ne.mp h20)
      exact zJ hJ2 rfl rfl (by first | with_reducible rfl | (simp only [h20, lb_f, Int64.or_zero, Int32.add_zero, nB_t, nB_f, Bool.not_true, Bool.not_false, Bool.and_true, Bool.true_and, Bool.false_and, Bool.and_false, Bool.or_true, Bool.true_or, Bool.false_or, Bool.or_false, cond_true, cond_false]; done) | rfl)
    · have h20 : (decide ((μ.1 50 21) = (27 + (μ.1 50 8)))) = true := decide_eq_true (cn_ne.mp h20)
      refine z_rcs hc hH 6 (pc' := 1022) (lv' := [(12, .int 4), (13, .int x13), (10, .int x10), (11, .int x11), (9, .int (nB b9)), (8, .int (nB b8)), (7, .int x7), (6, .int (nB b6)), (5, .int (nB b5)), (3, .int x3), (2, .int x2), (1, .int x1), (4, .int (nB b4)), (0, .ref 50)]) (st' := []) (μ' := z_ui (mGP μ g p (f + (bif xDr (μ.1 50 21) then (2 : Int32) else (0 : Int32)))) 50 23 ((f + (bif xDr (μ.1 50 21) then (2 : Int32) else (0 : Int32))) + 2)) (by rfl) ?_
      rw [mGP_f]
      exact zJ hJ2 rfl rfl (by first | with_reducible rfl | (simp only [h20, lb_f, Int64.or_zero, Int32.add_zero, nB_t, nB_f, Bool.not_true, Bool.not_false, Bool.and_true, Bool.true_and, Bool.false_and, Bool.and_false, Bool.or_true, Bool.true_or, Bool.false_or, Bool.or_false, cond_true, cond_false]; done) | rfl)
  refine zq_if hc hH (by rfl) (tg := 998) (by rfl) (fun h21 => ?_) (fun h21 => ?_)
  · have h21 : (xDr (μ.1 50 21)) = false := nB_z.mp (cm_eq9.mp h21)
    exact zJ hJ1 rfl rfl (by first | with_reducible rfl | (simp only [h21, lb_f, Int64.or_zero, Int32.add_zero, nB_t, nB_f, Bool.not_true, Bool.not_false, Bool.and_true, Bool.true_and, Bool.false_and, Bool.and_false, Bool.or_true, Bool.true_or, Bool.false_or, Bool.or_false, cond_true, cond_false]; done) | rfl)
  · have h21 : (xDr (μ.1 50 21)) = true := nB_n.mp (cn_eq.mp h21)
    refine z_rcs hc hH 6 (pc' := 998) (lv' := [(12, .int 4), (13, .int x13), (10, .int x10), (11, .int x11), (9, .int (nB b9)), (8, .int (nB b8)), (7, .int x7), (6, .int (nB b6)), (5, .int (nB b5)), (3, .int x3), (2, .int x2), (1, .int x1), (4, .int (nB b4)), (0, .ref 50)]) (st' := []) (μ' := z_ui (mGP μ g p f) 50 23 (f + 2)) (by rfl) ?_
    rw [mGP_f]
    exact zJ hJ1 rfl rfl (by first | with_reducible rfl | (simp only [h21, lb_f, Int64.or_zero, Int32.add_zero, nB_t, nB_f, Bool.not_true, Bool.not_false, Bool.and_true, Bool.true_and, Bool.false_and, Bool.and_false, Bool.or_true, Bool.true_or, Bool.false_or, Bool.or_false, cond_true, cond_false]; done) | rfl)
/-! compare: the reference -/
set_option maxRecDepth 8000
noncomputable def cpG (μ : zM) : Int64 := (μ.2.1 50 24) ||| ((μ.2.1 50 12) &&& ((lb true 42) ||| (lb true 43)))
noncomputable def cpP (μ : zM) (b1 : Bool) : Int64 := bif b1 then (μ.2.1 50 25) ||| ((μ.2.1 50 12) &&& ((((lb true 4) ||| (lb true 5)) ||| (lb true 6)) ||| (lb true 7))) else (bif decide ((lg_cmp ((μ.2.1 50 12) &&& (lb true 1)) 0) = 0) then (((μ.2.1 50 25) ||| ((μ.2.1 50 12) &&& ((((lb true 4) ||| (lb true 5)) ||| (lb true 6)) ||| (lb true 7)))) ||| ((μ.2.1 50 12) &&& ((lb true 1) ||| (lb true 2)))) ||| ((μ.2.1 50 12) &&& (lb true 0)) else ((μ.2.1 50 25) ||| ((μ.2.1 50 12) &&& ((((lb true 4) ||| (lb true 5)) ||| (lb true 6)) ||| (lb true 7)))) ||| ((μ.2.1 50 12) &&& ((lb true 1) ||| (lb true 2)))) ||| (lb (!(decide ((μ.1 50 11) = 0))) 3)
noncomputable def hnG (g : Int64) : Int32 := (((((((((((0 + (((g >>> ((32 : Int32).toInt64 &&& 63)) &&& 1).toInt32)) + (((g >>> ((33 : Int32).toInt64 &&& 63)) &&& 1).toInt32)) + (((g >>> ((34 : Int32).toInt64 &&& 63)) &&& 1).toInt32)) + (((g >>> ((35 : Int32).toInt64 &&& 63)) &&& 1).toInt32)) + (((g >>> ((36 : Int32).toInt64 &&& 63)) &&& 1).toInt32)) + (((g >>> ((37 : Int32).toInt64 &&& 63)) &&& 1).toInt32)) + (((g >>> ((38 : Int32).toInt64 &&& 63)) &&& 1).toInt32)) + (((g >>> ((39 : Int32).toInt64 &&& 63)) &&& 1).toInt32)) + (((g >>> ((40 : Int32).toInt64 &&& 63)) &&& 1).toInt32)) + (((g >>> ((41 : Int32).toInt64 &&& 63)) &&& 1).toInt32)) + (((g >>> ((42 : Int32).toInt64 &&& 63)) &&& 1).toInt32)) + (((g >>> ((43 : Int32).toInt64 &&& 63)) &&& 1).toInt32)
noncomputable def hnP (p : Int64) (b1 : Bool) : Int32 := (((((((((((((((((((((((((((((0 + (nB ((decide ((lg_cmp ((p >>> ((0 : Int32).toInt64 &&& 63)) &&& 1) 1) = 0)) && (!b1)))) + (bif decide ((lg_cmp ((p >>> ((1 : Int32).toInt64 &&& 63)) &&& 1) 1) = 0) then bif b1 then (0 : Int32) else 2 else 0)) + (nB ((decide ((lg_cmp ((p >>> ((2 : Int32).toInt64 &&& 63)) &&& 1) 1) = 0)) && (!b1)))) + (nB ((decide ((lg_cmp ((p >>> ((3 : Int32).toInt64 &&& 63)) &&& 1) 1) = 0)) && (!b1)))) + (nB (decide ((lg_cmp ((p >>> ((4 : Int32).toInt64 &&& 63)) &&& 1) 1) = 0)))) + (nB (decide ((lg_cmp ((p >>> ((5 : Int32).toInt64 &&& 63)) &&& 1) 1) = 0)))) + (nB (decide ((lg_cmp ((p >>> ((6 : Int32).toInt64 &&& 63)) &&& 1) 1) = 0)))) + (nB (decide ((lg_cmp ((p >>> ((7 : Int32).toInt64 &&& 63)) &&& 1) 1) = 0)))) + (nB (decide ((lg_cmp ((p >>> ((8 : Int32).toInt64 &&& 63)) &&& 1) 1) = 0)))) + (nB ((decide ((lg_cmp ((p >>> ((9 : Int32).toInt64 &&& 63)) &&& 1) 1) = 0)) && (!b1)))) + (nB ((decide ((lg_cmp ((p >>> ((10 : Int32).toInt64 &&& 63)) &&& 1) 1) = 0)) && (!b1)))) + (nB (decide ((lg_cmp ((p >>> ((11 : Int32).toInt64 &&& 63)) &&& 1) 1) = 0)))) + (nB (decide ((lg_cmp ((p >>> ((12 : Int32).toInt64 &&& 63)) &&& 1) 1) = 0)))) + (nB (decide ((lg_cmp ((p >>> ((13 : Int32).toInt64 &&& 63)) &&& 1) 1) = 0)))) + (nB (decide ((lg_cmp ((p >>> ((14 : Int32).toInt64 &&& 63)) &&& 1) 1) = 0)))) + (nB (decide ((lg_cmp ((p >>> ((15 : Int32).toInt64 &&& 63)) &&& 1) 1) = 0)))) + (bif decide ((lg_cmp ((p >>> ((16 : Int32).toInt64 &&& 63)) &&& 1) 1) = 0) then (2 : Int32) else 0)) + (bif decide ((lg_cmp ((p >>> ((17 : Int32).toInt64 &&& 63)) &&& 1) 1) = 0) then bif b1 then (1 : Int32) else 2 else 0)) + (bif decide ((lg_cmp ((p >>> ((18 : Int32).toInt64 &&& 63)) &&& 1) 1) = 0) then bif b1 then (1 : Int32) else 2 else 0)) + (bif decide ((lg_cmp ((p >>> ((19 : Int32).toInt64 &&& 63)) &&& 1) 1) = 0) then (2 : Int32) else 0)) + (bif decide ((lg_cmp ((p >>> ((20 : Int32).toInt64 &&& 63)) &&& 1) 1) = 0) then (2 : Int32) else 0)) + (bif decide ((lg_cmp ((p >>> ((21 : Int32).toInt64 &&& 63)) &&& 1) 1) = 0) then (2 : Int32) else 0)) + (bif decide ((lg_cmp ((p >>> ((22 : Int32).toInt64 &&& 63)) &&& 1) 1) = 0) then (2 : Int32) else 0)) + (bif decide ((lg_cmp ((p >>> ((23 : Int32).toInt64 &&& 63)) &&& 1) 1) = 0) then bif b1 then (1 : Int32) else 2 else 0)) + (bif decide ((lg_cmp ((p >>> ((24 : Int32).toInt64 &&& 63)) &&& 1) 1) = 0) then (2 : Int32) else 0)) + (bif decide ((lg_cmp ((p >>> ((25 : Int32).toInt64 &&& 63)) &&& 1) 1) = 0) then (2 : Int32) else 0)) + (bif decide ((lg_cmp ((p >>> ((26 : Int32).toInt64 &&& 63)) &&& 1) 1) = 0) then bif b1 then (2 : Int32) else 3 else 0)) + (bif decide ((lg_cmp ((p >>> ((27 : Int32).toInt64 &&& 63)) &&& 1) 1) = 0) then bif b1 then (2 : Int32) else 3 else 0)) + (bif decide ((lg_cmp ((p >>> ((28 : Int32).toInt64 &&& 63)) &&& 1) 1) = 0) then bif b1 then (0 : Int32) else 3 else 0)) + (bif decide ((lg_cmp ((p >>> ((29 : Int32).toInt64 &&& 63)) &&& 1) 1) = 0) then bif b1 then (5 : Int32) else 6 else 0)
noncomputable def bsH (μ : zM) (x2 f : Int32) : Int32 := bif decide ((x2 + (μ.1 50 10)) ≤ 4) then if (f <<< ((2 + (x2 + (μ.1 50 10))) &&& 31)) < 2000 then f <<< ((2 + (x2 + (μ.1 50 10))) &&& 31) else 2000 else bif decide ((x2 + (μ.1 50 10)) = 5) then (2000 : Int32) else bif decide (8 ≤ (x2 + (μ.1 50 10))) then bif decide (11 ≤ (x2 + (μ.1 50 10))) then bif decide (13 ≤ (x2 + (μ.1 50 10))) then (8000 : Int32) else 6000 else 4000 else 3000
noncomputable def cOf (μ : zM) (b1 : Bool) : Q4 := bif decide (lg_cmp (cpG μ) 0 = 0) then (bsH μ (hnP (cpP μ b1) b1) (μ.1 50 23), hnP (cpP μ b1) b1 + μ.1 50 10, μ.1 50 23, cpP μ b1) else (8000 * hnG (cpG μ), hnG (cpG μ) * 13, μ.1 50 23, cpG μ)
noncomputable abbrev mdC : List (Nat × Nat) := [(50, 13), (50, 14), (50, 15), (50, 17), (50, 24), (50, 25)]
noncomputable def CC (μ μ' : zM) (b1 : Bool) : Prop := a_Fz mdC μ μ' ∧ BS (fun y => y = cOf μ b1 ∧ ¬ y.2.2.2 = 0) (bq μ) (bq μ')
theorem Fz_GP {μ : zM} {g p : Int64} : a_Fz mdC μ (mGP μ g p (μ.1 50 23)) := by
  have h : mGP μ g p (μ.1 50 23) = z_uj (z_uj μ 50 24 g) 50 25 p := by
    have := mGP_rf μ
    rw [← mGP_p (p := μ.2.1 50 25), ← mGP_g (g := μ.2.1 50 24), this]
  rw [h]
  exact a_Fz_uj (a_Fz_uj (a_Fz_rf _ _) (by decide +kernel)) (by decide +kernel)
theorem CC_of {μ μ' : zM} {g p : Int64} {b1 : Bool} {x : Q4} (h : CQ (mGP μ g p (μ.1 50 23)) μ' x) (e : cOf μ b1 = x) (h0 : ¬ x.2.2.2 = 0) : CC μ μ' b1 := by
  refine ⟨a_Fz_tr (by decide +kernel) Fz_GP h.1, BS.iff (S := fun y => y = x) (b0 := bq μ) h.2 (fun y => ⟨fun z => ⟨z.trans e.symm, by rw [z]; exact h0⟩, fun z => z.1.trans e⟩)⟩
theorem lg_c0 {x y : Int64} : lg_cmp x y = 0 ↔ x = y := by
  unfold lg_cmp
  by_cases h : x > y
  · rw [if_pos h]
    exact ⟨fun q => absurd q (by decide), fun q => by rw [q] at h; exact absurd h (Int64.lt_irrefl)⟩
  · rw [if_neg h]
    by_cases h2 : x = y
    · rw [if_pos h2]; exact ⟨fun _ => h2, fun _ => rfl⟩
    · rw [if_neg h2]; exact ⟨fun q => absurd q (by decide), fun q => absurd q h2⟩
theorem fb_X7_compare (d : Nat) (hd : 2 ≤ d) (μ : zM) (b1 : Bool) : z_C d mi_X7_compare [.ref 50, .int (nB b1)] μ (fun r μ' => r = none ∧ CC μ μ' b1) := by
  refine z_C_in (by decide) (by omega) (fun d' Z ed hc hr => ?_)
  have hH : zH mi_X7_compare zt_X7_compare 79 7 7 := hh_X7_compare
  have c1 : decide (lg_cmp (cpG μ) 0 = 0) = false → Z 0 150 [(2, .int 0), (0, .ref 50), (1, .int (nB b1))] [] (mGP μ (cpG μ) (cpP μ b1) (μ.1 50 23)) := fun hz => by
    refine cq150 d' Z (by omega) μ hc b1 _ _ _ ?_
    refine cq154_0 d' Z (by omega) μ hc _ _ _ _ ?_
    refine cq154_1 d' Z (by omega) μ hc _ _ _ _ _ ?_
    refine cq154_2 d' Z (by omega) μ hc _ _ _ _ _ ?_
    refine cq154_3 d' Z (by omega) μ hc _ _ _ _ _ ?_
    refine cq154_4 d' Z (by omega) μ hc _ _ _ _ _ ?_
    refine cq154_5 d' Z (by omega) μ hc _ _ _ _ _ ?_
    refine cq154_6 d' Z (by omega) μ hc _ _ _ _ _ ?_
    refine cq154_7 d' Z (by omega) μ hc _ _ _ _ _ ?_
    refine cq154_8 d' Z (by omega) μ hc _ _ _ _ _ ?_
    refine cq154_9 d' Z (by omega) μ hc _ _ _ _ _ ?_
    refine cq154_10 d' Z (by omega) μ hc _ _ _ _ _ ?_
    refine cq154_11 d' Z (by omega) μ hc _ _ _ _ _ ?_
    refine cq154_12 d' Z (by omega) μ hc _ _ _ _ _ ?_
    exact cp339a d' Z (mGP μ (cpG μ) (cpP μ b1) (μ.1 50 23)) _ _ _ _ _ hc (fun b pc lv st μ' v k1 k2 hq => hr b pc lv st μ' v k1 k2 ⟨hq.1, CC_of (b1 := b1) hq.2 (by unfold cOf; rw [hz]; rfl) (fun z => of_decide_eq_false hz (lg_c0.mpr z))⟩)
  have c2 : decide (lg_cmp (cpG μ) 0 = 0) = true → Z 0 200 [(2, .int 0), (0, .ref 50), (1, .int (nB b1))] [] (mGP μ (cpG μ) (cpP μ b1) (μ.1 50 23)) := fun hz => by
    refine cq200 d' Z (by omega) μ hc b1 _ _ _ ?_
    refine cq203_0 d' Z (by omega) μ hc _ _ _ _ ?_
    refine cq203_1 d' Z (by omega) μ hc _ _ _ _ _ ?_
    refine cq203_2 d' Z (by omega) μ hc _ _ _ _ _ ?_
    refine cq203_3 d' Z (by omega) μ hc _ _ _ _ _ ?_
    refine cq203_4 d' Z (by omega) μ hc _ _ _ _ _ ?_
    refine cq203_5 d' Z (by omega) μ hc _ _ _ _ _ ?_
    refine cq203_6 d' Z (by omega) μ hc _ _ _ _ _ ?_
    refine cq203_7 d' Z (by omega) μ hc _ _ _ _ _ ?_
    refine cq203_8 d' Z (by omega) μ hc _ _ _ _ _ ?_
    refine cq203_9 d' Z (by omega) μ hc _ _ _ _ _ ?_
    refine cq203_10 d' Z (by omega) μ hc _ _ _ _ _ ?_
    refine cq203_11 d' Z (by omega) μ hc _ _ _ _ _ ?_
    refine cq203_12 d' Z (by omega) μ hc _ _ _ _ _ ?_
    refine cq203_13 d' Z (by omega) μ hc _ _ _ _ _ ?_
    refine cq203_14 d' Z (by omega) μ hc _ _ _ _ _ ?_
    refine cq203_15 d' Z (by omega) μ hc _ _ _ _ _ ?_
    refine cq203_16 d' Z (by omega) μ hc _ _ _ _ _ ?_
    refine cq203_17 d' Z (by omega) μ hc _ _ _ _ _ ?_
    refine cq203_18 d' Z (by omega) μ hc _ _ _ _ _ ?_
    refine cq203_19 d' Z (by omega) μ hc _ _ _ _ _ ?_
    refine cq203_20 d' Z (by omega) μ hc _ _ _ _ _ ?_
    refine cq203_21 d' Z (by omega) μ hc _ _ _ _ _ ?_
    refine cq203_22 d' Z (by omega) μ hc _ _ _ _ _ ?_
    refine cq203_23 d' Z (by omega) μ hc _ _ _ _ _ ?_
    refine cq203_24 d' Z (by omega) μ hc _ _ _ _ _ ?_
    refine cq203_25 d' Z (by omega) μ hc _ _ _ _ _ ?_
    refine cq203_26 d' Z (by omega) μ hc _ _ _ _ _ ?_
    refine cq203_27 d' Z (by omega) μ hc _ _ _ _ _ ?_
    refine cq203_28 d' Z (by omega) μ hc _ _ _ _ _ ?_
    refine cq203_29 d' Z (by omega) μ hc _ _ _ _ _ ?_
    refine cq203_30 d' Z (by omega) μ hc _ _ _ _ _ ?_
    show Z 0 249 [(4, .long (cpP μ b1)), (6, .int 30), (2, .int (hnP (cpP μ b1) b1)), (0, .ref 50), (1, .int (nB b1))] [] (mGP μ (cpG μ) (cpP μ b1) (μ.1 50 23))
    refine z_rcs0 hc hH 4 (pc' := 255) (lv' := [(4, .long (cpP μ b1)), (6, .int 30), (2, .int (hnP (cpP μ b1) b1)), (0, .ref 50), (1, .int (nB b1))]) (st' := [.int (lg_cmp (cpP μ b1) 0)]) (by rfl) ?_
    refine zq_if hc hH (by rfl) (tg := 259) (by rfl) (fun h1 => ?_) (fun h1 => ?_)
    · have h1 : (decide ((lg_cmp (cpP μ b1) 0) = 0)) = false := decide_eq_false (cm_ne.mp h1)
      refine cq259 d' Z (by omega) μ hc _ _ _ _ _ ?_
      exact cp339b d' Z (mGP μ (cpG μ) (cpP μ b1) (μ.1 50 23)) _ _ _ _ _ hc (fun b pc lv st μ' v k1 k2 hq => hr b pc lv st μ' v k1 k2 ⟨hq.1, CC_of (b1 := b1) hq.2 (by unfold cOf; rw [hz]; rfl) (fun z => of_decide_eq_false h1 (lg_c0.mpr z))⟩)
    · have h1 : (decide ((lg_cmp (cpP μ b1) 0) = 0)) = true := decide_eq_true (cn_ne.mp h1)
      exact hr 0 258 _ _ _ none (by decide +kernel) (by rfl) (⟨rfl, Fz_GP, BS_rf (b := bq μ) (fun x hx => hx.2 (by rw [hx.1]; unfold cOf; rw [hz]; exact lg_c0.mp (of_decide_eq_true h1)))⟩)
  refine zJ (μ := mGP μ (μ.2.1 50 24) (μ.2.1 50 25) (μ.1 50 23)) ?_ rfl rfl (mGP_rf μ)
  refine cq0 d' Z (by omega) μ hc b1 _ _ _ ?_
  show Z 0 141 [(2, .int 0), (0, .ref 50), (1, .int (nB b1))] [] _
  refine z_rcs0 hc hH 4 (pc' := 147) (lv' := [(2, .int 0), (0, .ref 50), (1, .int (nB b1))]) (st' := [.int (lg_cmp (cpG μ) 0)]) (by rfl) ?_
  refine zq_if hc hH (by rfl) (tg := 200) (by rfl) (fun h1 => ?_) (fun h1 => ?_)
  · have h1 : (decide ((lg_cmp (cpG μ) 0) = 0)) = true := decide_eq_true (cm_eq9.mp h1)
    exact c2 h1
  · have h1 : (decide ((lg_cmp (cpG μ) 0) = 0)) = false := decide_eq_false (cn_eq.mp h1)
    exact c1 h1
/-! a way of the first sort is offered: the reference -/
set_option maxRecDepth 8000
noncomputable def w0_3 (μ : zM) (q : Nat) (s l : Nat → Nat) : Int32 := (((0 + (nB ((decide ((μ.1 56 0) = 2)) || (decide ((μ.1 56 0) = 3))))) + (nB ((decide ((μ.1 56 1) = 2)) || (decide ((μ.1 56 1) = 3))))) + (nB ((decide ((μ.1 56 2) = 2)) || (decide ((μ.1 56 2) = 3))))) + (nB ((decide ((μ.1 56 3) = 2)) || (decide ((μ.1 56 3) = 3))))
noncomputable def w0_2 (μ : zM) (q : Nat) (s l : Nat → Nat) : Int32 := (((0 + (nB (xHi0 μ))) + (nB (xHi1 μ))) + (nB (xHi2 μ))) + (nB (xHi3 μ))
noncomputable def w0_1 (μ : zM) (q : Nat) (s l : Nat → Nat) : Int32 := (((0 + (nB (decide ((μ.1 56 0) = 0)))) + (nB (decide ((μ.1 56 1) = 0)))) + (nB (decide ((μ.1 56 2) = 0)))) + (nB (decide ((μ.1 56 3) = 0)))
noncomputable def w0_4 (μ : zM) (q : Nat) (s l : Nat → Nat) : Bool := xOp μ q
noncomputable def w92_6 (μ : zM) (q : Nat) (s l : Nat → Nat) : Bool := !(decide (4 ≤ (μ.1 50 22))) && (decide ((μ.1 56 (μ.1 50 22).toNatClampNeg) = 0))
noncomputable def w92_5 (μ : zM) (q : Nat) (s l : Nat → Nat) : Bool := (xDr (μ.1 50 21)) || ((decide ((μ.1 50 21) = (27 + (μ.1 50 8)))) || (decide ((μ.1 50 21) = (27 + (μ.1 50 9)))))
noncomputable def w164_7 (μ : zM) (q : Nat) (s l : Nat → Nat) : Int32 := bif (w92_6 μ q s l) then μ.1 57 (μ.1 50 22).toNatClampNeg else 0
noncomputable def w184_9 (μ : zM) (q : Nat) (s l : Nat → Nat) : Bool := !(w0_4 μ q s l) && ((decide ((w0_1 μ q s l) = 4)) && (!(w92_5 μ q s l) && ((w92_6 μ q s l) && (bif decide ((μ.1 50 7) = (w164_7 μ q s l)) then !(decide (((w164_7 μ q s l) - (w164_7 μ q s l) / 9 * 9) = 6)) || ((decide ((μ.1 50 7) = ((w164_7 μ q s l) + 2))) && (!(decide (((w164_7 μ q s l) - (w164_7 μ q s l) / 9 * 9) = 0)))) else (decide ((μ.1 50 7) = ((w164_7 μ q s l) + 2))) && (!(decide (((w164_7 μ q s l) - (w164_7 μ q s l) / 9 * 9) = 0)))))))
noncomputable def w184_8 (μ : zM) (q : Nat) (s l : Nat → Nat) : Bool := (w92_6 μ q s l) && (bif decide ((μ.1 50 7) = (w164_7 μ q s l)) then !(decide (((w164_7 μ q s l) - (w164_7 μ q s l) / 9 * 9) = 6)) || ((decide ((μ.1 50 7) = ((w164_7 μ q s l) + 2))) && (!(decide (((w164_7 μ q s l) - (w164_7 μ q s l) / 9 * 9) = 0)))) else (decide ((μ.1 50 7) = ((w164_7 μ q s l) + 2))) && (!(decide (((w164_7 μ q s l) - (w164_7 μ q s l) / 9 * 9) = 0))))
noncomputable def w261_g (μ : zM) (q : Nat) (s l : Nat → Nat) : Int64 := (0 : Int64)
noncomputable def w261_p (μ : zM) (q : Nat) (s l : Nat → Nat) : Int64 := bif (w0_4 μ q s l) then (0 : Int64) ||| (lb (w184_9 μ q s l) 9) else (((0 : Int64) ||| (lb (w184_9 μ q s l) 9)) ||| (lb (decide ((nI (twn s l 27)) = 1)) 10)) ||| (lb (decide ((nI (twn s l 27)) = 2)) 28)
noncomputable def w302_p (μ : zM) (q : Nat) (s l : Nat → Nat) : Int64 := (((((w261_p μ q s l) ||| (lb (xT μ 31) 11)) ||| (lb (xT μ 32) 12)) ||| (lb (xT μ 33) 13)) ||| (lb (xT μ (27 + (μ.1 50 8))) 14)) ||| (lb (xT μ (27 + (μ.1 50 9))) 15)
noncomputable def w402_0_p (μ : zM) (q : Nat) (s l : Nat → Nat) : Int64 := ((w302_p μ q s l) ||| (lb ((xR μ 0) && ((xR μ 9) && (xR μ 18))) 17)) ||| (lb ((xT μ 0) && ((xT μ 9) && (xT μ 18))) 22)
noncomputable def w402_1_p (μ : zM) (q : Nat) (s l : Nat → Nat) : Int64 := ((w402_0_p μ q s l) ||| (lb ((xR μ 1) && ((xR μ 10) && (xR μ 19))) 17)) ||| (lb ((xT μ 1) && ((xT μ 10) && (xT μ 19))) 22)
noncomputable def w402_2_p (μ : zM) (q : Nat) (s l : Nat → Nat) : Int64 := ((w402_1_p μ q s l) ||| (lb ((xR μ 2) && ((xR μ 11) && (xR μ 20))) 17)) ||| (lb ((xT μ 2) && ((xT μ 11) && (xT μ 20))) 22)
noncomputable def w402_3_p (μ : zM) (q : Nat) (s l : Nat → Nat) : Int64 := ((w402_2_p μ q s l) ||| (lb ((xR μ 3) && ((xR μ 12) && (xR μ 21))) 17)) ||| (lb ((xT μ 3) && ((xT μ 12) && (xT μ 21))) 22)
noncomputable def w402_4_p (μ : zM) (q : Nat) (s l : Nat → Nat) : Int64 := ((w402_3_p μ q s l) ||| (lb ((xR μ 4) && ((xR μ 13) && (xR μ 22))) 17)) ||| (lb ((xT μ 4) && ((xT μ 13) && (xT μ 22))) 22)
noncomputable def w402_5_p (μ : zM) (q : Nat) (s l : Nat → Nat) : Int64 := ((w402_4_p μ q s l) ||| (lb ((xR μ 5) && ((xR μ 14) && (xR μ 23))) 17)) ||| (lb ((xT μ 5) && ((xT μ 14) && (xT μ 23))) 22)
noncomputable def w402_6_p (μ : zM) (q : Nat) (s l : Nat → Nat) : Int64 := ((w402_5_p μ q s l) ||| (lb ((xR μ 6) && ((xR μ 15) && (xR μ 24))) 17)) ||| (lb ((xT μ 6) && ((xT μ 15) && (xT μ 24))) 22)
noncomputable def w402_7_p (μ : zM) (q : Nat) (s l : Nat → Nat) : Int64 := (w402_6_p μ q s l) ||| (lb ((xT μ 7) && ((xT μ 16) && (xT μ 25))) 22)
noncomputable def w402_8_p (μ : zM) (q : Nat) (s l : Nat → Nat) : Int64 := (w402_7_p μ q s l) ||| (lb ((xT μ 8) && ((xT μ 17) && (xT μ 26))) 22)
noncomputable def w519_p (μ : zM) (q : Nat) (s l : Nat → Nat) : Int64 := ((((((((w402_8_p μ q s l) ||| (lb ((xR μ 0) && ((xR μ 3) && (xR μ 6))) 18)) ||| (lb ((xR μ 9) && ((xR μ 12) && (xR μ 15))) 18)) ||| (lb ((xR μ 18) && ((xR μ 21) && (xR μ 24))) 18)) ||| (lb (decide ((w0_1 μ q s l) = 0)) 19)) ||| (lb (decide ((w0_2 μ q s l) = 3)) 20)) ||| (lb (decide ((w0_3 μ q s l) = 3)) 21)) ||| (lb (xE1 μ (w0_1 μ q s l)) 23)) ||| (lb (xE2 μ (w0_1 μ q s l)) 27)
noncomputable def w639_10 (μ : zM) (q : Nat) (s l : Nat → Nat) : Int32 := ((0 + (nB (xT μ 31))) + (nB (xT μ 32))) + (nB (xT μ 33))
noncomputable def w639_11 (μ : zM) (q : Nat) (s l : Nat → Nat) : Int32 := (((0 + (nB (xT μ 27))) + (nB (xT μ 28))) + (nB (xT μ 29))) + (nB (xT μ 30))
noncomputable def w639_g (μ : zM) (q : Nat) (s l : Nat → Nat) : Int64 := tlG μ ((((((w261_g μ q s l) ||| (lb (decide ((w0_2 μ q s l) = 4)) 33)) ||| (lb (decide ((((0 + (nB (xT μ 31))) + (nB (xT μ 32))) + (nB (xT μ 33))) = 3)) 34)) ||| (lb ((decide (((((0 + (nB (xT μ 27))) + (nB (xT μ 28))) + (nB (xT μ 29))) + (nB (xT μ 30))) = 3)) && (!(decide ((μ.1 50 21) ≤ 26)) && (!(decide (31 ≤ (μ.1 50 21)))))) 35)) ||| (lb (decide (((((0 + (nB (xT μ 27))) + (nB (xT μ 28))) + (nB (xT μ 29))) + (nB (xT μ 30))) = 4)) 36)) ||| (lb (decide ((w0_3 μ q s l) = 4)) 41)) (tF μ q 34 0 t70)
noncomputable def w639_p (μ : zM) (q : Nat) (s l : Nat → Nat) : Int64 := tlP μ ((w519_p μ q s l) ||| (lb ((decide ((((0 + (nB (xT μ 31))) + (nB (xT μ 32))) + (nB (xT μ 33))) = 2)) && (xDr (μ.1 50 21))) 25)) (tF μ q 34 0 t70)
noncomputable def w861_f (μ : zM) (q : Nat) (s l : Nat → Nat) : Int32 := 20 + (bif decide ((μ.1 50 11) = 0) then bif (w0_4 μ q s l) then (0 : Int32) else 10 else 0)
noncomputable def wfu0 (μ : zM) (q : Nat) (s l : Nat → Nat) : Int32 := bif decide ((μ.1 56 0) = 0) then (w861_f μ q s l) else (w861_f μ q s l) + (((bif decide ((μ.1 56 0) = 1) then (2 : Int32) else 8) * (bif xHi0 μ then (2 : Int32) else 1)) * (bif xEn (μ.1 57 0) then (2 : Int32) else 1))
noncomputable def wfu1 (μ : zM) (q : Nat) (s l : Nat → Nat) : Int32 := bif decide ((μ.1 56 1) = 0) then (wfu0 μ q s l) else (wfu0 μ q s l) + (((bif decide ((μ.1 56 1) = 1) then (2 : Int32) else 8) * (bif xHi1 μ then (2 : Int32) else 1)) * (bif xEn (μ.1 57 1) then (2 : Int32) else 1))
noncomputable def wfu2 (μ : zM) (q : Nat) (s l : Nat → Nat) : Int32 := bif decide ((μ.1 56 2) = 0) then (wfu1 μ q s l) else (wfu1 μ q s l) + (((bif decide ((μ.1 56 2) = 1) then (2 : Int32) else 8) * (bif xHi2 μ then (2 : Int32) else 1)) * (bif xEn (μ.1 57 2) then (2 : Int32) else 1))
noncomputable def wfu3 (μ : zM) (q : Nat) (s l : Nat → Nat) : Int32 := bif decide ((μ.1 56 3) = 0) then (wfu2 μ q s l) else (wfu2 μ q s l) + (((bif decide ((μ.1 56 3) = 1) then (2 : Int32) else 8) * (bif xHi3 μ then (2 : Int32) else 1)) * (bif xEn (μ.1 57 3) then (2 : Int32) else 1))
noncomputable def wFu (μ : zM) (q : Nat) (s l : Nat → Nat) : Int32 := bif (w0_4 μ q s l) then bif decide (30 ≤ (((((((((wfu3 μ q s l) + (bif xDr (μ.1 50 21) then (2 : Int32) else (0 : Int32))) + (bif decide ((μ.1 50 21) = (27 + (μ.1 50 8))) then (2 : Int32) else (0 : Int32))) + (bif decide ((μ.1 50 21) = (27 + (μ.1 50 9))) then (2 : Int32) else (0 : Int32))) + (bif decide ((μ.1 50 22) = 4) then (2 : Int32) else bif (w92_6 μ q s l) then bif (w184_8 μ q s l) then (0 : Int32) else (2 : Int32) else (0 : Int32))) + (bif decide ((μ.1 50 11) = 0) then (0 : Int32) else bif (w184_9 μ q s l) then (0 : Int32) else (2 : Int32))) + 9) / 10) * 10)) then ((((((((wfu3 μ q s l) + (bif xDr (μ.1 50 21) then (2 : Int32) else (0 : Int32))) + (bif decide ((μ.1 50 21) = (27 + (μ.1 50 8))) then (2 : Int32) else (0 : Int32))) + (bif decide ((μ.1 50 21) = (27 + (μ.1 50 9))) then (2 : Int32) else (0 : Int32))) + (bif decide ((μ.1 50 22) = 4) then (2 : Int32) else bif (w92_6 μ q s l) then bif (w184_8 μ q s l) then (0 : Int32) else (2 : Int32) else (0 : Int32))) + (bif decide ((μ.1 50 11) = 0) then (0 : Int32) else bif (w184_9 μ q s l) then (0 : Int32) else (2 : Int32))) + 9) / 10) * 10 else (30 : Int32) else ((((((((wfu3 μ q s l) + (bif xDr (μ.1 50 21) then (2 : Int32) else (0 : Int32))) + (bif decide ((μ.1 50 21) = (27 + (μ.1 50 8))) then (2 : Int32) else (0 : Int32))) + (bif decide ((μ.1 50 21) = (27 + (μ.1 50 9))) then (2 : Int32) else (0 : Int32))) + (bif decide ((μ.1 50 22) = 4) then (2 : Int32) else bif (w92_6 μ q s l) then bif (w184_8 μ q s l) then (0 : Int32) else (2 : Int32) else (0 : Int32))) + (bif decide ((μ.1 50 11) = 0) then (0 : Int32) else bif (w184_9 μ q s l) then (0 : Int32) else (2 : Int32))) + 9) / 10) * 10
theorem fb_X7_firstSort (d : Nat) (hd : 5 ≤ d) (μ : zM) (q : Nat) (hq : q ≤ 4) (e4 : μ.1 50 4 = nI q) (s l : Nat → Nat) (hA : AY μ s l) (hco : vp_in (μ.1 50 22) 5) : z_C d mi_X7_firstSort [.ref 50] μ (fun r μ' => r = none ∧ CC (mGP μ (w639_g μ q s l) (w639_p μ q s l) (wFu μ q s l)) μ' (xOp μ q)) := by
  refine z_C_in (by decide) (by omega) (fun d' Z ed hc hr => ?_)
  have hH : zH mi_X7_firstSort zt_X7_firstSort 79 7 14 := hh_X7_firstSort
  have kA : Z 0 978 [(12, .int 4), (10, .int (w639_10 μ q s l)), (11, .int (w639_11 μ q s l)), (9, .int (nB (w184_9 μ q s l))), (8, .int (nB (w184_8 μ q s l))), (7, .int (w164_7 μ q s l)), (6, .int (nB (w92_6 μ q s l))), (5, .int (nB (w92_5 μ q s l))), (3, .int (w0_3 μ q s l)), (2, .int (w0_2 μ q s l)), (1, .int (w0_1 μ q s l)), (4, .int (nB (w0_4 μ q s l))), (0, .ref 50)] [] (mGP μ (w639_g μ q s l) (w639_p μ q s l) (wfu3 μ q s l)) := by
    refine fs978A d' Z (by omega) μ q hq e4 s l hA hco hc _ _ _ _ _ _ _ _ _ _ _ _ _ _ ?_
    show Z 0 1136 [(12, .int 4), (10, .int (w639_10 μ q s l)), (11, .int (w639_11 μ q s l)), (9, .int (nB (w184_9 μ q s l))), (8, .int (nB (w184_8 μ q s l))), (7, .int (w164_7 μ q s l)), (6, .int (nB (w92_6 μ q s l))), (5, .int (nB (w92_5 μ q s l))), (3, .int (w0_3 μ q s l)), (2, .int (w0_2 μ q s l)), (1, .int (w0_1 μ q s l)), (4, .int (nB (w0_4 μ q s l))), (0, .ref 50)] [.int (nB (w0_4 μ q s l)), .ref 50] (mGP μ (w639_g μ q s l) (w639_p μ q s l) (wFu μ q s l))
    refine zq_call hc (by rfl) (fb_X7_compare d' (by omega) (mGP μ (w639_g μ q s l) (w639_p μ q s l) (wFu μ q s l)) (w0_4 μ q s l)) (by decide +kernel) (fun r9 μ9 hq9 => ?_)
    obtain ⟨rfl, h9⟩ := hq9
    exact hr 0 1139 _ _ _ none (by decide +kernel) (by rfl) ⟨rfl, h9⟩
  have kB : ∀ x13, Z 0 978 [(12, .int 4), (13, .int x13), (10, .int (w639_10 μ q s l)), (11, .int (w639_11 μ q s l)), (9, .int (nB (w184_9 μ q s l))), (8, .int (nB (w184_8 μ q s l))), (7, .int (w164_7 μ q s l)), (6, .int (nB (w92_6 μ q s l))), (5, .int (nB (w92_5 μ q s l))), (3, .int (w0_3 μ q s l)), (2, .int (w0_2 μ q s l)), (1, .int (w0_1 μ q s l)), (4, .int (nB (w0_4 μ q s l))), (0, .ref 50)] [] (mGP μ (w639_g μ q s l) (w639_p μ q s l) (wfu3 μ q s l)) := by
    intro x13
    refine fs978B d' Z (by omega) μ q hq e4 s l hA hco hc _ _ _ _ _ _ _ _ _ _ _ x13 _ _ _ ?_
    show Z 0 1136 [(12, .int 4), (13, .int x13), (10, .int (w639_10 μ q s l)), (11, .int (w639_11 μ q s l)), (9, .int (nB (w184_9 μ q s l))), (8, .int (nB (w184_8 μ q s l))), (7, .int (w164_7 μ q s l)), (6, .int (nB (w92_6 μ q s l))), (5, .int (nB (w92_5 μ q s l))), (3, .int (w0_3 μ q s l)), (2, .int (w0_2 μ q s l)), (1, .int (w0_1 μ q s l)), (4, .int (nB (w0_4 μ q s l))), (0, .ref 50)] [.int (nB (w0_4 μ q s l)), .ref 50] _
    refine zq_call hc (by rfl) (fb_X7_compare d' (by omega) (mGP μ (w639_g μ q s l) (w639_p μ q s l) (wFu μ q s l)) (w0_4 μ q s l)) (by decide +kernel) (fun r9 μ9 hq9 => ?_)
    obtain ⟨rfl, h9⟩ := hq9
    exact hr 0 1139 _ _ _ none (by decide +kernel) (by rfl) ⟨rfl, h9⟩
  have k4 := fu889_4 d' Z (by omega) μ q hq e4 s l hA hco hc _ _ _ _ _ _ _ _ _ _ _ _ _ _ ⟨kA, kB⟩
  have k3 : Z 0 889 [(12, .int 3), (10, .int (w639_10 μ q s l)), (11, .int (w639_11 μ q s l)), (9, .int (nB (w184_9 μ q s l))), (8, .int (nB (w184_8 μ q s l))), (7, .int (w164_7 μ q s l)), (6, .int (nB (w92_6 μ q s l))), (5, .int (nB (w92_5 μ q s l))), (3, .int (w0_3 μ q s l)), (2, .int (w0_2 μ q s l)), (1, .int (w0_1 μ q s l)), (4, .int (nB (w0_4 μ q s l))), (0, .ref 50)] [] (mGP μ (w639_g μ q s l) (w639_p μ q s l) (wfu2 μ q s l)) ∧ ∀ x13, Z 0 889 [(12, .int 3), (13, .int x13), (10, .int (w639_10 μ q s l)), (11, .int (w639_11 μ q s l)), (9, .int (nB (w184_9 μ q s l))), (8, .int (nB (w184_8 μ q s l))), (7, .int (w164_7 μ q s l)), (6, .int (nB (w92_6 μ q s l))), (5, .int (nB (w92_5 μ q s l))), (3, .int (w0_3 μ q s l)), (2, .int (w0_2 μ q s l)), (1, .int (w0_1 μ q s l)), (4, .int (nB (w0_4 μ q s l))), (0, .ref 50)] [] (mGP μ (w639_g μ q s l) (w639_p μ q s l) (wfu2 μ q s l)) := fu889_3 d' Z (by omega) μ q hq e4 s l hA hco hc _ _ _ _ _ _ _ _ _ _ _ _ _ _ k4
  have k2 : Z 0 889 [(12, .int 2), (10, .int (w639_10 μ q s l)), (11, .int (w639_11 μ q s l)), (9, .int (nB (w184_9 μ q s l))), (8, .int (nB (w184_8 μ q s l))), (7, .int (w164_7 μ q s l)), (6, .int (nB (w92_6 μ q s l))), (5, .int (nB (w92_5 μ q s l))), (3, .int (w0_3 μ q s l)), (2, .int (w0_2 μ q s l)), (1, .int (w0_1 μ q s l)), (4, .int (nB (w0_4 μ q s l))), (0, .ref 50)] [] (mGP μ (w639_g μ q s l) (w639_p μ q s l) (wfu1 μ q s l)) ∧ ∀ x13, Z 0 889 [(12, .int 2), (13, .int x13), (10, .int (w639_10 μ q s l)), (11, .int (w639_11 μ q s l)), (9, .int (nB (w184_9 μ q s l))), (8, .int (nB (w184_8 μ q s l))), (7, .int (w164_7 μ q s l)), (6, .int (nB (w92_6 μ q s l))), (5, .int (nB (w92_5 μ q s l))), (3, .int (w0_3 μ q s l)), (2, .int (w0_2 μ q s l)), (1, .int (w0_1 μ q s l)), (4, .int (nB (w0_4 μ q s l))), (0, .ref 50)] [] (mGP μ (w639_g μ q s l) (w639_p μ q s l) (wfu1 μ q s l)) := fu889_2 d' Z (by omega) μ q hq e4 s l hA hco hc _ _ _ _ _ _ _ _ _ _ _ _ _ _ k3
  have k1 : Z 0 889 [(12, .int 1), (10, .int (w639_10 μ q s l)), (11, .int (w639_11 μ q s l)), (9, .int (nB (w184_9 μ q s l))), (8, .int (nB (w184_8 μ q s l))), (7, .int (w164_7 μ q s l)), (6, .int (nB (w92_6 μ q s l))), (5, .int (nB (w92_5 μ q s l))), (3, .int (w0_3 μ q s l)), (2, .int (w0_2 μ q s l)), (1, .int (w0_1 μ q s l)), (4, .int (nB (w0_4 μ q s l))), (0, .ref 50)] [] (mGP μ (w639_g μ q s l) (w639_p μ q s l) (wfu0 μ q s l)) ∧ ∀ x13, Z 0 889 [(12, .int 1), (13, .int x13), (10, .int (w639_10 μ q s l)), (11, .int (w639_11 μ q s l)), (9, .int (nB (w184_9 μ q s l))), (8, .int (nB (w184_8 μ q s l))), (7, .int (w164_7 μ q s l)), (6, .int (nB (w92_6 μ q s l))), (5, .int (nB (w92_5 μ q s l))), (3, .int (w0_3 μ q s l)), (2, .int (w0_2 μ q s l)), (1, .int (w0_1 μ q s l)), (4, .int (nB (w0_4 μ q s l))), (0, .ref 50)] [] (mGP μ (w639_g μ q s l) (w639_p μ q s l) (wfu0 μ q s l)) := fu889_1 d' Z (by omega) μ q hq e4 s l hA hco hc _ _ _ _ _ _ _ _ _ _ _ _ _ _ k2
  have k0 : Z 0 889 [(12, .int 0), (10, .int (w639_10 μ q s l)), (11, .int (w639_11 μ q s l)), (9, .int (nB (w184_9 μ q s l))), (8, .int (nB (w184_8 μ q s l))), (7, .int (w164_7 μ q s l)), (6, .int (nB (w92_6 μ q s l))), (5, .int (nB (w92_5 μ q s l))), (3, .int (w0_3 μ q s l)), (2, .int (w0_2 μ q s l)), (1, .int (w0_1 μ q s l)), (4, .int (nB (w0_4 μ q s l))), (0, .ref 50)] [] (mGP μ (w639_g μ q s l) (w639_p μ q s l) (w861_f μ q s l)) ∧ ∀ x13, Z 0 889 [(12, .int 0), (13, .int x13), (10, .int (w639_10 μ q s l)), (11, .int (w639_11 μ q s l)), (9, .int (nB (w184_9 μ q s l))), (8, .int (nB (w184_8 μ q s l))), (7, .int (w164_7 μ q s l)), (6, .int (nB (w92_6 μ q s l))), (5, .int (nB (w92_5 μ q s l))), (3, .int (w0_3 μ q s l)), (2, .int (w0_2 μ q s l)), (1, .int (w0_1 μ q s l)), (4, .int (nB (w0_4 μ q s l))), (0, .ref 50)] [] (mGP μ (w639_g μ q s l) (w639_p μ q s l) (w861_f μ q s l)) := fu889_0 d' Z (by omega) μ q hq e4 s l hA hco hc _ _ _ _ _ _ _ _ _ _ _ _ _ _ k1
  refine zJ (μ := mGP μ (μ.2.1 50 24) (μ.2.1 50 25) (μ.1 50 23)) ?_ rfl rfl (mGP_rf μ)
  refine fs0 d' Z (by omega) μ q hq e4 s l hA hco hc  _ _ _ ?_
  show Z 0 92 [(5, .int 4), (3, .int (w0_3 μ q s l)), (2, .int (w0_2 μ q s l)), (1, .int (w0_1 μ q s l)), (4, .int (nB (w0_4 μ q s l))), (0, .ref 50)] [] (mGP μ (μ.2.1 50 24) (μ.2.1 50 25) (μ.1 50 23))
  refine fs92 d' Z (by omega) μ q hq e4 s l hA hco hc _ _ _ _ _ _ _ ?_
  show Z 0 164 [(6, .int (nB (w92_6 μ q s l))), (5, .int (nB (w92_5 μ q s l))), (3, .int (w0_3 μ q s l)), (2, .int (w0_2 μ q s l)), (1, .int (w0_1 μ q s l)), (4, .int (nB (w0_4 μ q s l))), (0, .ref 50)] [] _
  refine fs164 d' Z (by omega) μ q hq e4 s l hA hco hc _ _ _ _ _ _ (fun h => in4b (a := decide ((4 : Int32) ≤ μ.1 50 22)) h) _ _ _ ?_
  show Z 0 184 [(7, .int (w164_7 μ q s l)), (6, .int (nB (w92_6 μ q s l))), (5, .int (nB (w92_5 μ q s l))), (3, .int (w0_3 μ q s l)), (2, .int (w0_2 μ q s l)), (1, .int (w0_1 μ q s l)), (4, .int (nB (w0_4 μ q s l))), (0, .ref 50)] [] _
  refine fs184 d' Z (by omega) μ q hq e4 s l hA hco hc _ _ _ _ _ _ _ _ _ _ ?_
  show Z 0 261 [(9, .int (nB (w184_9 μ q s l))), (8, .int (nB (w184_8 μ q s l))), (7, .int (w164_7 μ q s l)), (6, .int (nB (w92_6 μ q s l))), (5, .int (nB (w92_5 μ q s l))), (3, .int (w0_3 μ q s l)), (2, .int (w0_2 μ q s l)), (1, .int (w0_1 μ q s l)), (4, .int (nB (w0_4 μ q s l))), (0, .ref 50)] [] _
  refine fs261 d' Z (by omega) μ q hq e4 s l hA hco hc _ _ _ _ _ _ _ _ _ _ _ _ ?_
  show Z 0 302 [(10, .int 0), (9, .int (nB (w184_9 μ q s l))), (8, .int (nB (w184_8 μ q s l))), (7, .int (w164_7 μ q s l)), (6, .int (nB (w92_6 μ q s l))), (5, .int (nB (w92_5 μ q s l))), (3, .int (w0_3 μ q s l)), (2, .int (w0_2 μ q s l)), (1, .int (w0_1 μ q s l)), (4, .int (nB (w0_4 μ q s l))), (0, .ref 50)] [] (mGP μ (w261_g μ q s l) (w261_p μ q s l) (μ.1 50 23))
  refine fs302 d' Z (by omega) μ q hq e4 s l hA hco hc _ _ _ _ _ _ _ _ _ _ _ _ ?_
  show Z 0 402 [(10, .int 0), (9, .int (nB (w184_9 μ q s l))), (8, .int (nB (w184_8 μ q s l))), (7, .int (w164_7 μ q s l)), (6, .int (nB (w92_6 μ q s l))), (5, .int (nB (w92_5 μ q s l))), (3, .int (w0_3 μ q s l)), (2, .int (w0_2 μ q s l)), (1, .int (w0_1 μ q s l)), (4, .int (nB (w0_4 μ q s l))), (0, .ref 50)] [] (mGP μ (w261_g μ q s l) (w302_p μ q s l) (μ.1 50 23))
  refine fs402_0 d' Z (by omega) μ q hq e4 s l hA hco hc _ _ _ _ _ _ _ _ _ _ _ _ ?_
  show Z 0 402 [(10, .int 1), (9, .int (nB (w184_9 μ q s l))), (8, .int (nB (w184_8 μ q s l))), (7, .int (w164_7 μ q s l)), (6, .int (nB (w92_6 μ q s l))), (5, .int (nB (w92_5 μ q s l))), (3, .int (w0_3 μ q s l)), (2, .int (w0_2 μ q s l)), (1, .int (w0_1 μ q s l)), (4, .int (nB (w0_4 μ q s l))), (0, .ref 50)] [] (mGP μ (w261_g μ q s l) (w402_0_p μ q s l) (μ.1 50 23))
  refine fs402_1 d' Z (by omega) μ q hq e4 s l hA hco hc _ _ _ _ _ _ _ _ _ _ _ _ ?_
  show Z 0 402 [(10, .int 2), (9, .int (nB (w184_9 μ q s l))), (8, .int (nB (w184_8 μ q s l))), (7, .int (w164_7 μ q s l)), (6, .int (nB (w92_6 μ q s l))), (5, .int (nB (w92_5 μ q s l))), (3, .int (w0_3 μ q s l)), (2, .int (w0_2 μ q s l)), (1, .int (w0_1 μ q s l)), (4, .int (nB (w0_4 μ q s l))), (0, .ref 50)] [] (mGP μ (w261_g μ q s l) (w402_1_p μ q s l) (μ.1 50 23))
  refine fs402_2 d' Z (by omega) μ q hq e4 s l hA hco hc _ _ _ _ _ _ _ _ _ _ _ _ ?_
  show Z 0 402 [(10, .int 3), (9, .int (nB (w184_9 μ q s l))), (8, .int (nB (w184_8 μ q s l))), (7, .int (w164_7 μ q s l)), (6, .int (nB (w92_6 μ q s l))), (5, .int (nB (w92_5 μ q s l))), (3, .int (w0_3 μ q s l)), (2, .int (w0_2 μ q s l)), (1, .int (w0_1 μ q s l)), (4, .int (nB (w0_4 μ q s l))), (0, .ref 50)] [] (mGP μ (w261_g μ q s l) (w402_2_p μ q s l) (μ.1 50 23))
  refine fs402_3 d' Z (by omega) μ q hq e4 s l hA hco hc _ _ _ _ _ _ _ _ _ _ _ _ ?_
  show Z 0 402 [(10, .int 4), (9, .int (nB (w184_9 μ q s l))), (8, .int (nB (w184_8 μ q s l))), (7, .int (w164_7 μ q s l)), (6, .int (nB (w92_6 μ q s l))), (5, .int (nB (w92_5 μ q s l))), (3, .int (w0_3 μ q s l)), (2, .int (w0_2 μ q s l)), (1, .int (w0_1 μ q s l)), (4, .int (nB (w0_4 μ q s l))), (0, .ref 50)] [] (mGP μ (w261_g μ q s l) (w402_3_p μ q s l) (μ.1 50 23))
  refine fs402_4 d' Z (by omega) μ q hq e4 s l hA hco hc _ _ _ _ _ _ _ _ _ _ _ _ ?_
  show Z 0 402 [(10, .int 5), (9, .int (nB (w184_9 μ q s l))), (8, .int (nB (w184_8 μ q s l))), (7, .int (w164_7 μ q s l)), (6, .int (nB (w92_6 μ q s l))), (5, .int (nB (w92_5 μ q s l))), (3, .int (w0_3 μ q s l)), (2, .int (w0_2 μ q s l)), (1, .int (w0_1 μ q s l)), (4, .int (nB (w0_4 μ q s l))), (0, .ref 50)] [] (mGP μ (w261_g μ q s l) (w402_4_p μ q s l) (μ.1 50 23))
  refine fs402_5 d' Z (by omega) μ q hq e4 s l hA hco hc _ _ _ _ _ _ _ _ _ _ _ _ ?_
  show Z 0 402 [(10, .int 6), (9, .int (nB (w184_9 μ q s l))), (8, .int (nB (w184_8 μ q s l))), (7, .int (w164_7 μ q s l)), (6, .int (nB (w92_6 μ q s l))), (5, .int (nB (w92_5 μ q s l))), (3, .int (w0_3 μ q s l)), (2, .int (w0_2 μ q s l)), (1, .int (w0_1 μ q s l)), (4, .int (nB (w0_4 μ q s l))), (0, .ref 50)] [] (mGP μ (w261_g μ q s l) (w402_5_p μ q s l) (μ.1 50 23))
  refine fs402_6 d' Z (by omega) μ q hq e4 s l hA hco hc _ _ _ _ _ _ _ _ _ _ _ _ ?_
  show Z 0 402 [(10, .int 7), (9, .int (nB (w184_9 μ q s l))), (8, .int (nB (w184_8 μ q s l))), (7, .int (w164_7 μ q s l)), (6, .int (nB (w92_6 μ q s l))), (5, .int (nB (w92_5 μ q s l))), (3, .int (w0_3 μ q s l)), (2, .int (w0_2 μ q s l)), (1, .int (w0_1 μ q s l)), (4, .int (nB (w0_4 μ q s l))), (0, .ref 50)] [] (mGP μ (w261_g μ q s l) (w402_6_p μ q s l) (μ.1 50 23))
  refine fs402_7 d' Z (by omega) μ q hq e4 s l hA hco hc _ _ _ _ _ _ _ _ _ _ _ _ ?_
  show Z 0 402 [(10, .int 8), (9, .int (nB (w184_9 μ q s l))), (8, .int (nB (w184_8 μ q s l))), (7, .int (w164_7 μ q s l)), (6, .int (nB (w92_6 μ q s l))), (5, .int (nB (w92_5 μ q s l))), (3, .int (w0_3 μ q s l)), (2, .int (w0_2 μ q s l)), (1, .int (w0_1 μ q s l)), (4, .int (nB (w0_4 μ q s l))), (0, .ref 50)] [] (mGP μ (w261_g μ q s l) (w402_7_p μ q s l) (μ.1 50 23))
  refine fs402_8 d' Z (by omega) μ q hq e4 s l hA hco hc _ _ _ _ _ _ _ _ _ _ _ _ ?_
  show Z 0 402 [(10, .int 9), (9, .int (nB (w184_9 μ q s l))), (8, .int (nB (w184_8 μ q s l))), (7, .int (w164_7 μ q s l)), (6, .int (nB (w92_6 μ q s l))), (5, .int (nB (w92_5 μ q s l))), (3, .int (w0_3 μ q s l)), (2, .int (w0_2 μ q s l)), (1, .int (w0_1 μ q s l)), (4, .int (nB (w0_4 μ q s l))), (0, .ref 50)] [] (mGP μ (w261_g μ q s l) (w402_8_p μ q s l) (μ.1 50 23))
  refine fs402_9 d' Z (by omega) μ q hq e4 s l hA hco hc _ _ _ _ _ _ _ _ _ _ _ _ ?_
  show Z 0 519 [(10, .int 0), (9, .int (nB (w184_9 μ q s l))), (8, .int (nB (w184_8 μ q s l))), (7, .int (w164_7 μ q s l)), (6, .int (nB (w92_6 μ q s l))), (5, .int (nB (w92_5 μ q s l))), (3, .int (w0_3 μ q s l)), (2, .int (w0_2 μ q s l)), (1, .int (w0_1 μ q s l)), (4, .int (nB (w0_4 μ q s l))), (0, .ref 50)] [] _
  refine fs519 d' Z (by omega) μ q hq e4 s l hA hco hc _ _ _ _ _ _ _ _ _ _ _ _ ?_
  show Z 0 639 [(10, .int 27), (9, .int (nB (w184_9 μ q s l))), (8, .int (nB (w184_8 μ q s l))), (7, .int (w164_7 μ q s l)), (6, .int (nB (w92_6 μ q s l))), (5, .int (nB (w92_5 μ q s l))), (3, .int (w0_3 μ q s l)), (2, .int (w0_2 μ q s l)), (1, .int (w0_1 μ q s l)), (4, .int (nB (w0_4 μ q s l))), (0, .ref 50)] [] (mGP μ (w261_g μ q s l) (w519_p μ q s l) (μ.1 50 23))
  refine fs639 d' Z (by omega) μ q hq e4 s l hA hco hc _ _ _ _ _ _ _ _ _ _ _ _ ?_
  show Z 0 861 [(12, .int 34), (10, .int (w639_10 μ q s l)), (11, .int (w639_11 μ q s l)), (9, .int (nB (w184_9 μ q s l))), (8, .int (nB (w184_8 μ q s l))), (7, .int (w164_7 μ q s l)), (6, .int (nB (w92_6 μ q s l))), (5, .int (nB (w92_5 μ q s l))), (3, .int (w0_3 μ q s l)), (2, .int (w0_2 μ q s l)), (1, .int (w0_1 μ q s l)), (4, .int (nB (w0_4 μ q s l))), (0, .ref 50)] [] (mGP μ (w639_g μ q s l) (w639_p μ q s l) (μ.1 50 23))
  refine fs861 d' Z (by omega) μ q hq e4 s l hA hco hc _ _ _ _ _ _ _ _ _ _ _ _ _ _ ?_
  show Z 0 889 [(12, .int 0), (10, .int (w639_10 μ q s l)), (11, .int (w639_11 μ q s l)), (9, .int (nB (w184_9 μ q s l))), (8, .int (nB (w184_8 μ q s l))), (7, .int (w164_7 μ q s l)), (6, .int (nB (w92_6 μ q s l))), (5, .int (nB (w92_5 μ q s l))), (3, .int (w0_3 μ q s l)), (2, .int (w0_2 μ q s l)), (1, .int (w0_1 μ q s l)), (4, .int (nB (w0_4 μ q s l))), (0, .ref 50)] [] (mGP μ (w639_g μ q s l) (w639_p μ q s l) (w861_f μ q s l))
  exact k0.1
/-! has: the reference; leaves of the class -/
set_option maxRecDepth 8000
noncomputable def xHas (so lo k : Int32) : Bool := bif decide (so = 0) then !(decide (k < lo)) && (!(decide ((lo + 2) < k))) else decide (k = lo)
theorem fb_X7_has (d : Nat) (hd : 1 ≤ d) (μ : zM) (so lo k : Int32) : z_C d mi_X7_has [.int so, .int lo, .int k] μ (zR μ (.int (nB (xHas so lo k)))) := by
  refine z_C_in (by decide) (by omega) (fun d' Z ed hc hr => ?_)
  have hH : zH mi_X7_has zt_X7_has 79 7 3 := hh_X7_has
  refine z_rcs hc hH 1 (pc' := 1) (lv' := [(0, .int so), (1, .int lo), (2, .int k)]) (st' := [.int so]) (μ' := μ) (by rfl) ?_
  have hJ1 : Z 0 34 [(0, .int so), (1, .int lo), (2, .int k)] [.int (nB (bif decide (so = 0) then !(decide (k < lo)) && (!(decide ((lo + 2) < k))) else decide (k = lo)))] μ := by
    generalize hee2 : (bif decide (so = 0) then !(decide (k < lo)) && (!(decide ((lo + 2) < k))) else decide (k = lo)) = ee2
    exact hr 0 34 _ _ _ (some (.int (nB ee2))) (by decide +kernel) ((fun b : Bool => (by cases b <;> rfl : z_rn mi_X7_has 34 [.int (nB b)] = some (some (.int (nB b))))) ee2) (⟨rfl, (by subst hee2; rfl)⟩)
  refine zq_if hc hH (by rfl) (tg := 24) (by rfl) (fun h3 => ?_) (fun h3 => ?_)
  · have h3 : (decide (so = 0)) = false := decide_eq_false (cm_ne.mp h3)
    refine z_rcs hc hH 2 (pc' := 26) (lv' := [(0, .int so), (1, .int lo), (2, .int k)]) (st' := [.int lo, .int k]) (μ' := μ) (by rfl) ?_
    refine zq_ic hc hH (by rfl) (tg := 33) (by rfl) (fun h4 => ?_) (fun h4 => ?_)
    · have h4 : (decide (k = lo)) = false := decide_eq_false (cm_ne.mp h4)
      refine z_rcs hc hH 1 (pc' := 34) (lv' := [(0, .int so), (1, .int lo), (2, .int k)]) (st' := [.int 0]) (μ' := μ) (by rfl) ?_
      exact zJ hJ1 rfl (by first | with_reducible rfl | (simp only [h3, h4, lb_f, Int64.or_zero, Int32.add_zero, nB_t, nB_f, Bool.not_true, Bool.not_false, Bool.and_true, Bool.true_and, Bool.false_and, Bool.and_false, Bool.or_true, Bool.true_or, Bool.false_or, Bool.or_false, cond_true, cond_false]; done) | rfl) rfl
    · have h4 : (decide (k = lo)) = true := decide_eq_true (cn_ne.mp h4)
      refine z_rcs hc hH 2 (pc' := 34) (lv' := [(0, .int so), (1, .int lo), (2, .int k)]) (st' := [.int 1]) (μ' := μ) (by rfl) ?_
      exact zJ hJ1 rfl (by first | with_reducible rfl | (simp only [h3, h4, lb_f, Int64.or_zero, Int32.add_zero, nB_t, nB_f, Bool.not_true, Bool.not_false, Bool.and_true, Bool.true_and, Bool.false_and, Bool.and_false, Bool.or_true, Bool.true_or, Bool.false_or, Bool.or_false, cond_true, cond_false]; done) | rfl) rfl
  · have h3 : (decide (so = 0)) = true := decide_eq_true (cn_ne.mp h3)
    refine z_rcs hc hH 2 (pc' := 6) (lv' := [(0, .int so), (1, .int lo), (2, .int k)]) (st' := [.int lo, .int k]) (μ' := μ) (by rfl) ?_
    refine zq_ic hc hH (by rfl) (tg := 20) (by rfl) (fun h5 => ?_) (fun h5 => ?_)
    · have h5 : (decide (k < lo)) = true := decide_eq_true (cm_lt.mp h5)
      refine z_rcs hc hH 2 (pc' := 34) (lv' := [(0, .int so), (1, .int lo), (2, .int k)]) (st' := [.int 0]) (μ' := μ) (by rfl) ?_
      exact zJ hJ1 rfl (by first | with_reducible rfl | (simp only [h3, h5, lb_f, Int64.or_zero, Int32.add_zero, nB_t, nB_f, Bool.not_true, Bool.not_false, Bool.and_true, Bool.true_and, Bool.false_and, Bool.and_false, Bool.or_true, Bool.true_or, Bool.false_or, Bool.or_false, cond_true, cond_false]; done) | rfl) rfl
    · have h5 : (decide (k < lo)) = false := decide_eq_false (cn_lt.mp h5)
      refine z_rcs hc hH 4 (pc' := 13) (lv' := [(0, .int so), (1, .int lo), (2, .int k)]) (st' := [.int (lo + 2), .int k]) (μ' := μ) (by rfl) ?_
      refine zq_ic hc hH (by rfl) (tg := 20) (by rfl) (fun h6 => ?_) (fun h6 => ?_)
      · have h6 : (decide ((lo + 2) < k)) = true := decide_eq_true (cm_gt.mp h6)
        refine z_rcs hc hH 2 (pc' := 34) (lv' := [(0, .int so), (1, .int lo), (2, .int k)]) (st' := [.int 0]) (μ' := μ) (by rfl) ?_
        exact zJ hJ1 rfl (by first | with_reducible rfl | (simp only [h3, h5, h6, lb_f, Int64.or_zero, Int32.add_zero, nB_t, nB_f, Bool.not_true, Bool.not_false, Bool.and_true, Bool.true_and, Bool.false_and, Bool.and_false, Bool.or_true, Bool.true_or, Bool.false_or, Bool.or_false, cond_true, cond_false]; done) | rfl) rfl
      · have h6 : (decide ((lo + 2) < k)) = false := decide_eq_false (cn_gt.mp h6)
        refine z_rcs hc hH 2 (pc' := 34) (lv' := [(0, .int so), (1, .int lo), (2, .int k)]) (st' := [.int 1]) (μ' := μ) (by rfl) ?_
        exact zJ hJ1 rfl (by first | with_reducible rfl | (simp only [h3, h5, h6, lb_f, Int64.or_zero, Int32.add_zero, nB_t, nB_f, Bool.not_true, Bool.not_false, Bool.and_true, Bool.true_and, Bool.false_and, Bool.and_false, Bool.or_true, Bool.true_or, Bool.false_or, Bool.or_false, cond_true, cond_false]; done) | rfl) rfl
theorem fb_X0_baseOf (d : Nat) (hd : 1 ≤ d) (μ : zM) (fu ha : Int32) : z_C d mi_X0_baseOf [.int fu, .int ha] μ (zR μ (.int (bif decide (4 < ha) then bif decide (ha = 5) then (2000 : Int32) else bif decide (7 < ha) then bif decide (10 < ha) then bif decide (12 < ha) then (8000 : Int32) else 6000 else 4000 else 3000 else bif decide (2000 ≤ (fu <<< ((2 + ha) &&& 31))) then (2000 : Int32) else fu <<< ((2 + ha) &&& 31)))) := by
  refine z_C_in (by decide) (by omega) (fun d' Z ed hc hr => ?_)
  have hH : zH mi_X0_baseOf zt_X0_baseOf 79 0 3 := hh_X0_baseOf
  refine z_rcs hc hH 2 (pc' := 2) (lv' := [(0, .int fu), (1, .int ha)]) (st' := [.int 4, .int ha]) (μ' := μ) (by rfl) ?_
  refine zq_ic hc hH (by rfl) (tg := 26) (by rfl) (fun h1 => ?_) (fun h1 => ?_)
  · have h1 : (decide (4 < ha)) = true := decide_eq_true (cm_gt.mp h1)
    refine z_rcs hc hH 2 (pc' := 28) (lv' := [(0, .int fu), (1, .int ha)]) (st' := [.int 5, .int ha]) (μ' := μ) (by rfl) ?_
    refine zq_ic hc hH (by rfl) (tg := 35) (by rfl) (fun h2 => ?_) (fun h2 => ?_)
    · have h2 : (decide (ha = 5)) = false := decide_eq_false (cm_ne.mp h2)
      refine z_rcs hc hH 2 (pc' := 38) (lv' := [(0, .int fu), (1, .int ha)]) (st' := [.int 7, .int ha]) (μ' := μ) (by rfl) ?_
      refine zq_ic hc hH (by rfl) (tg := 45) (by rfl) (fun h3 => ?_) (fun h3 => ?_)
      · have h3 : (decide (7 < ha)) = true := decide_eq_true (cm_gt.mp h3)
        refine z_rcs hc hH 2 (pc' := 48) (lv' := [(0, .int fu), (1, .int ha)]) (st' := [.int 10, .int ha]) (μ' := μ) (by rfl) ?_
        refine zq_ic hc hH (by rfl) (tg := 55) (by rfl) (fun h4 => ?_) (fun h4 => ?_)
        · have h4 : (decide (10 < ha)) = true := decide_eq_true (cm_gt.mp h4)
          refine z_rcs hc hH 2 (pc' := 58) (lv' := [(0, .int fu), (1, .int ha)]) (st' := [.int 12, .int ha]) (μ' := μ) (by rfl) ?_
          have hJ5 : Z 0 70 [(0, .int fu), (1, .int ha)] [.int (bif decide (12 < ha) then (8000 : Int32) else 6000)] μ := by
            exact hr 0 70 _ _ _ (some (.int (bif decide (12 < ha) then (8000 : Int32) else 6000))) (by decide +kernel) (z_rx_ok hH (by rfl)) (⟨rfl, (by simp only [h1, h2, h3, h4, lb_f, Int64.or_zero, Int32.add_zero, nB_t, nB_f, Bool.not_true, Bool.not_false, Bool.and_true, Bool.true_and, Bool.false_and, Bool.and_false, Bool.or_true, Bool.true_or, Bool.false_or, Bool.or_false, cond_true, cond_false])⟩)
          refine zq_ic hc hH (by rfl) (tg := 67) (by rfl) (fun h6 => ?_) (fun h6 => ?_)
          · have h6 : (decide (12 < ha)) = true := decide_eq_true (cm_gt.mp h6)
            refine z_rcs hc hH 1 (pc' := 70) (lv' := [(0, .int fu), (1, .int ha)]) (st' := [.int 8000]) (μ' := μ) (by rfl) ?_
            exact zJ hJ5 rfl (by first | with_reducible rfl | (simp only [h6, lb_f, Int64.or_zero, Int32.add_zero, nB_t, nB_f, Bool.not_true, Bool.not_false, Bool.and_true, Bool.true_and, Bool.false_and, Bool.and_false, Bool.or_true, Bool.true_or, Bool.false_or, Bool.or_false, cond_true, cond_false]; done) | rfl) rfl
          · have h6 : (decide (12 < ha)) = false := decide_eq_false (cn_gt.mp h6)
            refine z_rcs hc hH 2 (pc' := 70) (lv' := [(0, .int fu), (1, .int ha)]) (st' := [.int 6000]) (μ' := μ) (by rfl) ?_
            exact zJ hJ5 rfl (by first | with_reducible rfl | (simp only [h6, lb_f, Int64.or_zero, Int32.add_zero, nB_t, nB_f, Bool.not_true, Bool.not_false, Bool.and_true, Bool.true_and, Bool.false_and, Bool.and_false, Bool.or_true, Bool.true_or, Bool.false_or, Bool.or_false, cond_true, cond_false]; done) | rfl) rfl
        · have h4 : (decide (10 < ha)) = false := decide_eq_false (cn_gt.mp h4)
          refine z_rcs hc hH 1 (pc' := 54) (lv' := [(0, .int fu), (1, .int ha)]) (st' := [.int 4000]) (μ' := μ) (by rfl) ?_
          exact hr 0 54 _ _ _ (some (.int 4000)) (by decide +kernel) (z_rx_ok hH (by rfl)) (⟨rfl, (by simp only [h1, h2, h3, h4, lb_f, Int64.or_zero, Int32.add_zero, nB_t, nB_f, Bool.not_true, Bool.not_false, Bool.and_true, Bool.true_and, Bool.false_and, Bool.and_false, Bool.or_true, Bool.true_or, Bool.false_or, Bool.or_false, cond_true, cond_false])⟩)
      · have h3 : (decide (7 < ha)) = false := decide_eq_false (cn_gt.mp h3)
        refine z_rcs hc hH 1 (pc' := 44) (lv' := [(0, .int fu), (1, .int ha)]) (st' := [.int 3000]) (μ' := μ) (by rfl) ?_
        exact hr 0 44 _ _ _ (some (.int 3000)) (by decide +kernel) (z_rx_ok hH (by rfl)) (⟨rfl, (by simp only [h1, h2, h3, lb_f, Int64.or_zero, Int32.add_zero, nB_t, nB_f, Bool.not_true, Bool.not_false, Bool.and_true, Bool.true_and, Bool.false_and, Bool.and_false, Bool.or_true, Bool.true_or, Bool.false_or, Bool.or_false, cond_true, cond_false])⟩)
    · have h2 : (decide (ha = 5)) = true := decide_eq_true (cn_ne.mp h2)
      refine z_rcs hc hH 1 (pc' := 34) (lv' := [(0, .int fu), (1, .int ha)]) (st' := [.int 2000]) (μ' := μ) (by rfl) ?_
      exact hr 0 34 _ _ _ (some (.int 2000)) (by decide +kernel) (z_rx_ok hH (by rfl)) (⟨rfl, (by simp only [h1, h2, lb_f, Int64.or_zero, Int32.add_zero, nB_t, nB_f, Bool.not_true, Bool.not_false, Bool.and_true, Bool.true_and, Bool.false_and, Bool.and_false, Bool.or_true, Bool.true_or, Bool.false_or, Bool.or_false, cond_true, cond_false])⟩)
  · have h1 : (decide (4 < ha)) = false := decide_eq_false (cn_gt.mp h1)
    refine z_rcs hc hH 8 (pc' := 15) (lv' := [(2, .int (fu <<< ((2 + ha) &&& 31))), (0, .int fu), (1, .int ha)]) (st' := [.int 2000, .int (fu <<< ((2 + ha) &&& 31))]) (μ' := μ) (by rfl) ?_
    have hJ7 : Z 0 25 [(2, .int (fu <<< ((2 + ha) &&& 31))), (0, .int fu), (1, .int ha)] [.int (bif decide (2000 ≤ (fu <<< ((2 + ha) &&& 31))) then (2000 : Int32) else fu <<< ((2 + ha) &&& 31))] μ := by
      generalize hyy8 : (bif decide (2000 ≤ (fu <<< ((2 + ha) &&& 31))) then (2000 : Int32) else fu <<< ((2 + ha) &&& 31) : Int32) = yy8
      exact hr 0 25 _ _ _ (some (.int yy8)) (by decide +kernel) (z_rx_ok hH (by rfl)) (⟨rfl, (by try rw [hyy8]; simp only [h1, lb_f, Int64.or_zero, Int32.add_zero, nB_t, nB_f, Bool.not_true, Bool.not_false, Bool.and_true, Bool.true_and, Bool.false_and, Bool.and_false, Bool.or_true, Bool.true_or, Bool.false_or, Bool.or_false, cond_true, cond_false])⟩)
    refine zq_ic hc hH (by rfl) (tg := 22) (by rfl) (fun h9 => ?_) (fun h9 => ?_)
    · have h9 : (decide (2000 ≤ (fu <<< ((2 + ha) &&& 31)))) = true := decide_eq_true (cm_ge.mp h9)
      refine z_rcs hc hH 1 (pc' := 25) (lv' := [(2, .int (fu <<< ((2 + ha) &&& 31))), (0, .int fu), (1, .int ha)]) (st' := [.int 2000]) (μ' := μ) (by rfl) ?_
      exact zJ hJ7 rfl (by first | with_reducible rfl | (simp only [h9, lb_f, Int64.or_zero, Int32.add_zero, nB_t, nB_f, Bool.not_true, Bool.not_false, Bool.and_true, Bool.true_and, Bool.false_and, Bool.and_false, Bool.or_true, Bool.true_or, Bool.false_or, Bool.or_false, cond_true, cond_false]; done) | rfl) rfl
    · have h9 : (decide (2000 ≤ (fu <<< ((2 + ha) &&& 31)))) = false := decide_eq_false (cn_ge.mp h9)
      refine z_rcs hc hH 2 (pc' := 25) (lv' := [(2, .int (fu <<< ((2 + ha) &&& 31))), (0, .int fu), (1, .int ha)]) (st' := [.int (fu <<< ((2 + ha) &&& 31))]) (μ' := μ) (by rfl) ?_
      exact zJ hJ7 rfl (by first | with_reducible rfl | (simp only [h9, lb_f, Int64.or_zero, Int32.add_zero, nB_t, nB_f, Bool.not_true, Bool.not_false, Bool.and_true, Bool.true_and, Bool.false_and, Bool.and_false, Bool.or_true, Bool.true_or, Bool.false_or, Bool.or_false, cond_true, cond_false]; done) | rfl) rfl
theorem fb_X1_isBetter (d : Nat) (hd : 1 ≤ d) (μ : zM) (b h f : Int32) (fo : Int64) : z_C d mi_X1_isBetter [.ref 14, .int b, .int h, .int f, .long fo] μ (zR μ (.int (nB (bif decide (b = (μ.1 14 0)) then bif decide (h = (μ.1 14 1)) then bif decide (f = (μ.1 14 2)) then !(decide ((lg_cmp fo (μ.2.1 14 3)) ≤ 0)) else !(decide (f ≤ (μ.1 14 2))) else !(decide (h ≤ (μ.1 14 1))) else !(decide (b ≤ (μ.1 14 0))))))) := by
  refine z_C_in (by decide) (by omega) (fun d' Z ed hc hr => ?_)
  have hH : zH mi_X1_isBetter zt_X1_isBetter 79 1 6 := hh_X1_isBetter
  refine z_rcs hc hH 3 (pc' := 5) (lv' := [(0, .ref 14), (1, .int b), (2, .int h), (3, .int f), (4, .long fo)]) (st' := [.int (μ.1 14 0), .int b]) (μ' := μ) (by rfl) ?_
  refine zq_ic hc hH (by rfl) (tg := 22) (by rfl) (fun h1 => ?_) (fun h1 => ?_)
  · have h1 : (decide (b = (μ.1 14 0))) = true := decide_eq_true (cm_eq9.mp h1)
    refine z_rcs hc hH 3 (pc' := 27) (lv' := [(0, .ref 14), (1, .int b), (2, .int h), (3, .int f), (4, .long fo)]) (st' := [.int (μ.1 14 1), .int h]) (μ' := μ) (by rfl) ?_
    refine zq_ic hc hH (by rfl) (tg := 44) (by rfl) (fun h2 => ?_) (fun h2 => ?_)
    · have h2 : (decide (h = (μ.1 14 1))) = true := decide_eq_true (cm_eq9.mp h2)
      refine z_rcs hc hH 3 (pc' := 49) (lv' := [(0, .ref 14), (1, .int b), (2, .int h), (3, .int f), (4, .long fo)]) (st' := [.int (μ.1 14 2), .int f]) (μ' := μ) (by rfl) ?_
      refine zq_ic hc hH (by rfl) (tg := 66) (by rfl) (fun h3 => ?_) (fun h3 => ?_)
      · have h3 : (decide (f = (μ.1 14 2))) = true := decide_eq_true (cm_eq9.mp h3)
        refine z_rcs hc hH 4 (pc' := 73) (lv' := [(0, .ref 14), (1, .int b), (2, .int h), (3, .int f), (4, .long fo)]) (st' := [.int (lg_cmp fo (μ.2.1 14 3))]) (μ' := μ) (by rfl) ?_
        have hJ4 : Z 0 81 [(0, .ref 14), (1, .int b), (2, .int h), (3, .int f), (4, .long fo)] [.int (nB (!(decide ((lg_cmp fo (μ.2.1 14 3)) ≤ 0))))] μ := by
          exact hr 0 81 _ _ _ (some (.int (nB (!(decide ((lg_cmp fo (μ.2.1 14 3)) ≤ 0)))))) (by decide +kernel) ((fun b : Bool => (by cases b <;> rfl : z_rn mi_X1_isBetter 81 [.int (nB b)] = some (some (.int (nB b))))) (!(decide ((lg_cmp fo (μ.2.1 14 3)) ≤ 0)))) (⟨rfl, (by simp only [h1, h2, h3, lb_f, Int64.or_zero, Int32.add_zero, nB_t, nB_f, Bool.not_true, Bool.not_false, Bool.and_true, Bool.true_and, Bool.false_and, Bool.and_false, Bool.or_true, Bool.true_or, Bool.false_or, Bool.or_false, cond_true, cond_false])⟩)
        refine zq_if hc hH (by rfl) (tg := 80) (by rfl) (fun h5 => ?_) (fun h5 => ?_)
        · have h5 : (decide ((lg_cmp fo (μ.2.1 14 3)) ≤ 0)) = true := decide_eq_true (cm_le.mp h5)
          refine z_rcs hc hH 1 (pc' := 81) (lv' := [(0, .ref 14), (1, .int b), (2, .int h), (3, .int f), (4, .long fo)]) (st' := [.int 0]) (μ' := μ) (by rfl) ?_
          exact zJ hJ4 rfl (by first | with_reducible rfl | (simp only [h5, lb_f, Int64.or_zero, Int32.add_zero, nB_t, nB_f, Bool.not_true, Bool.not_false, Bool.and_true, Bool.true_and, Bool.false_and, Bool.and_false, Bool.or_true, Bool.true_or, Bool.false_or, Bool.or_false, cond_true, cond_false]; done) | rfl) rfl
        · have h5 : (decide ((lg_cmp fo (μ.2.1 14 3)) ≤ 0)) = false := decide_eq_false (cn_le.mp h5)
          refine z_rcs hc hH 2 (pc' := 81) (lv' := [(0, .ref 14), (1, .int b), (2, .int h), (3, .int f), (4, .long fo)]) (st' := [.int 1]) (μ' := μ) (by rfl) ?_
          exact zJ hJ4 rfl (by first | with_reducible rfl | (simp only [h5, lb_f, Int64.or_zero, Int32.add_zero, nB_t, nB_f, Bool.not_true, Bool.not_false, Bool.and_true, Bool.true_and, Bool.false_and, Bool.and_false, Bool.or_true, Bool.true_or, Bool.false_or, Bool.or_false, cond_true, cond_false]; done) | rfl) rfl
      · have h3 : (decide (f = (μ.1 14 2))) = false := decide_eq_false (cn_eq.mp h3)
        refine z_rcs hc hH 3 (pc' := 57) (lv' := [(0, .ref 14), (1, .int b), (2, .int h), (3, .int f), (4, .long fo)]) (st' := [.int (μ.1 14 2), .int f]) (μ' := μ) (by rfl) ?_
        have hJ6 : Z 0 65 [(0, .ref 14), (1, .int b), (2, .int h), (3, .int f), (4, .long fo)] [.int (nB (!(decide (f ≤ (μ.1 14 2)))))] μ := by
          exact hr 0 65 _ _ _ (some (.int (nB (!(decide (f ≤ (μ.1 14 2))))))) (by decide +kernel) ((fun b : Bool => (by cases b <;> rfl : z_rn mi_X1_isBetter 65 [.int (nB b)] = some (some (.int (nB b))))) (!(decide (f ≤ (μ.1 14 2))))) (⟨rfl, (by simp only [h1, h2, h3, lb_f, Int64.or_zero, Int32.add_zero, nB_t, nB_f, Bool.not_true, Bool.not_false, Bool.and_true, Bool.true_and, Bool.false_and, Bool.and_false, Bool.or_true, Bool.true_or, Bool.false_or, Bool.or_false, cond_true, cond_false])⟩)
        refine zq_ic hc hH (by rfl) (tg := 64) (by rfl) (fun h7 => ?_) (fun h7 => ?_)
        · have h7 : (decide (f ≤ (μ.1 14 2))) = true := decide_eq_true (cm_le.mp h7)
          refine z_rcs hc hH 1 (pc' := 65) (lv' := [(0, .ref 14), (1, .int b), (2, .int h), (3, .int f), (4, .long fo)]) (st' := [.int 0]) (μ' := μ) (by rfl) ?_
          exact zJ hJ6 rfl (by first | with_reducible rfl | (simp only [h7, lb_f, Int64.or_zero, Int32.add_zero, nB_t, nB_f, Bool.not_true, Bool.not_false, Bool.and_true, Bool.true_and, Bool.false_and, Bool.and_false, Bool.or_true, Bool.true_or, Bool.false_or, Bool.or_false, cond_true, cond_false]; done) | rfl) rfl
        · have h7 : (decide (f ≤ (μ.1 14 2))) = false := decide_eq_false (cn_le.mp h7)
          refine z_rcs hc hH 2 (pc' := 65) (lv' := [(0, .ref 14), (1, .int b), (2, .int h), (3, .int f), (4, .long fo)]) (st' := [.int 1]) (μ' := μ) (by rfl) ?_
          exact zJ hJ6 rfl (by first | with_reducible rfl | (simp only [h7, lb_f, Int64.or_zero, Int32.add_zero, nB_t, nB_f, Bool.not_true, Bool.not_false, Bool.and_true, Bool.true_and, Bool.false_and, Bool.and_false, Bool.or_true, Bool.true_or, Bool.false_or, Bool.or_false, cond_true, cond_false]; done) | rfl) rfl
    · have h2 : (decide (h = (μ.1 14 1))) = false := decide_eq_false (cn_eq.mp h2)
      refine z_rcs hc hH 3 (pc' := 35) (lv' := [(0, .ref 14), (1, .int b), (2, .int h), (3, .int f), (4, .long fo)]) (st' := [.int (μ.1 14 1), .int h]) (μ' := μ) (by rfl) ?_
      have hJ8 : Z 0 43 [(0, .ref 14), (1, .int b), (2, .int h), (3, .int f), (4, .long fo)] [.int (nB (!(decide (h ≤ (μ.1 14 1)))))] μ := by
        exact hr 0 43 _ _ _ (some (.int (nB (!(decide (h ≤ (μ.1 14 1))))))) (by decide +kernel) ((fun b : Bool => (by cases b <;> rfl : z_rn mi_X1_isBetter 43 [.int (nB b)] = some (some (.int (nB b))))) (!(decide (h ≤ (μ.1 14 1))))) (⟨rfl, (by simp only [h1, h2, lb_f, Int64.or_zero, Int32.add_zero, nB_t, nB_f, Bool.not_true, Bool.not_false, Bool.and_true, Bool.true_and, Bool.false_and, Bool.and_false, Bool.or_true, Bool.true_or, Bool.false_or, Bool.or_false, cond_true, cond_false])⟩)
      refine zq_ic hc hH (by rfl) (tg := 42) (by rfl) (fun h9 => ?_) (fun h9 => ?_)
      · have h9 : (decide (h ≤ (μ.1 14 1))) = true := decide_eq_true (cm_le.mp h9)
        refine z_rcs hc hH 1 (pc' := 43) (lv' := [(0, .ref 14), (1, .int b), (2, .int h), (3, .int f), (4, .long fo)]) (st' := [.int 0]) (μ' := μ) (by rfl) ?_
        exact zJ hJ8 rfl (by first | with_reducible rfl | (simp only [h9, lb_f, Int64.or_zero, Int32.add_zero, nB_t, nB_f, Bool.not_true, Bool.not_false, Bool.and_true, Bool.true_and, Bool.false_and, Bool.and_false, Bool.or_true, Bool.true_or, Bool.false_or, Bool.or_false, cond_true, cond_false]; done) | rfl) rfl
      · have h9 : (decide (h ≤ (μ.1 14 1))) = false := decide_eq_false (cn_le.mp h9)
        refine z_rcs hc hH 2 (pc' := 43) (lv' := [(0, .ref 14), (1, .int b), (2, .int h), (3, .int f), (4, .long fo)]) (st' := [.int 1]) (μ' := μ) (by rfl) ?_
        exact zJ hJ8 rfl (by first | with_reducible rfl | (simp only [h9, lb_f, Int64.or_zero, Int32.add_zero, nB_t, nB_f, Bool.not_true, Bool.not_false, Bool.and_true, Bool.true_and, Bool.false_and, Bool.and_false, Bool.or_true, Bool.true_or, Bool.false_or, Bool.or_false, cond_true, cond_false]; done) | rfl) rfl
  · have h1 : (decide (b = (μ.1 14 0))) = false := decide_eq_false (cn_eq.mp h1)
    refine z_rcs hc hH 3 (pc' := 13) (lv' := [(0, .ref 14), (1, .int b), (2, .int h), (3, .int f), (4, .long fo)]) (st' := [.int (μ.1 14 0), .int b]) (μ' := μ) (by rfl) ?_
    have hJ10 : Z 0 21 [(0, .ref 14), (1, .int b), (2, .int h), (3, .int f), (4, .long fo)] [.int (nB (!(decide (b ≤ (μ.1 14 0)))))] μ := by
      exact hr 0 21 _ _ _ (some (.int (nB (!(decide (b ≤ (μ.1 14 0))))))) (by decide +kernel) ((fun b : Bool => (by cases b <;> rfl : z_rn mi_X1_isBetter 21 [.int (nB b)] = some (some (.int (nB b))))) (!(decide (b ≤ (μ.1 14 0))))) (⟨rfl, (by simp only [h1, lb_f, Int64.or_zero, Int32.add_zero, nB_t, nB_f, Bool.not_true, Bool.not_false, Bool.and_true, Bool.true_and, Bool.false_and, Bool.and_false, Bool.or_true, Bool.true_or, Bool.false_or, Bool.or_false, cond_true, cond_false])⟩)
    refine zq_ic hc hH (by rfl) (tg := 20) (by rfl) (fun h11 => ?_) (fun h11 => ?_)
    · have h11 : (decide (b ≤ (μ.1 14 0))) = true := decide_eq_true (cm_le.mp h11)
      refine z_rcs hc hH 1 (pc' := 21) (lv' := [(0, .ref 14), (1, .int b), (2, .int h), (3, .int f), (4, .long fo)]) (st' := [.int 0]) (μ' := μ) (by rfl) ?_
      exact zJ hJ10 rfl (by first | with_reducible rfl | (simp only [h11, lb_f, Int64.or_zero, Int32.add_zero, nB_t, nB_f, Bool.not_true, Bool.not_false, Bool.and_true, Bool.true_and, Bool.false_and, Bool.and_false, Bool.or_true, Bool.true_or, Bool.false_or, Bool.or_false, cond_true, cond_false]; done) | rfl) rfl
    · have h11 : (decide (b ≤ (μ.1 14 0))) = false := decide_eq_false (cn_le.mp h11)
      refine z_rcs hc hH 2 (pc' := 21) (lv' := [(0, .ref 14), (1, .int b), (2, .int h), (3, .int f), (4, .long fo)]) (st' := [.int 1]) (μ' := μ) (by rfl) ?_
      exact zJ hJ10 rfl (by first | with_reducible rfl | (simp only [h11, lb_f, Int64.or_zero, Int32.add_zero, nB_t, nB_f, Bool.not_true, Bool.not_false, Bool.and_true, Bool.true_and, Bool.false_and, Bool.and_false, Bool.or_true, Bool.true_or, Bool.false_or, Bool.or_false, cond_true, cond_false]; done) | rfl) rfl
theorem fb_X1_pairFu (d : Nat) (hd : 1 ≤ d) (μ : zM) : z_C d mi_X1_pairFu [.ref 14] μ (zR μ (.int (((bif decide ((μ.1 14 15) < 31) then (0 : Int32) else 2) + (bif decide ((μ.1 14 15) = (μ.1 14 9)) then (2 : Int32) else 0)) + (bif decide ((μ.1 14 15) = (μ.1 14 10)) then (2 : Int32) else 0)))) := by
  refine z_C_in (by decide) (by omega) (fun d' Z ed hc hr => ?_)
  have hH : zH mi_X1_pairFu zt_X1_pairFu 79 1 1 := hh_X1_pairFu
  refine z_rcs hc hH 3 (pc' := 6) (lv' := [(0, .ref 14)]) (st' := [.int 31, .int (μ.1 14 15)]) (μ' := μ) (by rfl) ?_
  have hJ1 : Z 0 14 [(0, .ref 14)] [.int (bif decide ((μ.1 14 15) < 31) then (0 : Int32) else 2)] μ := by
    refine z_rcs hc hH 4 (pc' := 22) (lv' := [(0, .ref 14)]) (st' := [.int (μ.1 14 9), .int (μ.1 14 15), .int (bif decide ((μ.1 14 15) < 31) then (0 : Int32) else 2)]) (μ' := μ) (by rfl) ?_
    have hJ2 : Z 0 30 [(0, .ref 14)] [.int (bif decide ((μ.1 14 15) = (μ.1 14 9)) then (2 : Int32) else 0), .int (bif decide ((μ.1 14 15) < 31) then (0 : Int32) else 2)] μ := by
      refine z_rcs hc hH 5 (pc' := 39) (lv' := [(0, .ref 14)]) (st' := [.int (μ.1 14 10), .int (μ.1 14 15), .int ((bif decide ((μ.1 14 15) < 31) then (0 : Int32) else 2) + (bif decide ((μ.1 14 15) = (μ.1 14 9)) then (2 : Int32) else 0))]) (μ' := μ) (by rfl) ?_
      have hJ3 : Z 0 47 [(0, .ref 14)] [.int (bif decide ((μ.1 14 15) = (μ.1 14 10)) then (2 : Int32) else 0), .int ((bif decide ((μ.1 14 15) < 31) then (0 : Int32) else 2) + (bif decide ((μ.1 14 15) = (μ.1 14 9)) then (2 : Int32) else 0))] μ := by
        generalize hyy4 : ((bif decide ((μ.1 14 15) < 31) then (0 : Int32) else 2) + (bif decide ((μ.1 14 15) = (μ.1 14 9)) then (2 : Int32) else 0) : Int32) = yy4
        refine z_rcs hc hH 1 (pc' := 48) (lv' := [(0, .ref 14)]) (st' := [.int (yy4 + (bif decide ((μ.1 14 15) = (μ.1 14 10)) then (2 : Int32) else 0))]) (μ' := μ) (by rfl) ?_
        exact hr 0 48 _ _ _ (some (.int (yy4 + (bif decide ((μ.1 14 15) = (μ.1 14 10)) then (2 : Int32) else 0)))) (by decide +kernel) (z_rx_ok hH (by rfl)) (⟨rfl, (by subst hyy4; rfl)⟩)
      refine zq_ic hc hH (by rfl) (tg := 46) (by rfl) (fun h5 => ?_) (fun h5 => ?_)
      · have h5 : (decide ((μ.1 14 15) = (μ.1 14 10))) = false := decide_eq_false (cm_ne.mp h5)
        refine z_rcs hc hH 1 (pc' := 47) (lv' := [(0, .ref 14)]) (st' := [.int 0, .int ((bif decide ((μ.1 14 15) < 31) then (0 : Int32) else 2) + (bif decide ((μ.1 14 15) = (μ.1 14 9)) then (2 : Int32) else 0))]) (μ' := μ) (by rfl) ?_
        exact zJ hJ3 rfl (by first | with_reducible rfl | (simp only [h5, lb_f, Int64.or_zero, Int32.add_zero, nB_t, nB_f, Bool.not_true, Bool.not_false, Bool.and_true, Bool.true_and, Bool.false_and, Bool.and_false, Bool.or_true, Bool.true_or, Bool.false_or, Bool.or_false, cond_true, cond_false]; done) | rfl) rfl
      · have h5 : (decide ((μ.1 14 15) = (μ.1 14 10))) = true := decide_eq_true (cn_ne.mp h5)
        refine z_rcs hc hH 2 (pc' := 47) (lv' := [(0, .ref 14)]) (st' := [.int 2, .int ((bif decide ((μ.1 14 15) < 31) then (0 : Int32) else 2) + (bif decide ((μ.1 14 15) = (μ.1 14 9)) then (2 : Int32) else 0))]) (μ' := μ) (by rfl) ?_
        exact zJ hJ3 rfl (by first | with_reducible rfl | (simp only [h5, lb_f, Int64.or_zero, Int32.add_zero, nB_t, nB_f, Bool.not_true, Bool.not_false, Bool.and_true, Bool.true_and, Bool.false_and, Bool.and_false, Bool.or_true, Bool.true_or, Bool.false_or, Bool.or_false, cond_true, cond_false]; done) | rfl) rfl
    refine zq_ic hc hH (by rfl) (tg := 29) (by rfl) (fun h6 => ?_) (fun h6 => ?_)
    · have h6 : (decide ((μ.1 14 15) = (μ.1 14 9))) = false := decide_eq_false (cm_ne.mp h6)
      refine z_rcs hc hH 1 (pc' := 30) (lv' := [(0, .ref 14)]) (st' := [.int 0, .int (bif decide ((μ.1 14 15) < 31) then (0 : Int32) else 2)]) (μ' := μ) (by rfl) ?_
      exact zJ hJ2 rfl (by first | with_reducible rfl | (simp only [h6, lb_f, Int64.or_zero, Int32.add_zero, nB_t, nB_f, Bool.not_true, Bool.not_false, Bool.and_true, Bool.true_and, Bool.false_and, Bool.and_false, Bool.or_true, Bool.true_or, Bool.false_or, Bool.or_false, cond_true, cond_false]; done) | rfl) rfl
    · have h6 : (decide ((μ.1 14 15) = (μ.1 14 9))) = true := decide_eq_true (cn_ne.mp h6)
      refine z_rcs hc hH 2 (pc' := 30) (lv' := [(0, .ref 14)]) (st' := [.int 2, .int (bif decide ((μ.1 14 15) < 31) then (0 : Int32) else 2)]) (μ' := μ) (by rfl) ?_
      exact zJ hJ2 rfl (by first | with_reducible rfl | (simp only [h6, lb_f, Int64.or_zero, Int32.add_zero, nB_t, nB_f, Bool.not_true, Bool.not_false, Bool.and_true, Bool.true_and, Bool.false_and, Bool.and_false, Bool.or_true, Bool.true_or, Bool.false_or, Bool.or_false, cond_true, cond_false]; done) | rfl) rfl
  refine zq_ic hc hH (by rfl) (tg := 13) (by rfl) (fun h7 => ?_) (fun h7 => ?_)
  · have h7 : (decide ((μ.1 14 15) < 31)) = true := decide_eq_true (cm_lt.mp h7)
    refine z_rcs hc hH 1 (pc' := 14) (lv' := [(0, .ref 14)]) (st' := [.int 0]) (μ' := μ) (by rfl) ?_
    exact zJ hJ1 rfl (by first | with_reducible rfl | (simp only [h7, lb_f, Int64.or_zero, Int32.add_zero, nB_t, nB_f, Bool.not_true, Bool.not_false, Bool.and_true, Bool.true_and, Bool.false_and, Bool.and_false, Bool.or_true, Bool.true_or, Bool.false_or, Bool.or_false, cond_true, cond_false]; done) | rfl) rfl
  · have h7 : (decide ((μ.1 14 15) < 31)) = false := decide_eq_false (cn_lt.mp h7)
    refine z_rcs hc hH 2 (pc' := 14) (lv' := [(0, .ref 14)]) (st' := [.int 2]) (μ' := μ) (by rfl) ?_
    exact zJ hJ1 rfl (by first | with_reducible rfl | (simp only [h7, lb_f, Int64.or_zero, Int32.add_zero, nB_t, nB_f, Bool.not_true, Bool.not_false, Bool.and_true, Bool.true_and, Bool.false_and, Bool.and_false, Bool.or_true, Bool.true_or, Bool.false_or, Bool.or_false, cond_true, cond_false]; done) | rfl) rfl
/-! the class: forms of a way -/
set_option maxRecDepth 8000
theorem fb_X1_bit (d : Nat) (hd : 1 ≤ d) (μ : zM) (e : Bool) (f : Int32) : z_C d mi_X1_bit [.int (nB e), .int f] μ (zR μ (.long (lb e f))) := by
  refine z_C_in (by decide) (by omega) (fun d' Z ed hc hr => ?_)
  have hH : zH mi_X1_bit zt_X1_bit 79 1 2 := hh_X1_bit
  refine z_rcs hc hH 1 (pc' := 1) (lv' := [(0, .int (nB e)), (1, .int f)]) (st' := [.int (nB e)]) (μ' := μ) (by rfl) ?_
  have hJ1 : Z 0 11 [(0, .int (nB e)), (1, .int f)] [.long (bif e then 1 <<< (f.toInt64 &&& 63) else 0)] μ := by
    exact hr 0 11 _ _ _ (some (.long (bif e then 1 <<< (f.toInt64 &&& 63) else 0))) (by decide +kernel) (z_rx_ok hH (by rfl)) (⟨rfl, (by rfl)⟩)
  refine zq_if hc hH (by rfl) (tg := 10) (by rfl) (fun h2 => ?_) (fun h2 => ?_)
  · have h2 : (e) = false := nB_z.mp (cm_eq9.mp h2)
    refine z_rcs hc hH 1 (pc' := 11) (lv' := [(0, .int (nB e)), (1, .int f)]) (st' := [.long 0]) (μ' := μ) (by rfl) ?_
    exact zJ hJ1 rfl (by first | with_reducible rfl | (simp only [h2, lb_f, Int64.or_zero, Int32.add_zero, nB_t, nB_f, Bool.not_true, Bool.not_false, Bool.and_true, Bool.true_and, Bool.false_and, Bool.and_false, Bool.or_true, Bool.true_or, Bool.false_or, Bool.or_false, cond_true, cond_false]; done) | rfl) rfl
  · have h2 : (e) = true := nB_n.mp (cn_eq.mp h2)
    refine z_rcs hc hH 4 (pc' := 11) (lv' := [(0, .int (nB e)), (1, .int f)]) (st' := [.long (1 <<< (f.toInt64 &&& 63))]) (μ' := μ) (by rfl) ?_
    exact zJ hJ1 rfl (by first | with_reducible rfl | (simp only [h2, lb_f, Int64.or_zero, Int32.add_zero, nB_t, nB_f, Bool.not_true, Bool.not_false, Bool.and_true, Bool.true_and, Bool.false_and, Bool.and_false, Bool.or_true, Bool.true_or, Bool.false_or, Bool.or_false, cond_true, cond_false]; done) | rfl) rfl
noncomputable def xHd (ks : Int64) (k : Int32) : Bool := !(decide (k < 0)) && (!(decide (34 ≤ k)) && (!(decide ((lg_cmp (((ks.toUInt64 >>> (k.toInt64.toUInt64 &&& Int64.toUInt64 63)).toInt64) &&& 1) 0) = 0))))
theorem fb_X6_holds (d : Nat) (hd : 1 ≤ d) (μ : zM) (ks : Int64) (k : Int32) : z_C d mi_X6_holds [.long ks, .int k] μ (zR μ (.int (nB (xHd ks k)))) := by
  refine z_C_in (by decide) (by omega) (fun d' Z ed hc hr => ?_)
  have hH : zH mi_X6_holds zt_X6_holds 79 6 3 := hh_X6_holds
  refine z_rcs hc hH 1 (pc' := 1) (lv' := [(0, .long ks), (2, .int k)]) (st' := [.int k]) (μ' := μ) (by rfl) ?_
  have hJ1 : Z 0 25 [(0, .long ks), (2, .int k)] [.int (nB (!(decide (k < 0)) && (!(decide (34 ≤ k)) && (!(decide ((lg_cmp (((ks.toUInt64 >>> (k.toInt64.toUInt64 &&& Int64.toUInt64 63)).toInt64) &&& 1) 0) = 0))))))] μ := by
    generalize hee2 : (!(decide (k < 0)) && (!(decide (34 ≤ k)) && (!(decide ((lg_cmp (((ks.toUInt64 >>> (k.toInt64.toUInt64 &&& Int64.toUInt64 63)).toInt64) &&& 1) 0) = 0))))) = ee2
    exact hr 0 25 _ _ _ (some (.int (nB ee2))) (by decide +kernel) ((fun b : Bool => (by cases b <;> rfl : z_rn mi_X6_holds 25 [.int (nB b)] = some (some (.int (nB b))))) ee2) (⟨rfl, (by subst hee2; rfl)⟩)
  refine zq_if hc hH (by rfl) (tg := 24) (by rfl) (fun h3 => ?_) (fun h3 => ?_)
  · have h3 : (decide (k < 0)) = true := decide_eq_true (cm_lt.mp h3)
    refine z_rcs hc hH 1 (pc' := 25) (lv' := [(0, .long ks), (2, .int k)]) (st' := [.int 0]) (μ' := μ) (by rfl) ?_
    exact zJ hJ1 rfl (by first | with_reducible rfl | (simp only [h3, lb_f, Int64.or_zero, Int32.add_zero, nB_t, nB_f, Bool.not_true, Bool.not_false, Bool.and_true, Bool.true_and, Bool.false_and, Bool.and_false, Bool.or_true, Bool.true_or, Bool.false_or, Bool.or_false, cond_true, cond_false]; done) | rfl) rfl
  · have h3 : (decide (k < 0)) = false := decide_eq_false (cn_lt.mp h3)
    refine z_rcs hc hH 2 (pc' := 7) (lv' := [(0, .long ks), (2, .int k)]) (st' := [.int 34, .int k]) (μ' := μ) (by rfl) ?_
    refine zq_ic hc hH (by rfl) (tg := 24) (by rfl) (fun h4 => ?_) (fun h4 => ?_)
    · have h4 : (decide (34 ≤ k)) = true := decide_eq_true (cm_ge.mp h4)
      refine z_rcs hc hH 1 (pc' := 25) (lv' := [(0, .long ks), (2, .int k)]) (st' := [.int 0]) (μ' := μ) (by rfl) ?_
      exact zJ hJ1 rfl (by first | with_reducible rfl | (simp only [h3, h4, lb_f, Int64.or_zero, Int32.add_zero, nB_t, nB_f, Bool.not_true, Bool.not_false, Bool.and_true, Bool.true_and, Bool.false_and, Bool.and_false, Bool.or_true, Bool.true_or, Bool.false_or, Bool.or_false, cond_true, cond_false]; done) | rfl) rfl
    · have h4 : (decide (34 ≤ k)) = false := decide_eq_false (cn_ge.mp h4)
      refine z_rcs hc hH 7 (pc' := 17) (lv' := [(0, .long ks), (2, .int k)]) (st' := [.int (lg_cmp (((ks.toUInt64 >>> (k.toInt64.toUInt64 &&& Int64.toUInt64 63)).toInt64) &&& 1) 0)]) (μ' := μ) (by rfl) ?_
      refine zq_if hc hH (by rfl) (tg := 24) (by rfl) (fun h5 => ?_) (fun h5 => ?_)
      · have h5 : (decide ((lg_cmp (((ks.toUInt64 >>> (k.toInt64.toUInt64 &&& Int64.toUInt64 63)).toInt64) &&& 1) 0) = 0)) = true := decide_eq_true (cm_eq9.mp h5)
        refine z_rcs hc hH 1 (pc' := 25) (lv' := [(0, .long ks), (2, .int k)]) (st' := [.int 0]) (μ' := μ) (by rfl) ?_
        exact zJ hJ1 rfl (by first | with_reducible rfl | (simp only [h3, h4, h5, lb_f, Int64.or_zero, Int32.add_zero, nB_t, nB_f, Bool.not_true, Bool.not_false, Bool.and_true, Bool.true_and, Bool.false_and, Bool.and_false, Bool.or_true, Bool.true_or, Bool.false_or, Bool.or_false, cond_true, cond_false]; done) | rfl) rfl
      · have h5 : (decide ((lg_cmp (((ks.toUInt64 >>> (k.toInt64.toUInt64 &&& Int64.toUInt64 63)).toInt64) &&& 1) 0) = 0)) = false := decide_eq_false (cn_eq.mp h5)
        refine z_rcs hc hH 2 (pc' := 25) (lv' := [(0, .long ks), (2, .int k)]) (st' := [.int 1]) (μ' := μ) (by rfl) ?_
        exact zJ hJ1 rfl (by first | with_reducible rfl | (simp only [h3, h4, h5, lb_f, Int64.or_zero, Int32.add_zero, nB_t, nB_f, Bool.not_true, Bool.not_false, Bool.and_true, Bool.true_and, Bool.false_and, Bool.and_false, Bool.or_true, Bool.true_or, Bool.false_or, Bool.or_false, cond_true, cond_false]; done) | rfl) rfl
theorem fb_X1_waitFu_0 (d : Nat) (hd : 1 ≤ d) (μ : zM) : z_C d mi_X1_waitFu [.ref 14, .int 0] μ (zR μ (.int (bif decide ((μ.1 15 0) = 0) then bif decide (((μ.1 14 6) - (μ.1 16 0)) = 1) then (2 : Int32) else bif decide (((μ.1 14 6) - (μ.1 16 0)) = 2) then bif decide (((μ.1 16 0) - (μ.1 16 0) / 9 * 9) = 0) then (2 : Int32) else bif decide (((μ.1 14 6) - (μ.1 16 0)) = 0) then bif decide (((μ.1 16 0) - (μ.1 16 0) / 9 * 9) = 6) then (2 : Int32) else 0 else 0 else bif decide (((μ.1 14 6) - (μ.1 16 0)) = 0) then bif decide (((μ.1 16 0) - (μ.1 16 0) / 9 * 9) = 6) then (2 : Int32) else 0 else 0 else 0))) := by
  refine z_C_in (by decide) (by omega) (fun d' Z ed hc hr => ?_)
  have hH : zH mi_X1_waitFu zt_X1_waitFu 79 1 4 := hh_X1_waitFu
  refine z_rcs hc hH 8 (pc' := 16) (lv' := [(0, .ref 14), (1, .int 0)]) (st' := [.int 0, .ref 15]) (μ' := μ) (by rfl) ?_
  refine zq_iald hc hH (by rfl) 4 (by decide +kernel) (show vp_in (nI 0) 4 from vp_in_nI (by decide) (by decide)) ?_
  show Z 0 17 [(0, .ref 14), (1, .int 0)] [.int (μ.1 15 0)] μ
  refine zq_if hc hH (by rfl) (tg := 22) (by rfl) (fun h1 => ?_) (fun h1 => ?_)
  · have h1 : (decide ((μ.1 15 0) = 0)) = true := decide_eq_true (cm_eq9.mp h1)
    refine z_rcs hc hH 3 (pc' := 27) (lv' := [(0, .ref 14), (1, .int 0)]) (st' := [.int 0, .ref 16]) (μ' := μ) (by rfl) ?_
    refine zq_iald hc hH (by rfl) 4 (by decide +kernel) (show vp_in (nI 0) 4 from vp_in_nI (by decide) (by decide)) ?_
    show Z 0 28 [(0, .ref 14), (1, .int 0)] [.int (μ.1 16 0)] μ
    refine z_rcs hc hH 8 (pc' := 41) (lv' := [(2, .int ((μ.1 16 0) - (μ.1 16 0) / 9 * 9)), (0, .ref 14), (1, .int 0)]) (st' := [.int 0, .ref 16, .int (μ.1 14 6)]) (μ' := μ) (by rfl) ?_
    refine zq_iald hc hH (by rfl) 4 (by decide +kernel) (show vp_in (nI 0) 4 from vp_in_nI (by decide) (by decide)) ?_
    show Z 0 42 [(2, .int ((μ.1 16 0) - (μ.1 16 0) / 9 * 9)), (0, .ref 14), (1, .int 0)] [.int (μ.1 16 0), .int (μ.1 14 6)] μ
    refine z_rcs hc hH 4 (pc' := 46) (lv' := [(3, .int ((μ.1 14 6) - (μ.1 16 0))), (2, .int ((μ.1 16 0) - (μ.1 16 0) / 9 * 9)), (0, .ref 14), (1, .int 0)]) (st' := [.int 1, .int ((μ.1 14 6) - (μ.1 16 0))]) (μ' := μ) (by rfl) ?_
    have hJ2 : Z 0 73 [(3, .int ((μ.1 14 6) - (μ.1 16 0))), (2, .int ((μ.1 16 0) - (μ.1 16 0) / 9 * 9)), (0, .ref 14), (1, .int 0)] [.int (bif decide (((μ.1 14 6) - (μ.1 16 0)) = 1) then (2 : Int32) else bif decide (((μ.1 14 6) - (μ.1 16 0)) = 2) then bif decide (((μ.1 16 0) - (μ.1 16 0) / 9 * 9) = 0) then (2 : Int32) else bif decide (((μ.1 14 6) - (μ.1 16 0)) = 0) then bif decide (((μ.1 16 0) - (μ.1 16 0) / 9 * 9) = 6) then (2 : Int32) else 0 else 0 else bif decide (((μ.1 14 6) - (μ.1 16 0)) = 0) then bif decide (((μ.1 16 0) - (μ.1 16 0) / 9 * 9) = 6) then (2 : Int32) else 0 else 0)] μ := by
      generalize hyy3 : (bif decide (((μ.1 14 6) - (μ.1 16 0)) = 1) then (2 : Int32) else bif decide (((μ.1 14 6) - (μ.1 16 0)) = 2) then bif decide (((μ.1 16 0) - (μ.1 16 0) / 9 * 9) = 0) then (2 : Int32) else bif decide (((μ.1 14 6) - (μ.1 16 0)) = 0) then bif decide (((μ.1 16 0) - (μ.1 16 0) / 9 * 9) = 6) then (2 : Int32) else 0 else 0 else bif decide (((μ.1 14 6) - (μ.1 16 0)) = 0) then bif decide (((μ.1 16 0) - (μ.1 16 0) / 9 * 9) = 6) then (2 : Int32) else 0 else 0 : Int32) = yy3
      exact hr 0 73 _ _ _ (some (.int yy3)) (by decide +kernel) (z_rx_ok hH (by rfl)) (⟨rfl, (by try rw [hyy3]; simp only [h1, lb_f, Int64.or_zero, Int32.add_zero, nB_t, nB_f, Bool.not_true, Bool.not_false, Bool.and_true, Bool.true_and, Bool.false_and, Bool.and_false, Bool.or_true, Bool.true_or, Bool.false_or, Bool.or_false, cond_true, cond_false])⟩)
    refine zq_ic hc hH (by rfl) (tg := 68) (by rfl) (fun h4 => ?_) (fun h4 => ?_)
    · have h4 : (decide (((μ.1 14 6) - (μ.1 16 0)) = 1)) = true := decide_eq_true (cm_eq9.mp h4)
      refine z_rcs hc hH 2 (pc' := 73) (lv' := [(3, .int ((μ.1 14 6) - (μ.1 16 0))), (2, .int ((μ.1 16 0) - (μ.1 16 0) / 9 * 9)), (0, .ref 14), (1, .int 0)]) (st' := [.int 2]) (μ' := μ) (by rfl) ?_
      exact zJ hJ2 rfl (by first | with_reducible rfl | (simp only [h4, lb_f, Int64.or_zero, Int32.add_zero, nB_t, nB_f, Bool.not_true, Bool.not_false, Bool.and_true, Bool.true_and, Bool.false_and, Bool.and_false, Bool.or_true, Bool.true_or, Bool.false_or, Bool.or_false, cond_true, cond_false]; done) | rfl) rfl
    · have h4 : (decide (((μ.1 14 6) - (μ.1 16 0)) = 1)) = false := decide_eq_false (cn_eq.mp h4)
      refine z_rcs hc hH 2 (pc' := 51) (lv' := [(3, .int ((μ.1 14 6) - (μ.1 16 0))), (2, .int ((μ.1 16 0) - (μ.1 16 0) / 9 * 9)), (0, .ref 14), (1, .int 0)]) (st' := [.int 2, .int ((μ.1 14 6) - (μ.1 16 0))]) (μ' := μ) (by rfl) ?_
      refine zq_ic hc hH (by rfl) (tg := 58) (by rfl) (fun h5 => ?_) (fun h5 => ?_)
      · have h5 : (decide (((μ.1 14 6) - (μ.1 16 0)) = 2)) = false := decide_eq_false (cm_ne.mp h5)
        refine z_rcs hc hH 1 (pc' := 59) (lv' := [(3, .int ((μ.1 14 6) - (μ.1 16 0))), (2, .int ((μ.1 16 0) - (μ.1 16 0) / 9 * 9)), (0, .ref 14), (1, .int 0)]) (st' := [.int ((μ.1 14 6) - (μ.1 16 0))]) (μ' := μ) (by rfl) ?_
        refine zq_if hc hH (by rfl) (tg := 72) (by rfl) (fun h6 => ?_) (fun h6 => ?_)
        · have h6 : (decide (((μ.1 14 6) - (μ.1 16 0)) = 0)) = false := decide_eq_false (cm_ne.mp h6)
          refine z_rcs hc hH 1 (pc' := 73) (lv' := [(3, .int ((μ.1 14 6) - (μ.1 16 0))), (2, .int ((μ.1 16 0) - (μ.1 16 0) / 9 * 9)), (0, .ref 14), (1, .int 0)]) (st' := [.int 0]) (μ' := μ) (by rfl) ?_
          exact zJ hJ2 rfl (by first | with_reducible rfl | (simp only [h4, h5, h6, lb_f, Int64.or_zero, Int32.add_zero, nB_t, nB_f, Bool.not_true, Bool.not_false, Bool.and_true, Bool.true_and, Bool.false_and, Bool.and_false, Bool.or_true, Bool.true_or, Bool.false_or, Bool.or_false, cond_true, cond_false]; done) | rfl) rfl
        · have h6 : (decide (((μ.1 14 6) - (μ.1 16 0)) = 0)) = true := decide_eq_true (cn_ne.mp h6)
          refine z_rcs hc hH 2 (pc' := 65) (lv' := [(3, .int ((μ.1 14 6) - (μ.1 16 0))), (2, .int ((μ.1 16 0) - (μ.1 16 0) / 9 * 9)), (0, .ref 14), (1, .int 0)]) (st' := [.int 6, .int ((μ.1 16 0) - (μ.1 16 0) / 9 * 9)]) (μ' := μ) (by rfl) ?_
          refine zq_ic hc hH (by rfl) (tg := 72) (by rfl) (fun h7 => ?_) (fun h7 => ?_)
          · have h7 : (decide (((μ.1 16 0) - (μ.1 16 0) / 9 * 9) = 6)) = false := decide_eq_false (cm_ne.mp h7)
            refine z_rcs hc hH 1 (pc' := 73) (lv' := [(3, .int ((μ.1 14 6) - (μ.1 16 0))), (2, .int ((μ.1 16 0) - (μ.1 16 0) / 9 * 9)), (0, .ref 14), (1, .int 0)]) (st' := [.int 0]) (μ' := μ) (by rfl) ?_
            exact zJ hJ2 rfl (by first | with_reducible rfl | (simp only [h4, h5, h6, h7, lb_f, Int64.or_zero, Int32.add_zero, nB_t, nB_f, Bool.not_true, Bool.not_false, Bool.and_true, Bool.true_and, Bool.false_and, Bool.and_false, Bool.or_true, Bool.true_or, Bool.false_or, Bool.or_false, cond_true, cond_false]; done) | rfl) rfl
          · have h7 : (decide (((μ.1 16 0) - (μ.1 16 0) / 9 * 9) = 6)) = true := decide_eq_true (cn_ne.mp h7)
            refine z_rcs hc hH 2 (pc' := 73) (lv' := [(3, .int ((μ.1 14 6) - (μ.1 16 0))), (2, .int ((μ.1 16 0) - (μ.1 16 0) / 9 * 9)), (0, .ref 14), (1, .int 0)]) (st' := [.int 2]) (μ' := μ) (by rfl) ?_
            exact zJ hJ2 rfl (by first | with_reducible rfl | (simp only [h4, h5, h6, h7, lb_f, Int64.or_zero, Int32.add_zero, nB_t, nB_f, Bool.not_true, Bool.not_false, Bool.and_true, Bool.true_and, Bool.false_and, Bool.and_false, Bool.or_true, Bool.true_or, Bool.false_or, Bool.or_false, cond_true, cond_false]; done) | rfl) rfl
      · have h5 : (decide (((μ.1 14 6) - (μ.1 16 0)) = 2)) = true := decide_eq_true (cn_ne.mp h5)
        refine z_rcs hc hH 1 (pc' := 55) (lv' := [(3, .int ((μ.1 14 6) - (μ.1 16 0))), (2, .int ((μ.1 16 0) - (μ.1 16 0) / 9 * 9)), (0, .ref 14), (1, .int 0)]) (st' := [.int ((μ.1 16 0) - (μ.1 16 0) / 9 * 9)]) (μ' := μ) (by rfl) ?_
        refine zq_if hc hH (by rfl) (tg := 68) (by rfl) (fun h8 => ?_) (fun h8 => ?_)
        · have h8 : (decide (((μ.1 16 0) - (μ.1 16 0) / 9 * 9) = 0)) = true := decide_eq_true (cm_eq9.mp h8)
          refine z_rcs hc hH 2 (pc' := 73) (lv' := [(3, .int ((μ.1 14 6) - (μ.1 16 0))), (2, .int ((μ.1 16 0) - (μ.1 16 0) / 9 * 9)), (0, .ref 14), (1, .int 0)]) (st' := [.int 2]) (μ' := μ) (by rfl) ?_
          exact zJ hJ2 rfl (by first | with_reducible rfl | (simp only [h4, h5, h8, lb_f, Int64.or_zero, Int32.add_zero, nB_t, nB_f, Bool.not_true, Bool.not_false, Bool.and_true, Bool.true_and, Bool.false_and, Bool.and_false, Bool.or_true, Bool.true_or, Bool.false_or, Bool.or_false, cond_true, cond_false]; done) | rfl) rfl
        · have h8 : (decide (((μ.1 16 0) - (μ.1 16 0) / 9 * 9) = 0)) = false := decide_eq_false (cn_eq.mp h8)
          refine z_rcs hc hH 1 (pc' := 59) (lv' := [(3, .int ((μ.1 14 6) - (μ.1 16 0))), (2, .int ((μ.1 16 0) - (μ.1 16 0) / 9 * 9)), (0, .ref 14), (1, .int 0)]) (st' := [.int ((μ.1 14 6) - (μ.1 16 0))]) (μ' := μ) (by rfl) ?_
          refine zq_if hc hH (by rfl) (tg := 72) (by rfl) (fun h9 => ?_) (fun h9 => ?_)
          · have h9 : (decide (((μ.1 14 6) - (μ.1 16 0)) = 0)) = false := decide_eq_false (cm_ne.mp h9)
            refine z_rcs hc hH 1 (pc' := 73) (lv' := [(3, .int ((μ.1 14 6) - (μ.1 16 0))), (2, .int ((μ.1 16 0) - (μ.1 16 0) / 9 * 9)), (0, .ref 14), (1, .int 0)]) (st' := [.int 0]) (μ' := μ) (by rfl) ?_
            exact zJ hJ2 rfl (by first | with_reducible rfl | (simp only [h4, h5, h8, h9, lb_f, Int64.or_zero, Int32.add_zero, nB_t, nB_f, Bool.not_true, Bool.not_false, Bool.and_true, Bool.true_and, Bool.false_and, Bool.and_false, Bool.or_true, Bool.true_or, Bool.false_or, Bool.or_false, cond_true, cond_false]; done) | rfl) rfl
          · have h9 : (decide (((μ.1 14 6) - (μ.1 16 0)) = 0)) = true := decide_eq_true (cn_ne.mp h9)
            refine z_rcs hc hH 2 (pc' := 65) (lv' := [(3, .int ((μ.1 14 6) - (μ.1 16 0))), (2, .int ((μ.1 16 0) - (μ.1 16 0) / 9 * 9)), (0, .ref 14), (1, .int 0)]) (st' := [.int 6, .int ((μ.1 16 0) - (μ.1 16 0) / 9 * 9)]) (μ' := μ) (by rfl) ?_
            refine zq_ic hc hH (by rfl) (tg := 72) (by rfl) (fun h10 => ?_) (fun h10 => ?_)
            · have h10 : (decide (((μ.1 16 0) - (μ.1 16 0) / 9 * 9) = 6)) = false := decide_eq_false (cm_ne.mp h10)
              refine z_rcs hc hH 1 (pc' := 73) (lv' := [(3, .int ((μ.1 14 6) - (μ.1 16 0))), (2, .int ((μ.1 16 0) - (μ.1 16 0) / 9 * 9)), (0, .ref 14), (1, .int 0)]) (st' := [.int 0]) (μ' := μ) (by rfl) ?_
              exact zJ hJ2 rfl (by first | with_reducible rfl | (simp only [h4, h5, h8, h9, h10, lb_f, Int64.or_zero, Int32.add_zero, nB_t, nB_f, Bool.not_true, Bool.not_false, Bool.and_true, Bool.true_and, Bool.false_and, Bool.and_false, Bool.or_true, Bool.true_or, Bool.false_or, Bool.or_false, cond_true, cond_false]; done) | rfl) rfl
            · have h10 : (decide (((μ.1 16 0) - (μ.1 16 0) / 9 * 9) = 6)) = true := decide_eq_true (cn_ne.mp h10)
              refine z_rcs hc hH 2 (pc' := 73) (lv' := [(3, .int ((μ.1 14 6) - (μ.1 16 0))), (2, .int ((μ.1 16 0) - (μ.1 16 0) / 9 * 9)), (0, .ref 14), (1, .int 0)]) (st' := [.int 2]) (μ' := μ) (by rfl) ?_
              exact zJ hJ2 rfl (by first | with_reducible rfl | (simp only [h4, h5, h8, h9, h10, lb_f, Int64.or_zero, Int32.add_zero, nB_t, nB_f, Bool.not_true, Bool.not_false, Bool.and_true, Bool.true_and, Bool.false_and, Bool.and_false, Bool.or_true, Bool.true_or, Bool.false_or, Bool.or_false, cond_true, cond_false]; done) | rfl) rfl
  · have h1 : (decide ((μ.1 15 0) = 0)) = false := decide_eq_false (cn_eq.mp h1)
    refine z_rcs hc hH 1 (pc' := 21) (lv' := [(0, .ref 14), (1, .int 0)]) (st' := [.int 0]) (μ' := μ) (by rfl) ?_
    exact hr 0 21 _ _ _ (some (.int 0)) (by decide +kernel) (z_rx_ok hH (by rfl)) (⟨rfl, (by simp only [h1, lb_f, Int64.or_zero, Int32.add_zero, nB_t, nB_f, Bool.not_true, Bool.not_false, Bool.and_true, Bool.true_and, Bool.false_and, Bool.and_false, Bool.or_true, Bool.true_or, Bool.false_or, Bool.or_false, cond_true, cond_false])⟩)
theorem fb_X1_waitFu_1 (d : Nat) (hd : 1 ≤ d) (μ : zM) : z_C d mi_X1_waitFu [.ref 14, .int 1] μ (zR μ (.int (bif decide ((μ.1 15 1) = 0) then bif decide (((μ.1 14 6) - (μ.1 16 1)) = 1) then (2 : Int32) else bif decide (((μ.1 14 6) - (μ.1 16 1)) = 2) then bif decide (((μ.1 16 1) - (μ.1 16 1) / 9 * 9) = 0) then (2 : Int32) else bif decide (((μ.1 14 6) - (μ.1 16 1)) = 0) then bif decide (((μ.1 16 1) - (μ.1 16 1) / 9 * 9) = 6) then (2 : Int32) else 0 else 0 else bif decide (((μ.1 14 6) - (μ.1 16 1)) = 0) then bif decide (((μ.1 16 1) - (μ.1 16 1) / 9 * 9) = 6) then (2 : Int32) else 0 else 0 else 0))) := by
  refine z_C_in (by decide) (by omega) (fun d' Z ed hc hr => ?_)
  have hH : zH mi_X1_waitFu zt_X1_waitFu 79 1 4 := hh_X1_waitFu
  refine z_rcs hc hH 8 (pc' := 16) (lv' := [(0, .ref 14), (1, .int 1)]) (st' := [.int 1, .ref 15]) (μ' := μ) (by rfl) ?_
  refine zq_iald hc hH (by rfl) 4 (by decide +kernel) (show vp_in (nI 1) 4 from vp_in_nI (by decide) (by decide)) ?_
  show Z 0 17 [(0, .ref 14), (1, .int 1)] [.int (μ.1 15 1)] μ
  refine zq_if hc hH (by rfl) (tg := 22) (by rfl) (fun h1 => ?_) (fun h1 => ?_)
  · have h1 : (decide ((μ.1 15 1) = 0)) = true := decide_eq_true (cm_eq9.mp h1)
    refine z_rcs hc hH 3 (pc' := 27) (lv' := [(0, .ref 14), (1, .int 1)]) (st' := [.int 1, .ref 16]) (μ' := μ) (by rfl) ?_
    refine zq_iald hc hH (by rfl) 4 (by decide +kernel) (show vp_in (nI 1) 4 from vp_in_nI (by decide) (by decide)) ?_
    show Z 0 28 [(0, .ref 14), (1, .int 1)] [.int (μ.1 16 1)] μ
    refine z_rcs hc hH 8 (pc' := 41) (lv' := [(2, .int ((μ.1 16 1) - (μ.1 16 1) / 9 * 9)), (0, .ref 14), (1, .int 1)]) (st' := [.int 1, .ref 16, .int (μ.1 14 6)]) (μ' := μ) (by rfl) ?_
    refine zq_iald hc hH (by rfl) 4 (by decide +kernel) (show vp_in (nI 1) 4 from vp_in_nI (by decide) (by decide)) ?_
    show Z 0 42 [(2, .int ((μ.1 16 1) - (μ.1 16 1) / 9 * 9)), (0, .ref 14), (1, .int 1)] [.int (μ.1 16 1), .int (μ.1 14 6)] μ
    refine z_rcs hc hH 4 (pc' := 46) (lv' := [(3, .int ((μ.1 14 6) - (μ.1 16 1))), (2, .int ((μ.1 16 1) - (μ.1 16 1) / 9 * 9)), (0, .ref 14), (1, .int 1)]) (st' := [.int 1, .int ((μ.1 14 6) - (μ.1 16 1))]) (μ' := μ) (by rfl) ?_
    have hJ2 : Z 0 73 [(3, .int ((μ.1 14 6) - (μ.1 16 1))), (2, .int ((μ.1 16 1) - (μ.1 16 1) / 9 * 9)), (0, .ref 14), (1, .int 1)] [.int (bif decide (((μ.1 14 6) - (μ.1 16 1)) = 1) then (2 : Int32) else bif decide (((μ.1 14 6) - (μ.1 16 1)) = 2) then bif decide (((μ.1 16 1) - (μ.1 16 1) / 9 * 9) = 0) then (2 : Int32) else bif decide (((μ.1 14 6) - (μ.1 16 1)) = 0) then bif decide (((μ.1 16 1) - (μ.1 16 1) / 9 * 9) = 6) then (2 : Int32) else 0 else 0 else bif decide (((μ.1 14 6) - (μ.1 16 1)) = 0) then bif decide (((μ.1 16 1) - (μ.1 16 1) / 9 * 9) = 6) then (2 : Int32) else 0 else 0)] μ := by
      generalize hyy3 : (bif decide (((μ.1 14 6) - (μ.1 16 1)) = 1) then (2 : Int32) else bif decide (((μ.1 14 6) - (μ.1 16 1)) = 2) then bif decide (((μ.1 16 1) - (μ.1 16 1) / 9 * 9) = 0) then (2 : Int32) else bif decide (((μ.1 14 6) - (μ.1 16 1)) = 0) then bif decide (((μ.1 16 1) - (μ.1 16 1) / 9 * 9) = 6) then (2 : Int32) else 0 else 0 else bif decide (((μ.1 14 6) - (μ.1 16 1)) = 0) then bif decide (((μ.1 16 1) - (μ.1 16 1) / 9 * 9) = 6) then (2 : Int32) else 0 else 0 : Int32) = yy3
      exact hr 0 73 _ _ _ (some (.int yy3)) (by decide +kernel) (z_rx_ok hH (by rfl)) (⟨rfl, (by try rw [hyy3]; simp only [h1, lb_f, Int64.or_zero, Int32.add_zero, nB_t, nB_f, Bool.not_true, Bool.not_false, Bool.and_true, Bool.true_and, Bool.false_and, Bool.and_false, Bool.or_true, Bool.true_or, Bool.false_or, Bool.or_false, cond_true, cond_false])⟩)
    refine zq_ic hc hH (by rfl) (tg := 68) (by rfl) (fun h4 => ?_) (fun h4 => ?_)
    · have h4 : (decide (((μ.1 14 6) - (μ.1 16 1)) = 1)) = true := decide_eq_true (cm_eq9.mp h4)
      refine z_rcs hc hH 2 (pc' := 73) (lv' := [(3, .int ((μ.1 14 6) - (μ.1 16 1))), (2, .int ((μ.1 16 1) - (μ.1 16 1) / 9 * 9)), (0, .ref 14), (1, .int 1)]) (st' := [.int 2]) (μ' := μ) (by rfl) ?_
      exact zJ hJ2 rfl (by first | with_reducible rfl | (simp only [h4, lb_f, Int64.or_zero, Int32.add_zero, nB_t, nB_f, Bool.not_true, Bool.not_false, Bool.and_true, Bool.true_and, Bool.false_and, Bool.and_false, Bool.or_true, Bool.true_or, Bool.false_or, Bool.or_false, cond_true, cond_false]; done) | rfl) rfl
    · have h4 : (decide (((μ.1 14 6) - (μ.1 16 1)) = 1)) = false := decide_eq_false (cn_eq.mp h4)
      refine z_rcs hc hH 2 (pc' := 51) (lv' := [(3, .int ((μ.1 14 6) - (μ.1 16 1))), (2, .int ((μ.1 16 1) - (μ.1 16 1) / 9 * 9)), (0, .ref 14), (1, .int 1)]) (st' := [.int 2, .int ((μ.1 14 6) - (μ.1 16 1))]) (μ' := μ) (by rfl) ?_
      refine zq_ic hc hH (by rfl) (tg := 58) (by rfl) (fun h5 => ?_) (fun h5 => ?_)
      · have h5 : (decide (((μ.1 14 6) - (μ.1 16 1)) = 2)) = false := decide_eq_false (cm_ne.mp h5)
        refine z_rcs hc hH 1 (pc' := 59) (lv' := [(3, .int ((μ.1 14 6) - (μ.1 16 1))), (2, .int ((μ.1 16 1) - (μ.1 16 1) / 9 * 9)), (0, .ref 14), (1, .int 1)]) (st' := [.int ((μ.1 14 6) - (μ.1 16 1))]) (μ' := μ) (by rfl) ?_
        refine zq_if hc hH (by rfl) (tg := 72) (by rfl) (fun h6 => ?_) (fun h6 => ?_)
        · have h6 : (decide (((μ.1 14 6) - (μ.1 16 1)) = 0)) = false := decide_eq_false (cm_ne.mp h6)
          refine z_rcs hc hH 1 (pc' := 73) (lv' := [(3, .int ((μ.1 14 6) - (μ.1 16 1))), (2, .int ((μ.1 16 1) - (μ.1 16 1) / 9 * 9)), (0, .ref 14), (1, .int 1)]) (st' := [.int 0]) (μ' := μ) (by rfl) ?_
          exact zJ hJ2 rfl (by first | with_reducible rfl | (simp only [h4, h5, h6, lb_f, Int64.or_zero, Int32.add_zero, nB_t, nB_f, Bool.not_true, Bool.not_false, Bool.and_true, Bool.true_and, Bool.false_and, Bool.and_false, Bool.or_true, Bool.true_or, Bool.false_or, Bool.or_false, cond_true, cond_false]; done) | rfl) rfl
        · have h6 : (decide (((μ.1 14 6) - (μ.1 16 1)) = 0)) = true := decide_eq_true (cn_ne.mp h6)
          refine z_rcs hc hH 2 (pc' := 65) (lv' := [(3, .int ((μ.1 14 6) - (μ.1 16 1))), (2, .int ((μ.1 16 1) - (μ.1 16 1) / 9 * 9)), (0, .ref 14), (1, .int 1)]) (st' := [.int 6, .int ((μ.1 16 1) - (μ.1 16 1) / 9 * 9)]) (μ' := μ) (by rfl) ?_
          refine zq_ic hc hH (by rfl) (tg := 72) (by rfl) (fun h7 => ?_) (fun h7 => ?_)
          · have h7 : (decide (((μ.1 16 1) - (μ.1 16 1) / 9 * 9) = 6)) = false := decide_eq_false (cm_ne.mp h7)
            refine z_rcs hc hH 1 (pc' := 73) (lv' := [(3, .int ((μ.1 14 6) - (μ.1 16 1))), (2, .int ((μ.1 16 1) - (μ.1 16 1) / 9 * 9)), (0, .ref 14), (1, .int 1)]) (st' := [.int 0]) (μ' := μ) (by rfl) ?_
            exact zJ hJ2 rfl (by first | with_reducible rfl | (simp only [h4, h5, h6, h7, lb_f, Int64.or_zero, Int32.add_zero, nB_t, nB_f, Bool.not_true, Bool.not_false, Bool.and_true, Bool.true_and, Bool.false_and, Bool.and_false, Bool.or_true, Bool.true_or, Bool.false_or, Bool.or_false, cond_true, cond_false]; done) | rfl) rfl
          · have h7 : (decide (((μ.1 16 1) - (μ.1 16 1) / 9 * 9) = 6)) = true := decide_eq_true (cn_ne.mp h7)
            refine z_rcs hc hH 2 (pc' := 73) (lv' := [(3, .int ((μ.1 14 6) - (μ.1 16 1))), (2, .int ((μ.1 16 1) - (μ.1 16 1) / 9 * 9)), (0, .ref 14), (1, .int 1)]) (st' := [.int 2]) (μ' := μ) (by rfl) ?_
            exact zJ hJ2 rfl (by first | with_reducible rfl | (simp only [h4, h5, h6, h7, lb_f, Int64.or_zero, Int32.add_zero, nB_t, nB_f, Bool.not_true, Bool.not_false, Bool.and_true, Bool.true_and, Bool.false_and, Bool.and_false, Bool.or_true, Bool.true_or, Bool.false_or, Bool.or_false, cond_true, cond_false]; done) | rfl) rfl
      · have h5 : (decide (((μ.1 14 6) - (μ.1 16 1)) = 2)) = true := decide_eq_true (cn_ne.mp h5)
        refine z_rcs hc hH 1 (pc' := 55) (lv' := [(3, .int ((μ.1 14 6) - (μ.1 16 1))), (2, .int ((μ.1 16 1) - (μ.1 16 1) / 9 * 9)), (0, .ref 14), (1, .int 1)]) (st' := [.int ((μ.1 16 1) - (μ.1 16 1) / 9 * 9)]) (μ' := μ) (by rfl) ?_
        refine zq_if hc hH (by rfl) (tg := 68) (by rfl) (fun h8 => ?_) (fun h8 => ?_)
        · have h8 : (decide (((μ.1 16 1) - (μ.1 16 1) / 9 * 9) = 0)) = true := decide_eq_true (cm_eq9.mp h8)
          refine z_rcs hc hH 2 (pc' := 73) (lv' := [(3, .int ((μ.1 14 6) - (μ.1 16 1))), (2, .int ((μ.1 16 1) - (μ.1 16 1) / 9 * 9)), (0, .ref 14), (1, .int 1)]) (st' := [.int 2]) (μ' := μ) (by rfl) ?_
          exact zJ hJ2 rfl (by first | with_reducible rfl | (simp only [h4, h5, h8, lb_f, Int64.or_zero, Int32.add_zero, nB_t, nB_f, Bool.not_true, Bool.not_false, Bool.and_true, Bool.true_and, Bool.false_and, Bool.and_false, Bool.or_true, Bool.true_or, Bool.false_or, Bool.or_false, cond_true, cond_false]; done) | rfl) rfl
        · have h8 : (decide (((μ.1 16 1) - (μ.1 16 1) / 9 * 9) = 0)) = false := decide_eq_false (cn_eq.mp h8)
          refine z_rcs hc hH 1 (pc' := 59) (lv' := [(3, .int ((μ.1 14 6) - (μ.1 16 1))), (2, .int ((μ.1 16 1) - (μ.1 16 1) / 9 * 9)), (0, .ref 14), (1, .int 1)]) (st' := [.int ((μ.1 14 6) - (μ.1 16 1))]) (μ' := μ) (by rfl) ?_
          refine zq_if hc hH (by rfl) (tg := 72) (by rfl) (fun h9 => ?_) (fun h9 => ?_)
          · have h9 : (decide (((μ.1 14 6) - (μ.1 16 1)) = 0)) = false := decide_eq_false (cm_ne.mp h9)
            refine z_rcs hc hH 1 (pc' := 73) (lv' := [(3, .int ((μ.1 14 6) - (μ.1 16 1))), (2, .int ((μ.1 16 1) - (μ.1 16 1) / 9 * 9)), (0, .ref 14), (1, .int 1)]) (st' := [.int 0]) (μ' := μ) (by rfl) ?_
            exact zJ hJ2 rfl (by first | with_reducible rfl | (simp only [h4, h5, h8, h9, lb_f, Int64.or_zero, Int32.add_zero, nB_t, nB_f, Bool.not_true, Bool.not_false, Bool.and_true, Bool.true_and, Bool.false_and, Bool.and_false, Bool.or_true, Bool.true_or, Bool.false_or, Bool.or_false, cond_true, cond_false]; done) | rfl) rfl
          · have h9 : (decide (((μ.1 14 6) - (μ.1 16 1)) = 0)) = true := decide_eq_true (cn_ne.mp h9)
            refine z_rcs hc hH 2 (pc' := 65) (lv' := [(3, .int ((μ.1 14 6) - (μ.1 16 1))), (2, .int ((μ.1 16 1) - (μ.1 16 1) / 9 * 9)), (0, .ref 14), (1, .int 1)]) (st' := [.int 6, .int ((μ.1 16 1) - (μ.1 16 1) / 9 * 9)]) (μ' := μ) (by rfl) ?_
            refine zq_ic hc hH (by rfl) (tg := 72) (by rfl) (fun h10 => ?_) (fun h10 => ?_)
            · have h10 : (decide (((μ.1 16 1) - (μ.1 16 1) / 9 * 9) = 6)) = false := decide_eq_false (cm_ne.mp h10)
              refine z_rcs hc hH 1 (pc' := 73) (lv' := [(3, .int ((μ.1 14 6) - (μ.1 16 1))), (2, .int ((μ.1 16 1) - (μ.1 16 1) / 9 * 9)), (0, .ref 14), (1, .int 1)]) (st' := [.int 0]) (μ' := μ) (by rfl) ?_
              exact zJ hJ2 rfl (by first | with_reducible rfl | (simp only [h4, h5, h8, h9, h10, lb_f, Int64.or_zero, Int32.add_zero, nB_t, nB_f, Bool.not_true, Bool.not_false, Bool.and_true, Bool.true_and, Bool.false_and, Bool.and_false, Bool.or_true, Bool.true_or, Bool.false_or, Bool.or_false, cond_true, cond_false]; done) | rfl) rfl
            · have h10 : (decide (((μ.1 16 1) - (μ.1 16 1) / 9 * 9) = 6)) = true := decide_eq_true (cn_ne.mp h10)
              refine z_rcs hc hH 2 (pc' := 73) (lv' := [(3, .int ((μ.1 14 6) - (μ.1 16 1))), (2, .int ((μ.1 16 1) - (μ.1 16 1) / 9 * 9)), (0, .ref 14), (1, .int 1)]) (st' := [.int 2]) (μ' := μ) (by rfl) ?_
              exact zJ hJ2 rfl (by first | with_reducible rfl | (simp only [h4, h5, h8, h9, h10, lb_f, Int64.or_zero, Int32.add_zero, nB_t, nB_f, Bool.not_true, Bool.not_false, Bool.and_true, Bool.true_and, Bool.false_and, Bool.and_false, Bool.or_true, Bool.true_or, Bool.false_or, Bool.or_false, cond_true, cond_false]; done) | rfl) rfl
  · have h1 : (decide ((μ.1 15 1) = 0)) = false := decide_eq_false (cn_eq.mp h1)
    refine z_rcs hc hH 1 (pc' := 21) (lv' := [(0, .ref 14), (1, .int 1)]) (st' := [.int 0]) (μ' := μ) (by rfl) ?_
    exact hr 0 21 _ _ _ (some (.int 0)) (by decide +kernel) (z_rx_ok hH (by rfl)) (⟨rfl, (by simp only [h1, lb_f, Int64.or_zero, Int32.add_zero, nB_t, nB_f, Bool.not_true, Bool.not_false, Bool.and_true, Bool.true_and, Bool.false_and, Bool.and_false, Bool.or_true, Bool.true_or, Bool.false_or, Bool.or_false, cond_true, cond_false])⟩)
theorem fb_X1_waitFu_2 (d : Nat) (hd : 1 ≤ d) (μ : zM) : z_C d mi_X1_waitFu [.ref 14, .int 2] μ (zR μ (.int (bif decide ((μ.1 15 2) = 0) then bif decide (((μ.1 14 6) - (μ.1 16 2)) = 1) then (2 : Int32) else bif decide (((μ.1 14 6) - (μ.1 16 2)) = 2) then bif decide (((μ.1 16 2) - (μ.1 16 2) / 9 * 9) = 0) then (2 : Int32) else bif decide (((μ.1 14 6) - (μ.1 16 2)) = 0) then bif decide (((μ.1 16 2) - (μ.1 16 2) / 9 * 9) = 6) then (2 : Int32) else 0 else 0 else bif decide (((μ.1 14 6) - (μ.1 16 2)) = 0) then bif decide (((μ.1 16 2) - (μ.1 16 2) / 9 * 9) = 6) then (2 : Int32) else 0 else 0 else 0))) := by
  refine z_C_in (by decide) (by omega) (fun d' Z ed hc hr => ?_)
  have hH : zH mi_X1_waitFu zt_X1_waitFu 79 1 4 := hh_X1_waitFu
  refine z_rcs hc hH 8 (pc' := 16) (lv' := [(0, .ref 14), (1, .int 2)]) (st' := [.int 2, .ref 15]) (μ' := μ) (by rfl) ?_
  refine zq_iald hc hH (by rfl) 4 (by decide +kernel) (show vp_in (nI 2) 4 from vp_in_nI (by decide) (by decide)) ?_
  show Z 0 17 [(0, .ref 14), (1, .int 2)] [.int (μ.1 15 2)] μ
  refine zq_if hc hH (by rfl) (tg := 22) (by rfl) (fun h1 => ?_) (fun h1 => ?_)
  · have h1 : (decide ((μ.1 15 2) = 0)) = true := decide_eq_true (cm_eq9.mp h1)
    refine z_rcs hc hH 3 (pc' := 27) (lv' := [(0, .ref 14), (1, .int 2)]) (st' := [.int 2, .ref 16]) (μ' := μ) (by rfl) ?_
    refine zq_iald hc hH (by rfl) 4 (by decide +kernel) (show vp_in (nI 2) 4 from vp_in_nI (by decide) (by decide)) ?_
    show Z 0 28 [(0, .ref 14), (1, .int 2)] [.int (μ.1 16 2)] μ
    refine z_rcs hc hH 8 (pc' := 41) (lv' := [(2, .int ((μ.1 16 2) - (μ.1 16 2) / 9 * 9)), (0, .ref 14), (1, .int 2)]) (st' := [.int 2, .ref 16, .int (μ.1 14 6)]) (μ' := μ) (by rfl) ?_
    refine zq_iald hc hH (by rfl) 4 (by decide +kernel) (show vp_in (nI 2) 4 from vp_in_nI (by decide) (by decide)) ?_
    show Z 0 42 [(2, .int ((μ.1 16 2) - (μ.1 16 2) / 9 * 9)), (0, .ref 14), (1, .int 2)] [.int (μ.1 16 2), .int (μ.1 14 6)] μ
    refine z_rcs hc hH 4 (pc' := 46) (lv' := [(3, .int ((μ.1 14 6) - (μ.1 16 2))), (2, .int ((μ.1 16 2) - (μ.1 16 2) / 9 * 9)), (0, .ref 14), (1, .int 2)]) (st' := [.int 1, .int ((μ.1 14 6) - (μ.1 16 2))]) (μ' := μ) (by rfl) ?_
    have hJ2 : Z 0 73 [(3, .int ((μ.1 14 6) - (μ.1 16 2))), (2, .int ((μ.1 16 2) - (μ.1 16 2) / 9 * 9)), (0, .ref 14), (1, .int 2)] [.int (bif decide (((μ.1 14 6) - (μ.1 16 2)) = 1) then (2 : Int32) else bif decide (((μ.1 14 6) - (μ.1 16 2)) = 2) then bif decide (((μ.1 16 2) - (μ.1 16 2) / 9 * 9) = 0) then (2 : Int32) else bif decide (((μ.1 14 6) - (μ.1 16 2)) = 0) then bif decide (((μ.1 16 2) - (μ.1 16 2) / 9 * 9) = 6) then (2 : Int32) else 0 else 0 else bif decide (((μ.1 14 6) - (μ.1 16 2)) = 0) then bif decide (((μ.1 16 2) - (μ.1 16 2) / 9 * 9) = 6) then (2 : Int32) else 0 else 0)] μ := by
      generalize hyy3 : (bif decide (((μ.1 14 6) - (μ.1 16 2)) = 1) then (2 : Int32) else bif decide (((μ.1 14 6) - (μ.1 16 2)) = 2) then bif decide (((μ.1 16 2) - (μ.1 16 2) / 9 * 9) = 0) then (2 : Int32) else bif decide (((μ.1 14 6) - (μ.1 16 2)) = 0) then bif decide (((μ.1 16 2) - (μ.1 16 2) / 9 * 9) = 6) then (2 : Int32) else 0 else 0 else bif decide (((μ.1 14 6) - (μ.1 16 2)) = 0) then bif decide (((μ.1 16 2) - (μ.1 16 2) / 9 * 9) = 6) then (2 : Int32) else 0 else 0 : Int32) = yy3
      exact hr 0 73 _ _ _ (some (.int yy3)) (by decide +kernel) (z_rx_ok hH (by rfl)) (⟨rfl, (by try rw [hyy3]; simp only [h1, lb_f, Int64.or_zero, Int32.add_zero, nB_t, nB_f, Bool.not_true, Bool.not_false, Bool.and_true, Bool.true_and, Bool.false_and, Bool.and_false, Bool.or_true, Bool.true_or, Bool.false_or, Bool.or_false, cond_true, cond_false])⟩)
    refine zq_ic hc hH (by rfl) (tg := 68) (by rfl) (fun h4 => ?_) (fun h4 => ?_)
    · have h4 : (decide (((μ.1 14 6) - (μ.1 16 2)) = 1)) = true := decide_eq_true (cm_eq9.mp h4)
      refine z_rcs hc hH 2 (pc' := 73) (lv' := [(3, .int ((μ.1 14 6) - (μ.1 16 2))), (2, .int ((μ.1 16 2) - (μ.1 16 2) / 9 * 9)), (0, .ref 14), (1, .int 2)]) (st' := [.int 2]) (μ' := μ) (by rfl) ?_
      exact zJ hJ2 rfl (by first | with_reducible rfl | (simp only [h4, lb_f, Int64.or_zero, Int32.add_zero, nB_t, nB_f, Bool.not_true, Bool.not_false, Bool.and_true, Bool.true_and, Bool.false_and, Bool.and_false, Bool.or_true, Bool.true_or, Bool.false_or, Bool.or_false, cond_true, cond_false]; done) | rfl) rfl
    · have h4 : (decide (((μ.1 14 6) - (μ.1 16 2)) = 1)) = false := decide_eq_false (cn_eq.mp h4)
      refine z_rcs hc hH 2 (pc' := 51) (lv' := [(3, .int ((μ.1 14 6) - (μ.1 16 2))), (2, .int ((μ.1 16 2) - (μ.1 16 2) / 9 * 9)), (0, .ref 14), (1, .int 2)]) (st' := [.int 2, .int ((μ.1 14 6) - (μ.1 16 2))]) (μ' := μ) (by rfl) ?_
      refine zq_ic hc hH (by rfl) (tg := 58) (by rfl) (fun h5 => ?_) (fun h5 => ?_)
      · have h5 : (decide (((μ.1 14 6) - (μ.1 16 2)) = 2)) = false := decide_eq_false (cm_ne.mp h5)
        refine z_rcs hc hH 1 (pc' := 59) (lv' := [(3, .int ((μ.1 14 6) - (μ.1 16 2))), (2, .int ((μ.1 16 2) - (μ.1 16 2) / 9 * 9)), (0, .ref 14), (1, .int 2)]) (st' := [.int ((μ.1 14 6) - (μ.1 16 2))]) (μ' := μ) (by rfl) ?_
        refine zq_if hc hH (by rfl) (tg := 72) (by rfl) (fun h6 => ?_) (fun h6 => ?_)
        · have h6 : (decide (((μ.1 14 6) - (μ.1 16 2)) = 0)) = false := decide_eq_false (cm_ne.mp h6)
          refine z_rcs hc hH 1 (pc' := 73) (lv' := [(3, .int ((μ.1 14 6) - (μ.1 16 2))), (2, .int ((μ.1 16 2) - (μ.1 16 2) / 9 * 9)), (0, .ref 14), (1, .int 2)]) (st' := [.int 0]) (μ' := μ) (by rfl) ?_
          exact zJ hJ2 rfl (by first | with_reducible rfl | (simp only [h4, h5, h6, lb_f, Int64.or_zero, Int32.add_zero, nB_t, nB_f, Bool.not_true, Bool.not_false, Bool.and_true, Bool.true_and, Bool.false_and, Bool.and_false, Bool.or_true, Bool.true_or, Bool.false_or, Bool.or_false, cond_true, cond_false]; done) | rfl) rfl
        · have h6 : (decide (((μ.1 14 6) - (μ.1 16 2)) = 0)) = true := decide_eq_true (cn_ne.mp h6)
          refine z_rcs hc hH 2 (pc' := 65) (lv' := [(3, .int ((μ.1 14 6) - (μ.1 16 2))), (2, .int ((μ.1 16 2) - (μ.1 16 2) / 9 * 9)), (0, .ref 14), (1, .int 2)]) (st' := [.int 6, .int ((μ.1 16 2) - (μ.1 16 2) / 9 * 9)]) (μ' := μ) (by rfl) ?_
          refine zq_ic hc hH (by rfl) (tg := 72) (by rfl) (fun h7 => ?_) (fun h7 => ?_)
          · have h7 : (decide (((μ.1 16 2) - (μ.1 16 2) / 9 * 9) = 6)) = false := decide_eq_false (cm_ne.mp h7)
            refine z_rcs hc hH 1 (pc' := 73) (lv' := [(3, .int ((μ.1 14 6) - (μ.1 16 2))), (2, .int ((μ.1 16 2) - (μ.1 16 2) / 9 * 9)), (0, .ref 14), (1, .int 2)]) (st' := [.int 0]) (μ' := μ) (by rfl) ?_
            exact zJ hJ2 rfl (by first | with_reducible rfl | (simp only [h4, h5, h6, h7, lb_f, Int64.or_zero, Int32.add_zero, nB_t, nB_f, Bool.not_true, Bool.not_false, Bool.and_true, Bool.true_and, Bool.false_and, Bool.and_false, Bool.or_true, Bool.true_or, Bool.false_or, Bool.or_false, cond_true, cond_false]; done) | rfl) rfl
          · have h7 : (decide (((μ.1 16 2) - (μ.1 16 2) / 9 * 9) = 6)) = true := decide_eq_true (cn_ne.mp h7)
            refine z_rcs hc hH 2 (pc' := 73) (lv' := [(3, .int ((μ.1 14 6) - (μ.1 16 2))), (2, .int ((μ.1 16 2) - (μ.1 16 2) / 9 * 9)), (0, .ref 14), (1, .int 2)]) (st' := [.int 2]) (μ' := μ) (by rfl) ?_
            exact zJ hJ2 rfl (by first | with_reducible rfl | (simp only [h4, h5, h6, h7, lb_f, Int64.or_zero, Int32.add_zero, nB_t, nB_f, Bool.not_true, Bool.not_false, Bool.and_true, Bool.true_and, Bool.false_and, Bool.and_false, Bool.or_true, Bool.true_or, Bool.false_or, Bool.or_false, cond_true, cond_false]; done) | rfl) rfl
      · have h5 : (decide (((μ.1 14 6) - (μ.1 16 2)) = 2)) = true := decide_eq_true (cn_ne.mp h5)
        refine z_rcs hc hH 1 (pc' := 55) (lv' := [(3, .int ((μ.1 14 6) - (μ.1 16 2))), (2, .int ((μ.1 16 2) - (μ.1 16 2) / 9 * 9)), (0, .ref 14), (1, .int 2)]) (st' := [.int ((μ.1 16 2) - (μ.1 16 2) / 9 * 9)]) (μ' := μ) (by rfl) ?_
        refine zq_if hc hH (by rfl) (tg := 68) (by rfl) (fun h8 => ?_) (fun h8 => ?_)
        · have h8 : (decide (((μ.1 16 2) - (μ.1 16 2) / 9 * 9) = 0)) = true := decide_eq_true (cm_eq9.mp h8)
          refine z_rcs hc hH 2 (pc' := 73) (lv' := [(3, .int ((μ.1 14 6) - (μ.1 16 2))), (2, .int ((μ.1 16 2) - (μ.1 16 2) / 9 * 9)), (0, .ref 14), (1, .int 2)]) (st' := [.int 2]) (μ' := μ) (by rfl) ?_
          exact zJ hJ2 rfl (by first | with_reducible rfl | (simp only [h4, h5, h8, lb_f, Int64.or_zero, Int32.add_zero, nB_t, nB_f, Bool.not_true, Bool.not_false, Bool.and_true, Bool.true_and, Bool.false_and, Bool.and_false, Bool.or_true, Bool.true_or, Bool.false_or, Bool.or_false, cond_true, cond_false]; done) | rfl) rfl
        · have h8 : (decide (((μ.1 16 2) - (μ.1 16 2) / 9 * 9) = 0)) = false := decide_eq_false (cn_eq.mp h8)
          refine z_rcs hc hH 1 (pc' := 59) (lv' := [(3, .int ((μ.1 14 6) - (μ.1 16 2))), (2, .int ((μ.1 16 2) - (μ.1 16 2) / 9 * 9)), (0, .ref 14), (1, .int 2)]) (st' := [.int ((μ.1 14 6) - (μ.1 16 2))]) (μ' := μ) (by rfl) ?_
          refine zq_if hc hH (by rfl) (tg := 72) (by rfl) (fun h9 => ?_) (fun h9 => ?_)
          · have h9 : (decide (((μ.1 14 6) - (μ.1 16 2)) = 0)) = false := decide_eq_false (cm_ne.mp h9)
            refine z_rcs hc hH 1 (pc' := 73) (lv' := [(3, .int ((μ.1 14 6) - (μ.1 16 2))), (2, .int ((μ.1 16 2) - (μ.1 16 2) / 9 * 9)), (0, .ref 14), (1, .int 2)]) (st' := [.int 0]) (μ' := μ) (by rfl) ?_
            exact zJ hJ2 rfl (by first | with_reducible rfl | (simp only [h4, h5, h8, h9, lb_f, Int64.or_zero, Int32.add_zero, nB_t, nB_f, Bool.not_true, Bool.not_false, Bool.and_true, Bool.true_and, Bool.false_and, Bool.and_false, Bool.or_true, Bool.true_or, Bool.false_or, Bool.or_false, cond_true, cond_false]; done) | rfl) rfl
          · have h9 : (decide (((μ.1 14 6) - (μ.1 16 2)) = 0)) = true := decide_eq_true (cn_ne.mp h9)
            refine z_rcs hc hH 2 (pc' := 65) (lv' := [(3, .int ((μ.1 14 6) - (μ.1 16 2))), (2, .int ((μ.1 16 2) - (μ.1 16 2) / 9 * 9)), (0, .ref 14), (1, .int 2)]) (st' := [.int 6, .int ((μ.1 16 2) - (μ.1 16 2) / 9 * 9)]) (μ' := μ) (by rfl) ?_
            refine zq_ic hc hH (by rfl) (tg := 72) (by rfl) (fun h10 => ?_) (fun h10 => ?_)
            · have h10 : (decide (((μ.1 16 2) - (μ.1 16 2) / 9 * 9) = 6)) = false := decide_eq_false (cm_ne.mp h10)
              refine z_rcs hc hH 1 (pc' := 73) (lv' := [(3, .int ((μ.1 14 6) - (μ.1 16 2))), (2, .int ((μ.1 16 2) - (μ.1 16 2) / 9 * 9)), (0, .ref 14), (1, .int 2)]) (st' := [.int 0]) (μ' := μ) (by rfl) ?_
              exact zJ hJ2 rfl (by first | with_reducible rfl | (simp only [h4, h5, h8, h9, h10, lb_f, Int64.or_zero, Int32.add_zero, nB_t, nB_f, Bool.not_true, Bool.not_false, Bool.and_true, Bool.true_and, Bool.false_and, Bool.and_false, Bool.or_true, Bool.true_or, Bool.false_or, Bool.or_false, cond_true, cond_false]; done) | rfl) rfl
            · have h10 : (decide (((μ.1 16 2) - (μ.1 16 2) / 9 * 9) = 6)) = true := decide_eq_true (cn_ne.mp h10)
              refine z_rcs hc hH 2 (pc' := 73) (lv' := [(3, .int ((μ.1 14 6) - (μ.1 16 2))), (2, .int ((μ.1 16 2) - (μ.1 16 2) / 9 * 9)), (0, .ref 14), (1, .int 2)]) (st' := [.int 2]) (μ' := μ) (by rfl) ?_
              exact zJ hJ2 rfl (by first | with_reducible rfl | (simp only [h4, h5, h8, h9, h10, lb_f, Int64.or_zero, Int32.add_zero, nB_t, nB_f, Bool.not_true, Bool.not_false, Bool.and_true, Bool.true_and, Bool.false_and, Bool.and_false, Bool.or_true, Bool.true_or, Bool.false_or, Bool.or_false, cond_true, cond_false]; done) | rfl) rfl
  · have h1 : (decide ((μ.1 15 2) = 0)) = false := decide_eq_false (cn_eq.mp h1)
    refine z_rcs hc hH 1 (pc' := 21) (lv' := [(0, .ref 14), (1, .int 2)]) (st' := [.int 0]) (μ' := μ) (by rfl) ?_
    exact hr 0 21 _ _ _ (some (.int 0)) (by decide +kernel) (z_rx_ok hH (by rfl)) (⟨rfl, (by simp only [h1, lb_f, Int64.or_zero, Int32.add_zero, nB_t, nB_f, Bool.not_true, Bool.not_false, Bool.and_true, Bool.true_and, Bool.false_and, Bool.and_false, Bool.or_true, Bool.true_or, Bool.false_or, Bool.or_false, cond_true, cond_false])⟩)
theorem fb_X1_waitFu_3 (d : Nat) (hd : 1 ≤ d) (μ : zM) : z_C d mi_X1_waitFu [.ref 14, .int 3] μ (zR μ (.int (bif decide ((μ.1 15 3) = 0) then bif decide (((μ.1 14 6) - (μ.1 16 3)) = 1) then (2 : Int32) else bif decide (((μ.1 14 6) - (μ.1 16 3)) = 2) then bif decide (((μ.1 16 3) - (μ.1 16 3) / 9 * 9) = 0) then (2 : Int32) else bif decide (((μ.1 14 6) - (μ.1 16 3)) = 0) then bif decide (((μ.1 16 3) - (μ.1 16 3) / 9 * 9) = 6) then (2 : Int32) else 0 else 0 else bif decide (((μ.1 14 6) - (μ.1 16 3)) = 0) then bif decide (((μ.1 16 3) - (μ.1 16 3) / 9 * 9) = 6) then (2 : Int32) else 0 else 0 else 0))) := by
  refine z_C_in (by decide) (by omega) (fun d' Z ed hc hr => ?_)
  have hH : zH mi_X1_waitFu zt_X1_waitFu 79 1 4 := hh_X1_waitFu
  refine z_rcs hc hH 8 (pc' := 16) (lv' := [(0, .ref 14), (1, .int 3)]) (st' := [.int 3, .ref 15]) (μ' := μ) (by rfl) ?_
  refine zq_iald hc hH (by rfl) 4 (by decide +kernel) (show vp_in (nI 3) 4 from vp_in_nI (by decide) (by decide)) ?_
  show Z 0 17 [(0, .ref 14), (1, .int 3)] [.int (μ.1 15 3)] μ
  refine zq_if hc hH (by rfl) (tg := 22) (by rfl) (fun h1 => ?_) (fun h1 => ?_)
  · have h1 : (decide ((μ.1 15 3) = 0)) = true := decide_eq_true (cm_eq9.mp h1)
    refine z_rcs hc hH 3 (pc' := 27) (lv' := [(0, .ref 14), (1, .int 3)]) (st' := [.int 3, .ref 16]) (μ' := μ) (by rfl) ?_
    refine zq_iald hc hH (by rfl) 4 (by decide +kernel) (show vp_in (nI 3) 4 from vp_in_nI (by decide) (by decide)) ?_
    show Z 0 28 [(0, .ref 14), (1, .int 3)] [.int (μ.1 16 3)] μ
    refine z_rcs hc hH 8 (pc' := 41) (lv' := [(2, .int ((μ.1 16 3) - (μ.1 16 3) / 9 * 9)), (0, .ref 14), (1, .int 3)]) (st' := [.int 3, .ref 16, .int (μ.1 14 6)]) (μ' := μ) (by rfl) ?_
    refine zq_iald hc hH (by rfl) 4 (by decide +kernel) (show vp_in (nI 3) 4 from vp_in_nI (by decide) (by decide)) ?_
    show Z 0 42 [(2, .int ((μ.1 16 3) - (μ.1 16 3) / 9 * 9)), (0, .ref 14), (1, .int 3)] [.int (μ.1 16 3), .int (μ.1 14 6)] μ
    refine z_rcs hc hH 4 (pc' := 46) (lv' := [(3, .int ((μ.1 14 6) - (μ.1 16 3))), (2, .int ((μ.1 16 3) - (μ.1 16 3) / 9 * 9)), (0, .ref 14), (1, .int 3)]) (st' := [.int 1, .int ((μ.1 14 6) - (μ.1 16 3))]) (μ' := μ) (by rfl) ?_
    have hJ2 : Z 0 73 [(3, .int ((μ.1 14 6) - (μ.1 16 3))), (2, .int ((μ.1 16 3) - (μ.1 16 3) / 9 * 9)), (0, .ref 14), (1, .int 3)] [.int (bif decide (((μ.1 14 6) - (μ.1 16 3)) = 1) then (2 : Int32) else bif decide (((μ.1 14 6) - (μ.1 16 3)) = 2) then bif decide (((μ.1 16 3) - (μ.1 16 3) / 9 * 9) = 0) then (2 : Int32) else bif decide (((μ.1 14 6) - (μ.1 16 3)) = 0) then bif decide (((μ.1 16 3) - (μ.1 16 3) / 9 * 9) = 6) then (2 : Int32) else 0 else 0 else bif decide (((μ.1 14 6) - (μ.1 16 3)) = 0) then bif decide (((μ.1 16 3) - (μ.1 16 3) / 9 * 9) = 6) then (2 : Int32) else 0 else 0)] μ := by
      generalize hyy3 : (bif decide (((μ.1 14 6) - (μ.1 16 3)) = 1) then (2 : Int32) else bif decide (((μ.1 14 6) - (μ.1 16 3)) = 2) then bif decide (((μ.1 16 3) - (μ.1 16 3) / 9 * 9) = 0) then (2 : Int32) else bif decide (((μ.1 14 6) - (μ.1 16 3)) = 0) then bif decide (((μ.1 16 3) - (μ.1 16 3) / 9 * 9) = 6) then (2 : Int32) else 0 else 0 else bif decide (((μ.1 14 6) - (μ.1 16 3)) = 0) then bif decide (((μ.1 16 3) - (μ.1 16 3) / 9 * 9) = 6) then (2 : Int32) else 0 else 0 : Int32) = yy3
      exact hr 0 73 _ _ _ (some (.int yy3)) (by decide +kernel) (z_rx_ok hH (by rfl)) (⟨rfl, (by try rw [hyy3]; simp only [h1, lb_f, Int64.or_zero, Int32.add_zero, nB_t, nB_f, Bool.not_true, Bool.not_false, Bool.and_true, Bool.true_and, Bool.false_and, Bool.and_false, Bool.or_true, Bool.true_or, Bool.false_or, Bool.or_false, cond_true, cond_false])⟩)
    refine zq_ic hc hH (by rfl) (tg := 68) (by rfl) (fun h4 => ?_) (fun h4 => ?_)
    · have h4 : (decide (((μ.1 14 6) - (μ.1 16 3)) = 1)) = true := decide_eq_true (cm_eq9.mp h4)
      refine z_rcs hc hH 2 (pc' := 73) (lv' := [(3, .int ((μ.1 14 6) - (μ.1 16 3))), (2, .int ((μ.1 16 3) - (μ.1 16 3) / 9 * 9)), (0, .ref 14), (1, .int 3)]) (st' := [.int 2]) (μ' := μ) (by rfl) ?_
      exact zJ hJ2 rfl (by first | with_reducible rfl | (simp only [h4, lb_f, Int64.or_zero, Int32.add_zero, nB_t, nB_f, Bool.not_true, Bool.not_false, Bool.and_true, Bool.true_and, Bool.false_and, Bool.and_false, Bool.or_true, Bool.true_or, Bool.false_or, Bool.or_false, cond_true, cond_false]; done) | rfl) rfl
    · have h4 : (decide (((μ.1 14 6) - (μ.1 16 3)) = 1)) = false := decide_eq_false (cn_eq.mp h4)
      refine z_rcs hc hH 2 (pc' := 51) (lv' := [(3, .int ((μ.1 14 6) - (μ.1 16 3))), (2, .int ((μ.1 16 3) - (μ.1 16 3) / 9 * 9)), (0, .ref 14), (1, .int 3)]) (st' := [.int 2, .int ((μ.1 14 6) - (μ.1 16 3))]) (μ' := μ) (by rfl) ?_
      refine zq_ic hc hH (by rfl) (tg := 58) (by rfl) (fun h5 => ?_) (fun h5 => ?_)
      · have h5 : (decide (((μ.1 14 6) - (μ.1 16 3)) = 2)) = false := decide_eq_false (cm_ne.mp h5)
        refine z_rcs hc hH 1 (pc' := 59) (lv' := [(3, .int ((μ.1 14 6) - (μ.1 16 3))), (2, .int ((μ.1 16 3) - (μ.1 16 3) / 9 * 9)), (0, .ref 14), (1, .int 3)]) (st' := [.int ((μ.1 14 6) - (μ.1 16 3))]) (μ' := μ) (by rfl) ?_
        refine zq_if hc hH (by rfl) (tg := 72) (by rfl) (fun h6 => ?_) (fun h6 => ?_)
        · have h6 : (decide (((μ.1 14 6) - (μ.1 16 3)) = 0)) = false := decide_eq_false (cm_ne.mp h6)
          refine z_rcs hc hH 1 (pc' := 73) (lv' := [(3, .int ((μ.1 14 6) - (μ.1 16 3))), (2, .int ((μ.1 16 3) - (μ.1 16 3) / 9 * 9)), (0, .ref 14), (1, .int 3)]) (st' := [.int 0]) (μ' := μ) (by rfl) ?_
          exact zJ hJ2 rfl (by first | with_reducible rfl | (simp only [h4, h5, h6, lb_f, Int64.or_zero, Int32.add_zero, nB_t, nB_f, Bool.not_true, Bool.not_false, Bool.and_true, Bool.true_and, Bool.false_and, Bool.and_false, Bool.or_true, Bool.true_or, Bool.false_or, Bool.or_false, cond_true, cond_false]; done) | rfl) rfl
        · have h6 : (decide (((μ.1 14 6) - (μ.1 16 3)) = 0)) = true := decide_eq_true (cn_ne.mp h6)
          refine z_rcs hc hH 2 (pc' := 65) (lv' := [(3, .int ((μ.1 14 6) - (μ.1 16 3))), (2, .int ((μ.1 16 3) - (μ.1 16 3) / 9 * 9)), (0, .ref 14), (1, .int 3)]) (st' := [.int 6, .int ((μ.1 16 3) - (μ.1 16 3) / 9 * 9)]) (μ' := μ) (by rfl) ?_
          refine zq_ic hc hH (by rfl) (tg := 72) (by rfl) (fun h7 => ?_) (fun h7 => ?_)
          · have h7 : (decide (((μ.1 16 3) - (μ.1 16 3) / 9 * 9) = 6)) = false := decide_eq_false (cm_ne.mp h7)
            refine z_rcs hc hH 1 (pc' := 73) (lv' := [(3, .int ((μ.1 14 6) - (μ.1 16 3))), (2, .int ((μ.1 16 3) - (μ.1 16 3) / 9 * 9)), (0, .ref 14), (1, .int 3)]) (st' := [.int 0]) (μ' := μ) (by rfl) ?_
            exact zJ hJ2 rfl (by first | with_reducible rfl | (simp only [h4, h5, h6, h7, lb_f, Int64.or_zero, Int32.add_zero, nB_t, nB_f, Bool.not_true, Bool.not_false, Bool.and_true, Bool.true_and, Bool.false_and, Bool.and_false, Bool.or_true, Bool.true_or, Bool.false_or, Bool.or_false, cond_true, cond_false]; done) | rfl) rfl
          · have h7 : (decide (((μ.1 16 3) - (μ.1 16 3) / 9 * 9) = 6)) = true := decide_eq_true (cn_ne.mp h7)
            refine z_rcs hc hH 2 (pc' := 73) (lv' := [(3, .int ((μ.1 14 6) - (μ.1 16 3))), (2, .int ((μ.1 16 3) - (μ.1 16 3) / 9 * 9)), (0, .ref 14), (1, .int 3)]) (st' := [.int 2]) (μ' := μ) (by rfl) ?_
            exact zJ hJ2 rfl (by first | with_reducible rfl | (simp only [h4, h5, h6, h7, lb_f, Int64.or_zero, Int32.add_zero, nB_t, nB_f, Bool.not_true, Bool.not_false, Bool.and_true, Bool.true_and, Bool.false_and, Bool.and_false, Bool.or_true, Bool.true_or, Bool.false_or, Bool.or_false, cond_true, cond_false]; done) | rfl) rfl
      · have h5 : (decide (((μ.1 14 6) - (μ.1 16 3)) = 2)) = true := decide_eq_true (cn_ne.mp h5)
        refine z_rcs hc hH 1 (pc' := 55) (lv' := [(3, .int ((μ.1 14 6) - (μ.1 16 3))), (2, .int ((μ.1 16 3) - (μ.1 16 3) / 9 * 9)), (0, .ref 14), (1, .int 3)]) (st' := [.int ((μ.1 16 3) - (μ.1 16 3) / 9 * 9)]) (μ' := μ) (by rfl) ?_
        refine zq_if hc hH (by rfl) (tg := 68) (by rfl) (fun h8 => ?_) (fun h8 => ?_)
        · have h8 : (decide (((μ.1 16 3) - (μ.1 16 3) / 9 * 9) = 0)) = true := decide_eq_true (cm_eq9.mp h8)
          refine z_rcs hc hH 2 (pc' := 73) (lv' := [(3, .int ((μ.1 14 6) - (μ.1 16 3))), (2, .int ((μ.1 16 3) - (μ.1 16 3) / 9 * 9)), (0, .ref 14), (1, .int 3)]) (st' := [.int 2]) (μ' := μ) (by rfl) ?_
          exact zJ hJ2 rfl (by first | with_reducible rfl | (simp only [h4, h5, h8, lb_f, Int64.or_zero, Int32.add_zero, nB_t, nB_f, Bool.not_true, Bool.not_false, Bool.and_true, Bool.true_and, Bool.false_and, Bool.and_false, Bool.or_true, Bool.true_or, Bool.false_or, Bool.or_false, cond_true, cond_false]; done) | rfl) rfl
        · have h8 : (decide (((μ.1 16 3) - (μ.1 16 3) / 9 * 9) = 0)) = false := decide_eq_false (cn_eq.mp h8)
          refine z_rcs hc hH 1 (pc' := 59) (lv' := [(3, .int ((μ.1 14 6) - (μ.1 16 3))), (2, .int ((μ.1 16 3) - (μ.1 16 3) / 9 * 9)), (0, .ref 14), (1, .int 3)]) (st' := [.int ((μ.1 14 6) - (μ.1 16 3))]) (μ' := μ) (by rfl) ?_
          refine zq_if hc hH (by rfl) (tg := 72) (by rfl) (fun h9 => ?_) (fun h9 => ?_)
          · have h9 : (decide (((μ.1 14 6) - (μ.1 16 3)) = 0)) = false := decide_eq_false (cm_ne.mp h9)
            refine z_rcs hc hH 1 (pc' := 73) (lv' := [(3, .int ((μ.1 14 6) - (μ.1 16 3))), (2, .int ((μ.1 16 3) - (μ.1 16 3) / 9 * 9)), (0, .ref 14), (1, .int 3)]) (st' := [.int 0]) (μ' := μ) (by rfl) ?_
            exact zJ hJ2 rfl (by first | with_reducible rfl | (simp only [h4, h5, h8, h9, lb_f, Int64.or_zero, Int32.add_zero, nB_t, nB_f, Bool.not_true, Bool.not_false, Bool.and_true, Bool.true_and, Bool.false_and, Bool.and_false, Bool.or_true, Bool.true_or, Bool.false_or, Bool.or_false, cond_true, cond_false]; done) | rfl) rfl
          · have h9 : (decide (((μ.1 14 6) - (μ.1 16 3)) = 0)) = true := decide_eq_true (cn_ne.mp h9)
            refine z_rcs hc hH 2 (pc' := 65) (lv' := [(3, .int ((μ.1 14 6) - (μ.1 16 3))), (2, .int ((μ.1 16 3) - (μ.1 16 3) / 9 * 9)), (0, .ref 14), (1, .int 3)]) (st' := [.int 6, .int ((μ.1 16 3) - (μ.1 16 3) / 9 * 9)]) (μ' := μ) (by rfl) ?_
            refine zq_ic hc hH (by rfl) (tg := 72) (by rfl) (fun h10 => ?_) (fun h10 => ?_)
            · have h10 : (decide (((μ.1 16 3) - (μ.1 16 3) / 9 * 9) = 6)) = false := decide_eq_false (cm_ne.mp h10)
              refine z_rcs hc hH 1 (pc' := 73) (lv' := [(3, .int ((μ.1 14 6) - (μ.1 16 3))), (2, .int ((μ.1 16 3) - (μ.1 16 3) / 9 * 9)), (0, .ref 14), (1, .int 3)]) (st' := [.int 0]) (μ' := μ) (by rfl) ?_
              exact zJ hJ2 rfl (by first | with_reducible rfl | (simp only [h4, h5, h8, h9, h10, lb_f, Int64.or_zero, Int32.add_zero, nB_t, nB_f, Bool.not_true, Bool.not_false, Bool.and_true, Bool.true_and, Bool.false_and, Bool.and_false, Bool.or_true, Bool.true_or, Bool.false_or, Bool.or_false, cond_true, cond_false]; done) | rfl) rfl
            · have h10 : (decide (((μ.1 16 3) - (μ.1 16 3) / 9 * 9) = 6)) = true := decide_eq_true (cn_ne.mp h10)
              refine z_rcs hc hH 2 (pc' := 73) (lv' := [(3, .int ((μ.1 14 6) - (μ.1 16 3))), (2, .int ((μ.1 16 3) - (μ.1 16 3) / 9 * 9)), (0, .ref 14), (1, .int 3)]) (st' := [.int 2]) (μ' := μ) (by rfl) ?_
              exact zJ hJ2 rfl (by first | with_reducible rfl | (simp only [h4, h5, h8, h9, h10, lb_f, Int64.or_zero, Int32.add_zero, nB_t, nB_f, Bool.not_true, Bool.not_false, Bool.and_true, Bool.true_and, Bool.false_and, Bool.and_false, Bool.or_true, Bool.true_or, Bool.false_or, Bool.or_false, cond_true, cond_false]; done) | rfl) rfl
  · have h1 : (decide ((μ.1 15 3) = 0)) = false := decide_eq_false (cn_eq.mp h1)
    refine z_rcs hc hH 1 (pc' := 21) (lv' := [(0, .ref 14), (1, .int 3)]) (st' := [.int 0]) (μ' := μ) (by rfl) ?_
    exact hr 0 21 _ _ _ (some (.int 0)) (by decide +kernel) (z_rx_ok hH (by rfl)) (⟨rfl, (by simp only [h1, lb_f, Int64.or_zero, Int32.add_zero, nB_t, nB_f, Bool.not_true, Bool.not_false, Bool.and_true, Bool.true_and, Bool.false_and, Bool.and_false, Bool.or_true, Bool.true_or, Bool.false_or, Bool.or_false, cond_true, cond_false])⟩)
theorem fb_X1_waitFu_4 (d : Nat) (hd : 1 ≤ d) (μ : zM) : z_C d mi_X1_waitFu [.ref 14, .int 4] μ (zR μ (.int 2)) := by
  refine z_C_in (by decide) (by omega) (fun d' Z ed hc hr => ?_)
  have hH : zH mi_X1_waitFu zt_X1_waitFu 79 1 4 := hh_X1_waitFu
  refine z_rcs hc hH 6 (pc' := 10) (lv' := [(0, .ref 14), (1, .int 4)]) (st' := [.int 2]) (μ' := μ) (by rfl) ?_
  exact hr 0 10 _ _ _ (some (.int 2)) (by decide +kernel) (z_rx_ok hH (by rfl)) (⟨rfl, (by rfl)⟩)
theorem fb_X1_endForms (d : Nat) (hd : 2 ≤ d) (μ : zM) : z_C d mi_X1_endForms [.ref 14] μ (zR μ (.long ((lb ((((((xHd 17113154305 (μ.1 14 15)) && (!(decide ((lg_cmp (((bif decide ((μ.1 15 0) = 0) then (7 : Int64) else 1) <<< ((μ.1 16 0).toInt64 &&& 63)) &&& 17113154305) 0) = 0)))) && (!(decide ((lg_cmp (((bif decide ((μ.1 15 1) = 0) then (7 : Int64) else 1) <<< ((μ.1 16 1).toInt64 &&& 63)) &&& 17113154305) 0) = 0)))) && (!(decide ((lg_cmp (((bif decide ((μ.1 15 2) = 0) then (7 : Int64) else 1) <<< ((μ.1 16 2).toInt64 &&& 63)) &&& 17113154305) 0) = 0)))) && (!(decide ((lg_cmp (((bif decide ((μ.1 15 3) = 0) then (7 : Int64) else 1) <<< ((μ.1 16 3).toInt64 &&& 63)) &&& 17113154305) 0) = 0)))) && (((xHd 17045651456 (μ.1 14 15)) || (!(decide ((lg_cmp ((μ.2.1 14 17) &&& 17045651456) 0) = 0)))) && (!(decide ((lg_cmp (μ.2.1 14 16) 0) = 0))))) 23) ||| (lb ((((((xHd 67502849 (μ.1 14 15)) && (!(decide ((lg_cmp (((bif decide ((μ.1 15 0) = 0) then (7 : Int64) else 1) <<< ((μ.1 16 0).toInt64 &&& 63)) &&& 67502849) 0) = 0)))) && (!(decide ((lg_cmp (((bif decide ((μ.1 15 1) = 0) then (7 : Int64) else 1) <<< ((μ.1 16 1).toInt64 &&& 63)) &&& 67502849) 0) = 0)))) && (!(decide ((lg_cmp (((bif decide ((μ.1 15 2) = 0) then (7 : Int64) else 1) <<< ((μ.1 16 2).toInt64 &&& 63)) &&& 67502849) 0) = 0)))) && (!(decide ((lg_cmp (((bif decide ((μ.1 15 3) = 0) then (7 : Int64) else 1) <<< ((μ.1 16 3).toInt64 &&& 63)) &&& 67502849) 0) = 0)))) && (!(decide ((lg_cmp (μ.2.1 14 16) 0) = 0)))) 27)))) := by
  refine z_C_in (by decide) (by omega) (fun d' Z ed hc hr => ?_)
  have hH : zH mi_X1_endForms zt_X1_endForms 79 1 7 := hh_X1_endForms
  refine z_rcs hc hH 3 (pc' := 7) (lv' := [(0, .ref 14)]) (st' := [.int (μ.1 14 15), .long 17113154305]) (μ' := μ) (by rfl) ?_
  refine zq_call hc (z_cx_ok hH (by rfl)) (fb_X6_holds d' (by omega) μ (17113154305 : Int64) (μ.1 14 15)) (by decide +kernel) (fun r9 μ9 hq => ?_)
  obtain ⟨hμ9, rfl⟩ := hq
  rw [hμ9]
  clear hμ9 μ9
  show Z 0 10 [(0, .ref 14)] [.int (nB (xHd 17113154305 (μ.1 14 15)))] μ
  refine z_rcs hc hH 4 (pc' := 18) (lv' := [(1, .int (nB (xHd 17113154305 (μ.1 14 15)))), (0, .ref 14)]) (st' := [.int (μ.1 14 15), .long 67502849]) (μ' := μ) (by rfl) ?_
  refine zq_call hc (z_cx_ok hH (by rfl)) (fb_X6_holds d' (by omega) μ (67502849 : Int64) (μ.1 14 15)) (by decide +kernel) (fun r9 μ9 hq => ?_)
  obtain ⟨hμ9, rfl⟩ := hq
  rw [hμ9]
  clear hμ9 μ9
  show Z 0 21 [(1, .int (nB (xHd 17113154305 (μ.1 14 15)))), (0, .ref 14)] [.int (nB (xHd 67502849 (μ.1 14 15)))] μ
  refine z_rcs hc hH 4 (pc' := 29) (lv' := [(2, .int (nB (xHd 67502849 (μ.1 14 15)))), (1, .int (nB (xHd 17113154305 (μ.1 14 15)))), (0, .ref 14)]) (st' := [.int (μ.1 14 15), .long 17045651456]) (μ' := μ) (by rfl) ?_
  refine zq_call hc (z_cx_ok hH (by rfl)) (fb_X6_holds d' (by omega) μ (17045651456 : Int64) (μ.1 14 15)) (by decide +kernel) (fun r9 μ9 hq => ?_)
  obtain ⟨hμ9, rfl⟩ := hq
  rw [hμ9]
  clear hμ9 μ9
  show Z 0 32 [(2, .int (nB (xHd 67502849 (μ.1 14 15)))), (1, .int (nB (xHd 17113154305 (μ.1 14 15)))), (0, .ref 14)] [.int (nB (xHd 17045651456 (μ.1 14 15)))] μ
  have hJ1 : Z 0 53 [(2, .int (nB (xHd 67502849 (μ.1 14 15)))), (1, .int (nB (xHd 17113154305 (μ.1 14 15)))), (0, .ref 14)] [.int (nB ((xHd 17045651456 (μ.1 14 15)) || (!(decide ((lg_cmp ((μ.2.1 14 17) &&& 17045651456) 0) = 0)))))] μ := by
    generalize hee2 : ((xHd 17045651456 (μ.1 14 15)) || (!(decide ((lg_cmp ((μ.2.1 14 17) &&& 17045651456) 0) = 0)))) = ee2
    refine z_rcs hc hH 9 (pc' := 69) (lv' := [(4, .int 0), (3, .int (nB ee2)), (2, .int (nB (xHd 67502849 (μ.1 14 15)))), (1, .int (nB (xHd 17113154305 (μ.1 14 15)))), (0, .ref 14)]) (st' := [.int 0, .ref 15]) (μ' := μ) (by rfl) ?_
    refine zq_iald hc hH (by rfl) 4 (by decide +kernel) (show vp_in (nI 0) 4 from vp_in_nI (by decide) (by decide)) ?_
    show Z 0 70 [(4, .int 0), (3, .int (nB ee2)), (2, .int (nB (xHd 67502849 (μ.1 14 15)))), (1, .int (nB (xHd 17113154305 (μ.1 14 15)))), (0, .ref 14)] [.int (μ.1 15 0)] μ
    have hJ3 : Z 0 80 [(4, .int 0), (3, .int (nB ee2)), (2, .int (nB (xHd 67502849 (μ.1 14 15)))), (1, .int (nB (xHd 17113154305 (μ.1 14 15)))), (0, .ref 14)] [.long (bif decide ((μ.1 15 0) = 0) then (7 : Int64) else 1)] μ := by
      refine z_rcs hc hH 3 (pc' := 86) (lv' := [(4, .int 0), (3, .int (nB ee2)), (2, .int (nB (xHd 67502849 (μ.1 14 15)))), (1, .int (nB (xHd 17113154305 (μ.1 14 15)))), (0, .ref 14)]) (st' := [.int 0, .ref 16, .long (bif decide ((μ.1 15 0) = 0) then (7 : Int64) else 1)]) (μ' := μ) (by rfl) ?_
      refine zq_iald hc hH (by rfl) 4 (by decide +kernel) (show vp_in (nI 0) 4 from vp_in_nI (by decide) (by decide)) ?_
      show Z 0 87 [(4, .int 0), (3, .int (nB ee2)), (2, .int (nB (xHd 67502849 (μ.1 14 15)))), (1, .int (nB (xHd 17113154305 (μ.1 14 15)))), (0, .ref 14)] [.int (μ.1 16 0), .long (bif decide ((μ.1 15 0) = 0) then (7 : Int64) else 1)] μ
      refine z_rcs hc hH 3 (pc' := 91) (lv' := [(5, .long ((bif decide ((μ.1 15 0) = 0) then (7 : Int64) else 1) <<< ((μ.1 16 0).toInt64 &&& 63))), (4, .int 0), (3, .int (nB ee2)), (2, .int (nB (xHd 67502849 (μ.1 14 15)))), (1, .int (nB (xHd 17113154305 (μ.1 14 15)))), (0, .ref 14)]) (st' := [.int (nB (xHd 17113154305 (μ.1 14 15)))]) (μ' := μ) (by rfl) ?_
      have hJ4 : Z 0 110 [(5, .long ((bif decide ((μ.1 15 0) = 0) then (7 : Int64) else 1) <<< ((μ.1 16 0).toInt64 &&& 63))), (4, .int 0), (3, .int (nB ee2)), (2, .int (nB (xHd 67502849 (μ.1 14 15)))), (1, .int (nB (xHd 17113154305 (μ.1 14 15)))), (0, .ref 14)] [.int (nB ((xHd 17113154305 (μ.1 14 15)) && (!(decide ((lg_cmp (((bif decide ((μ.1 15 0) = 0) then (7 : Int64) else 1) <<< ((μ.1 16 0).toInt64 &&& 63)) &&& 17113154305) 0) = 0)))))] μ := by
        generalize hyy5 : ((bif decide ((μ.1 15 0) = 0) then (7 : Int64) else 1) <<< ((μ.1 16 0).toInt64 &&& 63) : Int64) = yy5
        generalize hee6 : ((xHd 17113154305 (μ.1 14 15)) && (!(decide ((lg_cmp (yy5 &&& 17113154305) 0) = 0)))) = ee6
        refine z_rcs hc hH 2 (pc' := 112) (lv' := [(1, .int (nB ee6)), (5, .long yy5), (4, .int 0), (3, .int (nB ee2)), (2, .int (nB (xHd 67502849 (μ.1 14 15)))), (0, .ref 14)]) (st' := [.int (nB (xHd 67502849 (μ.1 14 15)))]) (μ' := μ) (by rfl) ?_
        have hJ7 : Z 0 131 [(1, .int (nB ee6)), (5, .long yy5), (4, .int 0), (3, .int (nB ee2)), (2, .int (nB (xHd 67502849 (μ.1 14 15)))), (0, .ref 14)] [.int (nB ((xHd 67502849 (μ.1 14 15)) && (!(decide ((lg_cmp (yy5 &&& 67502849) 0) = 0)))))] μ := by
          generalize hee8 : ((xHd 67502849 (μ.1 14 15)) && (!(decide ((lg_cmp (yy5 &&& 67502849) 0) = 0)))) = ee8
          refine z_rcs hc hH 9 (pc' := 69) (lv' := [(4, .int 1), (2, .int (nB ee8)), (1, .int (nB ee6)), (5, .long yy5), (3, .int (nB ee2)), (0, .ref 14)]) (st' := [.int 1, .ref 15]) (μ' := μ) (by rfl) ?_
          refine zq_iald hc hH (by rfl) 4 (by decide +kernel) (show vp_in (nI 1) 4 from vp_in_nI (by decide) (by decide)) ?_
          show Z 0 70 [(4, .int 1), (2, .int (nB ee8)), (1, .int (nB ee6)), (5, .long yy5), (3, .int (nB ee2)), (0, .ref 14)] [.int (μ.1 15 1)] μ
          have hJ9 : Z 0 80 [(4, .int 1), (2, .int (nB ee8)), (1, .int (nB ee6)), (5, .long yy5), (3, .int (nB ee2)), (0, .ref 14)] [.long (bif decide ((μ.1 15 1) = 0) then (7 : Int64) else 1)] μ := by
            refine z_rcs hc hH 3 (pc' := 86) (lv' := [(4, .int 1), (2, .int (nB ee8)), (1, .int (nB ee6)), (5, .long yy5), (3, .int (nB ee2)), (0, .ref 14)]) (st' := [.int 1, .ref 16, .long (bif decide ((μ.1 15 1) = 0) then (7 : Int64) else 1)]) (μ' := μ) (by rfl) ?_
            refine zq_iald hc hH (by rfl) 4 (by decide +kernel) (show vp_in (nI 1) 4 from vp_in_nI (by decide) (by decide)) ?_
            show Z 0 87 [(4, .int 1), (2, .int (nB ee8)), (1, .int (nB ee6)), (5, .long yy5), (3, .int (nB ee2)), (0, .ref 14)] [.int (μ.1 16 1), .long (bif decide ((μ.1 15 1) = 0) then (7 : Int64) else 1)] μ
            refine z_rcs hc hH 3 (pc' := 91) (lv' := [(5, .long ((bif decide ((μ.1 15 1) = 0) then (7 : Int64) else 1) <<< ((μ.1 16 1).toInt64 &&& 63))), (4, .int 1), (2, .int (nB ee8)), (1, .int (nB ee6)), (3, .int (nB ee2)), (0, .ref 14)]) (st' := [.int (nB ee6)]) (μ' := μ) (by rfl) ?_
            have hJ10 : Z 0 110 [(5, .long ((bif decide ((μ.1 15 1) = 0) then (7 : Int64) else 1) <<< ((μ.1 16 1).toInt64 &&& 63))), (4, .int 1), (2, .int (nB ee8)), (1, .int (nB ee6)), (3, .int (nB ee2)), (0, .ref 14)] [.int (nB (ee6 && (!(decide ((lg_cmp (((bif decide ((μ.1 15 1) = 0) then (7 : Int64) else 1) <<< ((μ.1 16 1).toInt64 &&& 63)) &&& 17113154305) 0) = 0)))))] μ := by
              generalize hyy11 : ((bif decide ((μ.1 15 1) = 0) then (7 : Int64) else 1) <<< ((μ.1 16 1).toInt64 &&& 63) : Int64) = yy11
              refine z_rcs hc hH 2 (pc' := 112) (lv' := [(1, .int (nB (ee6 && (!(decide ((lg_cmp (yy11 &&& 17113154305) 0) = 0)))))), (5, .long yy11), (4, .int 1), (2, .int (nB ee8)), (3, .int (nB ee2)), (0, .ref 14)]) (st' := [.int (nB ee8)]) (μ' := μ) (by rfl) ?_
              have hJ12 : Z 0 131 [(1, .int (nB (ee6 && (!(decide ((lg_cmp (yy11 &&& 17113154305) 0) = 0)))))), (5, .long yy11), (4, .int 1), (2, .int (nB ee8)), (3, .int (nB ee2)), (0, .ref 14)] [.int (nB (ee8 && (!(decide ((lg_cmp (yy11 &&& 67502849) 0) = 0)))))] μ := by
                refine z_rcs hc hH 9 (pc' := 69) (lv' := [(4, .int 2), (2, .int (nB (ee8 && (!(decide ((lg_cmp (yy11 &&& 67502849) 0) = 0)))))), (1, .int (nB (ee6 && (!(decide ((lg_cmp (yy11 &&& 17113154305) 0) = 0)))))), (5, .long yy11), (3, .int (nB ee2)), (0, .ref 14)]) (st' := [.int 2, .ref 15]) (μ' := μ) (by rfl) ?_
                refine zq_iald hc hH (by rfl) 4 (by decide +kernel) (show vp_in (nI 2) 4 from vp_in_nI (by decide) (by decide)) ?_
                show Z 0 70 [(4, .int 2), (2, .int (nB (ee8 && (!(decide ((lg_cmp (yy11 &&& 67502849) 0) = 0)))))), (1, .int (nB (ee6 && (!(decide ((lg_cmp (yy11 &&& 17113154305) 0) = 0)))))), (5, .long yy11), (3, .int (nB ee2)), (0, .ref 14)] [.int (μ.1 15 2)] μ
                have hJ13 : Z 0 80 [(4, .int 2), (2, .int (nB (ee8 && (!(decide ((lg_cmp (yy11 &&& 67502849) 0) = 0)))))), (1, .int (nB (ee6 && (!(decide ((lg_cmp (yy11 &&& 17113154305) 0) = 0)))))), (5, .long yy11), (3, .int (nB ee2)), (0, .ref 14)] [.long (bif decide ((μ.1 15 2) = 0) then (7 : Int64) else 1)] μ := by
                  refine z_rcs hc hH 3 (pc' := 86) (lv' := [(4, .int 2), (2, .int (nB (ee8 && (!(decide ((lg_cmp (yy11 &&& 67502849) 0) = 0)))))), (1, .int (nB (ee6 && (!(decide ((lg_cmp (yy11 &&& 17113154305) 0) = 0)))))), (5, .long yy11), (3, .int (nB ee2)), (0, .ref 14)]) (st' := [.int 2, .ref 16, .long (bif decide ((μ.1 15 2) = 0) then (7 : Int64) else 1)]) (μ' := μ) (by rfl) ?_
                  refine zq_iald hc hH (by rfl) 4 (by decide +kernel) (show vp_in (nI 2) 4 from vp_in_nI (by decide) (by decide)) ?_
                  show Z 0 87 [(4, .int 2), (2, .int (nB (ee8 && (!(decide ((lg_cmp (yy11 &&& 67502849) 0) = 0)))))), (1, .int (nB (ee6 && (!(decide ((lg_cmp (yy11 &&& 17113154305) 0) = 0)))))), (5, .long yy11), (3, .int (nB ee2)), (0, .ref 14)] [.int (μ.1 16 2), .long (bif decide ((μ.1 15 2) = 0) then (7 : Int64) else 1)] μ
                  refine z_rcs hc hH 3 (pc' := 91) (lv' := [(5, .long ((bif decide ((μ.1 15 2) = 0) then (7 : Int64) else 1) <<< ((μ.1 16 2).toInt64 &&& 63))), (4, .int 2), (2, .int (nB (ee8 && (!(decide ((lg_cmp (yy11 &&& 67502849) 0) = 0)))))), (1, .int (nB (ee6 && (!(decide ((lg_cmp (yy11 &&& 17113154305) 0) = 0)))))), (3, .int (nB ee2)), (0, .ref 14)]) (st' := [.int (nB (ee6 && (!(decide ((lg_cmp (yy11 &&& 17113154305) 0) = 0)))))]) (μ' := μ) (by rfl) ?_
                  have hJ14 : Z 0 110 [(5, .long ((bif decide ((μ.1 15 2) = 0) then (7 : Int64) else 1) <<< ((μ.1 16 2).toInt64 &&& 63))), (4, .int 2), (2, .int (nB (ee8 && (!(decide ((lg_cmp (yy11 &&& 67502849) 0) = 0)))))), (1, .int (nB (ee6 && (!(decide ((lg_cmp (yy11 &&& 17113154305) 0) = 0)))))), (3, .int (nB ee2)), (0, .ref 14)] [.int (nB ((ee6 && (!(decide ((lg_cmp (yy11 &&& 17113154305) 0) = 0)))) && (!(decide ((lg_cmp (((bif decide ((μ.1 15 2) = 0) then (7 : Int64) else 1) <<< ((μ.1 16 2).toInt64 &&& 63)) &&& 17113154305) 0) = 0)))))] μ := by
                    generalize hyy15 : ((bif decide ((μ.1 15 2) = 0) then (7 : Int64) else 1) <<< ((μ.1 16 2).toInt64 &&& 63) : Int64) = yy15
                    generalize hee16 : ((ee6 && (!(decide ((lg_cmp (yy11 &&& 17113154305) 0) = 0)))) && (!(decide ((lg_cmp (yy15 &&& 17113154305) 0) = 0)))) = ee16
                    refine z_rcs hc hH 2 (pc' := 112) (lv' := [(1, .int (nB ee16)), (5, .long yy15), (4, .int 2), (2, .int (nB (ee8 && (!(decide ((lg_cmp (yy11 &&& 67502849) 0) = 0)))))), (3, .int (nB ee2)), (0, .ref 14)]) (st' := [.int (nB (ee8 && (!(decide ((lg_cmp (yy11 &&& 67502849) 0) = 0)))))]) (μ' := μ) (by rfl) ?_
                    have hJ17 : Z 0 131 [(1, .int (nB ee16)), (5, .long yy15), (4, .int 2), (2, .int (nB (ee8 && (!(decide ((lg_cmp (yy11 &&& 67502849) 0) = 0)))))), (3, .int (nB ee2)), (0, .ref 14)] [.int (nB ((ee8 && (!(decide ((lg_cmp (yy11 &&& 67502849) 0) = 0)))) && (!(decide ((lg_cmp (yy15 &&& 67502849) 0) = 0)))))] μ := by
                      generalize hee18 : ((ee8 && (!(decide ((lg_cmp (yy11 &&& 67502849) 0) = 0)))) && (!(decide ((lg_cmp (yy15 &&& 67502849) 0) = 0)))) = ee18
                      refine z_rcs hc hH 9 (pc' := 69) (lv' := [(4, .int 3), (2, .int (nB ee18)), (1, .int (nB ee16)), (5, .long yy15), (3, .int (nB ee2)), (0, .ref 14)]) (st' := [.int 3, .ref 15]) (μ' := μ) (by rfl) ?_
                      refine zq_iald hc hH (by rfl) 4 (by decide +kernel) (show vp_in (nI 3) 4 from vp_in_nI (by decide) (by decide)) ?_
                      show Z 0 70 [(4, .int 3), (2, .int (nB ee18)), (1, .int (nB ee16)), (5, .long yy15), (3, .int (nB ee2)), (0, .ref 14)] [.int (μ.1 15 3)] μ
                      have hJ19 : Z 0 80 [(4, .int 3), (2, .int (nB ee18)), (1, .int (nB ee16)), (5, .long yy15), (3, .int (nB ee2)), (0, .ref 14)] [.long (bif decide ((μ.1 15 3) = 0) then (7 : Int64) else 1)] μ := by
                        refine z_rcs hc hH 3 (pc' := 86) (lv' := [(4, .int 3), (2, .int (nB ee18)), (1, .int (nB ee16)), (5, .long yy15), (3, .int (nB ee2)), (0, .ref 14)]) (st' := [.int 3, .ref 16, .long (bif decide ((μ.1 15 3) = 0) then (7 : Int64) else 1)]) (μ' := μ) (by rfl) ?_
                        refine zq_iald hc hH (by rfl) 4 (by decide +kernel) (show vp_in (nI 3) 4 from vp_in_nI (by decide) (by decide)) ?_
                        show Z 0 87 [(4, .int 3), (2, .int (nB ee18)), (1, .int (nB ee16)), (5, .long yy15), (3, .int (nB ee2)), (0, .ref 14)] [.int (μ.1 16 3), .long (bif decide ((μ.1 15 3) = 0) then (7 : Int64) else 1)] μ
                        refine z_rcs hc hH 3 (pc' := 91) (lv' := [(5, .long ((bif decide ((μ.1 15 3) = 0) then (7 : Int64) else 1) <<< ((μ.1 16 3).toInt64 &&& 63))), (4, .int 3), (2, .int (nB ee18)), (1, .int (nB ee16)), (3, .int (nB ee2)), (0, .ref 14)]) (st' := [.int (nB ee16)]) (μ' := μ) (by rfl) ?_
                        have hJ20 : Z 0 110 [(5, .long ((bif decide ((μ.1 15 3) = 0) then (7 : Int64) else 1) <<< ((μ.1 16 3).toInt64 &&& 63))), (4, .int 3), (2, .int (nB ee18)), (1, .int (nB ee16)), (3, .int (nB ee2)), (0, .ref 14)] [.int (nB (ee16 && (!(decide ((lg_cmp (((bif decide ((μ.1 15 3) = 0) then (7 : Int64) else 1) <<< ((μ.1 16 3).toInt64 &&& 63)) &&& 17113154305) 0) = 0)))))] μ := by
                          generalize hyy21 : ((bif decide ((μ.1 15 3) = 0) then (7 : Int64) else 1) <<< ((μ.1 16 3).toInt64 &&& 63) : Int64) = yy21
                          refine z_rcs hc hH 2 (pc' := 112) (lv' := [(1, .int (nB (ee16 && (!(decide ((lg_cmp (yy21 &&& 17113154305) 0) = 0)))))), (5, .long yy21), (4, .int 3), (2, .int (nB ee18)), (3, .int (nB ee2)), (0, .ref 14)]) (st' := [.int (nB ee18)]) (μ' := μ) (by rfl) ?_
                          have hJ22 : Z 0 131 [(1, .int (nB (ee16 && (!(decide ((lg_cmp (yy21 &&& 17113154305) 0) = 0)))))), (5, .long yy21), (4, .int 3), (2, .int (nB ee18)), (3, .int (nB ee2)), (0, .ref 14)] [.int (nB (ee18 && (!(decide ((lg_cmp (yy21 &&& 67502849) 0) = 0)))))] μ := by
                            refine z_rcs hc hH 7 (pc' := 139) (lv' := [(4, .int 4), (2, .int (nB (ee18 && (!(decide ((lg_cmp (yy21 &&& 67502849) 0) = 0)))))), (1, .int (nB (ee16 && (!(decide ((lg_cmp (yy21 &&& 17113154305) 0) = 0)))))), (5, .long yy21), (3, .int (nB ee2)), (0, .ref 14)]) (st' := [.int (nB (ee16 && (!(decide ((lg_cmp (yy21 &&& 17113154305) 0) = 0)))))]) (μ' := μ) (by rfl) ?_
                            have hJ23 : Z 0 160 [(4, .int 4), (2, .int (nB (ee18 && (!(decide ((lg_cmp (yy21 &&& 67502849) 0) = 0)))))), (1, .int (nB (ee16 && (!(decide ((lg_cmp (yy21 &&& 17113154305) 0) = 0)))))), (5, .long yy21), (3, .int (nB ee2)), (0, .ref 14)] [.int (nB ((ee16 && (!(decide ((lg_cmp (yy21 &&& 17113154305) 0) = 0)))) && (ee2 && (!(decide ((lg_cmp (μ.2.1 14 16) 0) = 0))))))] μ := by
                              generalize hee24 : ((ee16 && (!(decide ((lg_cmp (yy21 &&& 17113154305) 0) = 0)))) && (ee2 && (!(decide ((lg_cmp (μ.2.1 14 16) 0) = 0))))) = ee24
                              refine z_rcs hc hH 1 (pc' := 162) (lv' := [(4, .int 4), (2, .int (nB (ee18 && (!(decide ((lg_cmp (yy21 &&& 67502849) 0) = 0)))))), (1, .int (nB (ee16 && (!(decide ((lg_cmp (yy21 &&& 17113154305) 0) = 0)))))), (5, .long yy21), (3, .int (nB ee2)), (0, .ref 14)]) (st' := [.int 23, .int (nB ee24)]) (μ' := μ) (by rfl) ?_
                              refine zq_call hc (z_cx_ok hH (by rfl)) (fb_X1_bit d' (by omega) μ ee24 23) (by decide +kernel) (fun r9 μ9 hq => ?_)
                              obtain ⟨hμ9, rfl⟩ := hq
                              rw [hμ9]
                              clear hμ9 μ9
                              show Z 0 165 [(4, .int 4), (2, .int (nB (ee18 && (!(decide ((lg_cmp (yy21 &&& 67502849) 0) = 0)))))), (1, .int (nB (ee16 && (!(decide ((lg_cmp (yy21 &&& 17113154305) 0) = 0)))))), (5, .long yy21), (3, .int (nB ee2)), (0, .ref 14)] [.long (lb ee24 23)] μ
                              refine z_rcs hc hH 1 (pc' := 166) (lv' := [(4, .int 4), (2, .int (nB (ee18 && (!(decide ((lg_cmp (yy21 &&& 67502849) 0) = 0)))))), (1, .int (nB (ee16 && (!(decide ((lg_cmp (yy21 &&& 17113154305) 0) = 0)))))), (5, .long yy21), (3, .int (nB ee2)), (0, .ref 14)]) (st' := [.int (nB (ee18 && (!(decide ((lg_cmp (yy21 &&& 67502849) 0) = 0))))), .long (lb ee24 23)]) (μ' := μ) (by rfl) ?_
                              have hJ25 : Z 0 183 [(4, .int 4), (2, .int (nB (ee18 && (!(decide ((lg_cmp (yy21 &&& 67502849) 0) = 0)))))), (1, .int (nB (ee16 && (!(decide ((lg_cmp (yy21 &&& 17113154305) 0) = 0)))))), (5, .long yy21), (3, .int (nB ee2)), (0, .ref 14)] [.int (nB ((ee18 && (!(decide ((lg_cmp (yy21 &&& 67502849) 0) = 0)))) && (!(decide ((lg_cmp (μ.2.1 14 16) 0) = 0))))), .long (lb ee24 23)] μ := by
                                generalize hee26 : ((ee18 && (!(decide ((lg_cmp (yy21 &&& 67502849) 0) = 0)))) && (!(decide ((lg_cmp (μ.2.1 14 16) 0) = 0)))) = ee26
                                refine z_rcs hc hH 1 (pc' := 185) (lv' := [(4, .int 4), (2, .int (nB (ee18 && (!(decide ((lg_cmp (yy21 &&& 67502849) 0) = 0)))))), (1, .int (nB (ee16 && (!(decide ((lg_cmp (yy21 &&& 17113154305) 0) = 0)))))), (5, .long yy21), (3, .int (nB ee2)), (0, .ref 14)]) (st' := [.int 27, .int (nB ee26), .long (lb ee24 23)]) (μ' := μ) (by rfl) ?_
                                refine zq_call hc (z_cx_ok hH (by rfl)) (fb_X1_bit d' (by omega) μ ee26 27) (by decide +kernel) (fun r9 μ9 hq => ?_)
                                obtain ⟨hμ9, rfl⟩ := hq
                                rw [hμ9]
                                clear hμ9 μ9
                                show Z 0 188 [(4, .int 4), (2, .int (nB (ee18 && (!(decide ((lg_cmp (yy21 &&& 67502849) 0) = 0)))))), (1, .int (nB (ee16 && (!(decide ((lg_cmp (yy21 &&& 17113154305) 0) = 0)))))), (5, .long yy21), (3, .int (nB ee2)), (0, .ref 14)] [.long (lb ee26 27), .long (lb ee24 23)] μ
                                refine z_rcs hc hH 1 (pc' := 189) (lv' := [(4, .int 4), (2, .int (nB (ee18 && (!(decide ((lg_cmp (yy21 &&& 67502849) 0) = 0)))))), (1, .int (nB (ee16 && (!(decide ((lg_cmp (yy21 &&& 17113154305) 0) = 0)))))), (5, .long yy21), (3, .int (nB ee2)), (0, .ref 14)]) (st' := [.long ((lb ee24 23) ||| (lb ee26 27))]) (μ' := μ) (by rfl) ?_
                                exact hr 0 189 _ _ _ (some (.long ((lb ee24 23) ||| (lb ee26 27)))) (by decide +kernel) (z_rx_ok hH (by rfl)) (⟨rfl, (by subst hee26; subst hee24; subst hyy21; subst hee18; subst hee16; subst hyy15; subst hyy11; subst hee8; subst hee6; subst hyy5; subst hee2; rfl)⟩)
                              refine zq_if hc hH (by rfl) (tg := 182) (by rfl) (fun h27 => ?_) (fun h27 => ?_)
                              · have h27 : (ee18 && (!(decide ((lg_cmp (yy21 &&& 67502849) 0) = 0)))) = false := nB_z.mp (cm_eq9.mp h27)
                                refine z_rcs hc hH 1 (pc' := 183) (lv' := [(4, .int 4), (2, .int (nB (ee18 && (!(decide ((lg_cmp (yy21 &&& 67502849) 0) = 0)))))), (1, .int (nB (ee16 && (!(decide ((lg_cmp (yy21 &&& 17113154305) 0) = 0)))))), (5, .long yy21), (3, .int (nB ee2)), (0, .ref 14)]) (st' := [.int 0, .long (lb ee24 23)]) (μ' := μ) (by rfl) ?_
                                exact zJ hJ25 rfl (by first | with_reducible rfl | (simp only [h27, lb_f, Int64.or_zero, Int32.add_zero, nB_t, nB_f, Bool.not_true, Bool.not_false, Bool.and_true, Bool.true_and, Bool.false_and, Bool.and_false, Bool.or_true, Bool.true_or, Bool.false_or, Bool.or_false, cond_true, cond_false]; done) | rfl) rfl
                              · have h27 : (ee18 && (!(decide ((lg_cmp (yy21 &&& 67502849) 0) = 0)))) = true := nB_n.mp (cn_eq.mp h27)
                                refine z_rcs hc hH 4 (pc' := 175) (lv' := [(4, .int 4), (2, .int (nB (ee18 && (!(decide ((lg_cmp (yy21 &&& 67502849) 0) = 0)))))), (1, .int (nB (ee16 && (!(decide ((lg_cmp (yy21 &&& 17113154305) 0) = 0)))))), (5, .long yy21), (3, .int (nB ee2)), (0, .ref 14)]) (st' := [.int (lg_cmp (μ.2.1 14 16) 0), .long (lb ee24 23)]) (μ' := μ) (by rfl) ?_
                                refine zq_if hc hH (by rfl) (tg := 182) (by rfl) (fun h28 => ?_) (fun h28 => ?_)
                                · have h28 : (decide ((lg_cmp (μ.2.1 14 16) 0) = 0)) = true := decide_eq_true (cm_eq9.mp h28)
                                  refine z_rcs hc hH 1 (pc' := 183) (lv' := [(4, .int 4), (2, .int (nB (ee18 && (!(decide ((lg_cmp (yy21 &&& 67502849) 0) = 0)))))), (1, .int (nB (ee16 && (!(decide ((lg_cmp (yy21 &&& 17113154305) 0) = 0)))))), (5, .long yy21), (3, .int (nB ee2)), (0, .ref 14)]) (st' := [.int 0, .long (lb ee24 23)]) (μ' := μ) (by rfl) ?_
                                  exact zJ hJ25 rfl (by first | with_reducible rfl | (simp only [h27, h28, lb_f, Int64.or_zero, Int32.add_zero, nB_t, nB_f, Bool.not_true, Bool.not_false, Bool.and_true, Bool.true_and, Bool.false_and, Bool.and_false, Bool.or_true, Bool.true_or, Bool.false_or, Bool.or_false, cond_true, cond_false]; done) | rfl) rfl
                                · have h28 : (decide ((lg_cmp (μ.2.1 14 16) 0) = 0)) = false := decide_eq_false (cn_eq.mp h28)
                                  refine z_rcs hc hH 2 (pc' := 183) (lv' := [(4, .int 4), (2, .int (nB (ee18 && (!(decide ((lg_cmp (yy21 &&& 67502849) 0) = 0)))))), (1, .int (nB (ee16 && (!(decide ((lg_cmp (yy21 &&& 17113154305) 0) = 0)))))), (5, .long yy21), (3, .int (nB ee2)), (0, .ref 14)]) (st' := [.int 1, .long (lb ee24 23)]) (μ' := μ) (by rfl) ?_
                                  exact zJ hJ25 rfl (by first | with_reducible rfl | (simp only [h27, h28, lb_f, Int64.or_zero, Int32.add_zero, nB_t, nB_f, Bool.not_true, Bool.not_false, Bool.and_true, Bool.true_and, Bool.false_and, Bool.and_false, Bool.or_true, Bool.true_or, Bool.false_or, Bool.or_false, cond_true, cond_false]; done) | rfl) rfl
                            refine zq_if hc hH (by rfl) (tg := 159) (by rfl) (fun h29 => ?_) (fun h29 => ?_)
                            · have h29 : (ee16 && (!(decide ((lg_cmp (yy21 &&& 17113154305) 0) = 0)))) = false := nB_z.mp (cm_eq9.mp h29)
                              refine z_rcs hc hH 1 (pc' := 160) (lv' := [(4, .int 4), (2, .int (nB (ee18 && (!(decide ((lg_cmp (yy21 &&& 67502849) 0) = 0)))))), (1, .int (nB (ee16 && (!(decide ((lg_cmp (yy21 &&& 17113154305) 0) = 0)))))), (5, .long yy21), (3, .int (nB ee2)), (0, .ref 14)]) (st' := [.int 0]) (μ' := μ) (by rfl) ?_
                              exact zJ hJ23 rfl (by first | with_reducible rfl | (simp only [h29, lb_f, Int64.or_zero, Int32.add_zero, nB_t, nB_f, Bool.not_true, Bool.not_false, Bool.and_true, Bool.true_and, Bool.false_and, Bool.and_false, Bool.or_true, Bool.true_or, Bool.false_or, Bool.or_false, cond_true, cond_false]; done) | rfl) rfl
                            · have h29 : (ee16 && (!(decide ((lg_cmp (yy21 &&& 17113154305) 0) = 0)))) = true := nB_n.mp (cn_eq.mp h29)
                              refine z_rcs hc hH 1 (pc' := 143) (lv' := [(4, .int 4), (2, .int (nB (ee18 && (!(decide ((lg_cmp (yy21 &&& 67502849) 0) = 0)))))), (1, .int (nB (ee16 && (!(decide ((lg_cmp (yy21 &&& 17113154305) 0) = 0)))))), (5, .long yy21), (3, .int (nB ee2)), (0, .ref 14)]) (st' := [.int (nB ee2)]) (μ' := μ) (by rfl) ?_
                              refine zq_if hc hH (by rfl) (tg := 159) (by rfl) (fun h30 => ?_) (fun h30 => ?_)
                              · have h30 : (ee2) = false := nB_z.mp (cm_eq9.mp h30)
                                refine z_rcs hc hH 1 (pc' := 160) (lv' := [(4, .int 4), (2, .int (nB (ee18 && (!(decide ((lg_cmp (yy21 &&& 67502849) 0) = 0)))))), (1, .int (nB (ee16 && (!(decide ((lg_cmp (yy21 &&& 17113154305) 0) = 0)))))), (5, .long yy21), (3, .int (nB ee2)), (0, .ref 14)]) (st' := [.int 0]) (μ' := μ) (by rfl) ?_
                                exact zJ hJ23 rfl (by first | with_reducible rfl | (simp only [h29, h30, lb_f, Int64.or_zero, Int32.add_zero, nB_t, nB_f, Bool.not_true, Bool.not_false, Bool.and_true, Bool.true_and, Bool.false_and, Bool.and_false, Bool.or_true, Bool.true_or, Bool.false_or, Bool.or_false, cond_true, cond_false]; done) | rfl) rfl
                              · have h30 : (ee2) = true := nB_n.mp (cn_eq.mp h30)
                                refine z_rcs hc hH 4 (pc' := 152) (lv' := [(4, .int 4), (2, .int (nB (ee18 && (!(decide ((lg_cmp (yy21 &&& 67502849) 0) = 0)))))), (1, .int (nB (ee16 && (!(decide ((lg_cmp (yy21 &&& 17113154305) 0) = 0)))))), (5, .long yy21), (3, .int (nB ee2)), (0, .ref 14)]) (st' := [.int (lg_cmp (μ.2.1 14 16) 0)]) (μ' := μ) (by rfl) ?_
                                refine zq_if hc hH (by rfl) (tg := 159) (by rfl) (fun h31 => ?_) (fun h31 => ?_)
                                · have h31 : (decide ((lg_cmp (μ.2.1 14 16) 0) = 0)) = true := decide_eq_true (cm_eq9.mp h31)
                                  refine z_rcs hc hH 1 (pc' := 160) (lv' := [(4, .int 4), (2, .int (nB (ee18 && (!(decide ((lg_cmp (yy21 &&& 67502849) 0) = 0)))))), (1, .int (nB (ee16 && (!(decide ((lg_cmp (yy21 &&& 17113154305) 0) = 0)))))), (5, .long yy21), (3, .int (nB ee2)), (0, .ref 14)]) (st' := [.int 0]) (μ' := μ) (by rfl) ?_
                                  exact zJ hJ23 rfl (by first | with_reducible rfl | (simp only [h29, h30, h31, lb_f, Int64.or_zero, Int32.add_zero, nB_t, nB_f, Bool.not_true, Bool.not_false, Bool.and_true, Bool.true_and, Bool.false_and, Bool.and_false, Bool.or_true, Bool.true_or, Bool.false_or, Bool.or_false, cond_true, cond_false]; done) | rfl) rfl
                                · have h31 : (decide ((lg_cmp (μ.2.1 14 16) 0) = 0)) = false := decide_eq_false (cn_eq.mp h31)
                                  refine z_rcs hc hH 2 (pc' := 160) (lv' := [(4, .int 4), (2, .int (nB (ee18 && (!(decide ((lg_cmp (yy21 &&& 67502849) 0) = 0)))))), (1, .int (nB (ee16 && (!(decide ((lg_cmp (yy21 &&& 17113154305) 0) = 0)))))), (5, .long yy21), (3, .int (nB ee2)), (0, .ref 14)]) (st' := [.int 1]) (μ' := μ) (by rfl) ?_
                                  exact zJ hJ23 rfl (by first | with_reducible rfl | (simp only [h29, h30, h31, lb_f, Int64.or_zero, Int32.add_zero, nB_t, nB_f, Bool.not_true, Bool.not_false, Bool.and_true, Bool.true_and, Bool.false_and, Bool.and_false, Bool.or_true, Bool.true_or, Bool.false_or, Bool.or_false, cond_true, cond_false]; done) | rfl) rfl
                          refine zq_if hc hH (by rfl) (tg := 130) (by rfl) (fun h32 => ?_) (fun h32 => ?_)
                          · have h32 : (ee18) = false := nB_z.mp (cm_eq9.mp h32)
                            refine z_rcs hc hH 1 (pc' := 131) (lv' := [(1, .int (nB (ee16 && (!(decide ((lg_cmp (yy21 &&& 17113154305) 0) = 0)))))), (5, .long yy21), (4, .int 3), (2, .int (nB ee18)), (3, .int (nB ee2)), (0, .ref 14)]) (st' := [.int 0]) (μ' := μ) (by rfl) ?_
                            exact zJ hJ22 rfl (by first | with_reducible rfl | (simp only [h32, lb_f, Int64.or_zero, Int32.add_zero, nB_t, nB_f, Bool.not_true, Bool.not_false, Bool.and_true, Bool.true_and, Bool.false_and, Bool.and_false, Bool.or_true, Bool.true_or, Bool.false_or, Bool.or_false, cond_true, cond_false]; done) | rfl) rfl
                          · have h32 : (ee18) = true := nB_n.mp (cn_eq.mp h32)
                            refine z_rcs hc hH 5 (pc' := 123) (lv' := [(1, .int (nB (ee16 && (!(decide ((lg_cmp (yy21 &&& 17113154305) 0) = 0)))))), (5, .long yy21), (4, .int 3), (2, .int (nB ee18)), (3, .int (nB ee2)), (0, .ref 14)]) (st' := [.int (lg_cmp (yy21 &&& 67502849) 0)]) (μ' := μ) (by rfl) ?_
                            refine zq_if hc hH (by rfl) (tg := 130) (by rfl) (fun h33 => ?_) (fun h33 => ?_)
                            · have h33 : (decide ((lg_cmp (yy21 &&& 67502849) 0) = 0)) = true := decide_eq_true (cm_eq9.mp h33)
                              refine z_rcs hc hH 1 (pc' := 131) (lv' := [(1, .int (nB (ee16 && (!(decide ((lg_cmp (yy21 &&& 17113154305) 0) = 0)))))), (5, .long yy21), (4, .int 3), (2, .int (nB ee18)), (3, .int (nB ee2)), (0, .ref 14)]) (st' := [.int 0]) (μ' := μ) (by rfl) ?_
                              exact zJ hJ22 rfl (by first | with_reducible rfl | (simp only [h32, h33, lb_f, Int64.or_zero, Int32.add_zero, nB_t, nB_f, Bool.not_true, Bool.not_false, Bool.and_true, Bool.true_and, Bool.false_and, Bool.and_false, Bool.or_true, Bool.true_or, Bool.false_or, Bool.or_false, cond_true, cond_false]; done) | rfl) rfl
                            · have h33 : (decide ((lg_cmp (yy21 &&& 67502849) 0) = 0)) = false := decide_eq_false (cn_eq.mp h33)
                              refine z_rcs hc hH 2 (pc' := 131) (lv' := [(1, .int (nB (ee16 && (!(decide ((lg_cmp (yy21 &&& 17113154305) 0) = 0)))))), (5, .long yy21), (4, .int 3), (2, .int (nB ee18)), (3, .int (nB ee2)), (0, .ref 14)]) (st' := [.int 1]) (μ' := μ) (by rfl) ?_
                              exact zJ hJ22 rfl (by first | with_reducible rfl | (simp only [h32, h33, lb_f, Int64.or_zero, Int32.add_zero, nB_t, nB_f, Bool.not_true, Bool.not_false, Bool.and_true, Bool.true_and, Bool.false_and, Bool.and_false, Bool.or_true, Bool.true_or, Bool.false_or, Bool.or_false, cond_true, cond_false]; done) | rfl) rfl
                        refine zq_if hc hH (by rfl) (tg := 109) (by rfl) (fun h34 => ?_) (fun h34 => ?_)
                        · have h34 : (ee16) = false := nB_z.mp (cm_eq9.mp h34)
                          refine z_rcs hc hH 1 (pc' := 110) (lv' := [(5, .long ((bif decide ((μ.1 15 3) = 0) then (7 : Int64) else 1) <<< ((μ.1 16 3).toInt64 &&& 63))), (4, .int 3), (2, .int (nB ee18)), (1, .int (nB ee16)), (3, .int (nB ee2)), (0, .ref 14)]) (st' := [.int 0]) (μ' := μ) (by rfl) ?_
                          exact zJ hJ20 rfl (by first | with_reducible rfl | (simp only [h34, lb_f, Int64.or_zero, Int32.add_zero, nB_t, nB_f, Bool.not_true, Bool.not_false, Bool.and_true, Bool.true_and, Bool.false_and, Bool.and_false, Bool.or_true, Bool.true_or, Bool.false_or, Bool.or_false, cond_true, cond_false]; done) | rfl) rfl
                        · have h34 : (ee16) = true := nB_n.mp (cn_eq.mp h34)
                          refine z_rcs hc hH 5 (pc' := 102) (lv' := [(5, .long ((bif decide ((μ.1 15 3) = 0) then (7 : Int64) else 1) <<< ((μ.1 16 3).toInt64 &&& 63))), (4, .int 3), (2, .int (nB ee18)), (1, .int (nB ee16)), (3, .int (nB ee2)), (0, .ref 14)]) (st' := [.int (lg_cmp (((bif decide ((μ.1 15 3) = 0) then (7 : Int64) else 1) <<< ((μ.1 16 3).toInt64 &&& 63)) &&& 17113154305) 0)]) (μ' := μ) (by rfl) ?_
                          refine zq_if hc hH (by rfl) (tg := 109) (by rfl) (fun h35 => ?_) (fun h35 => ?_)
                          · have h35 : (decide ((lg_cmp (((bif decide ((μ.1 15 3) = 0) then (7 : Int64) else 1) <<< ((μ.1 16 3).toInt64 &&& 63)) &&& 17113154305) 0) = 0)) = true := decide_eq_true (cm_eq9.mp h35)
                            refine z_rcs hc hH 1 (pc' := 110) (lv' := [(5, .long ((bif decide ((μ.1 15 3) = 0) then (7 : Int64) else 1) <<< ((μ.1 16 3).toInt64 &&& 63))), (4, .int 3), (2, .int (nB ee18)), (1, .int (nB ee16)), (3, .int (nB ee2)), (0, .ref 14)]) (st' := [.int 0]) (μ' := μ) (by rfl) ?_
                            exact zJ hJ20 rfl (by first | with_reducible rfl | (simp only [h34, h35, lb_f, Int64.or_zero, Int32.add_zero, nB_t, nB_f, Bool.not_true, Bool.not_false, Bool.and_true, Bool.true_and, Bool.false_and, Bool.and_false, Bool.or_true, Bool.true_or, Bool.false_or, Bool.or_false, cond_true, cond_false]; done) | rfl) rfl
                          · have h35 : (decide ((lg_cmp (((bif decide ((μ.1 15 3) = 0) then (7 : Int64) else 1) <<< ((μ.1 16 3).toInt64 &&& 63)) &&& 17113154305) 0) = 0)) = false := decide_eq_false (cn_eq.mp h35)
                            refine z_rcs hc hH 2 (pc' := 110) (lv' := [(5, .long ((bif decide ((μ.1 15 3) = 0) then (7 : Int64) else 1) <<< ((μ.1 16 3).toInt64 &&& 63))), (4, .int 3), (2, .int (nB ee18)), (1, .int (nB ee16)), (3, .int (nB ee2)), (0, .ref 14)]) (st' := [.int 1]) (μ' := μ) (by rfl) ?_
                            exact zJ hJ20 rfl (by first | with_reducible rfl | (simp only [h34, h35, lb_f, Int64.or_zero, Int32.add_zero, nB_t, nB_f, Bool.not_true, Bool.not_false, Bool.and_true, Bool.true_and, Bool.false_and, Bool.and_false, Bool.or_true, Bool.true_or, Bool.false_or, Bool.or_false, cond_true, cond_false]; done) | rfl) rfl
                      refine zq_if hc hH (by rfl) (tg := 79) (by rfl) (fun h36 => ?_) (fun h36 => ?_)
                      · have h36 : (decide ((μ.1 15 3) = 0)) = false := decide_eq_false (cm_ne.mp h36)
                        refine z_rcs hc hH 1 (pc' := 80) (lv' := [(4, .int 3), (2, .int (nB ee18)), (1, .int (nB ee16)), (5, .long yy15), (3, .int (nB ee2)), (0, .ref 14)]) (st' := [.long 1]) (μ' := μ) (by rfl) ?_
                        exact zJ hJ19 rfl (by first | with_reducible rfl | (simp only [h36, lb_f, Int64.or_zero, Int32.add_zero, nB_t, nB_f, Bool.not_true, Bool.not_false, Bool.and_true, Bool.true_and, Bool.false_and, Bool.and_false, Bool.or_true, Bool.true_or, Bool.false_or, Bool.or_false, cond_true, cond_false]; done) | rfl) rfl
                      · have h36 : (decide ((μ.1 15 3) = 0)) = true := decide_eq_true (cn_ne.mp h36)
                        refine z_rcs hc hH 2 (pc' := 80) (lv' := [(4, .int 3), (2, .int (nB ee18)), (1, .int (nB ee16)), (5, .long yy15), (3, .int (nB ee2)), (0, .ref 14)]) (st' := [.long 7]) (μ' := μ) (by rfl) ?_
                        exact zJ hJ19 rfl (by first | with_reducible rfl | (simp only [h36, lb_f, Int64.or_zero, Int32.add_zero, nB_t, nB_f, Bool.not_true, Bool.not_false, Bool.and_true, Bool.true_and, Bool.false_and, Bool.and_false, Bool.or_true, Bool.true_or, Bool.false_or, Bool.or_false, cond_true, cond_false]; done) | rfl) rfl
                    refine zq_if hc hH (by rfl) (tg := 130) (by rfl) (fun h37 => ?_) (fun h37 => ?_)
                    · have h37 : (ee8 && (!(decide ((lg_cmp (yy11 &&& 67502849) 0) = 0)))) = false := nB_z.mp (cm_eq9.mp h37)
                      refine z_rcs hc hH 1 (pc' := 131) (lv' := [(1, .int (nB ee16)), (5, .long yy15), (4, .int 2), (2, .int (nB (ee8 && (!(decide ((lg_cmp (yy11 &&& 67502849) 0) = 0)))))), (3, .int (nB ee2)), (0, .ref 14)]) (st' := [.int 0]) (μ' := μ) (by rfl) ?_
                      exact zJ hJ17 rfl (by first | with_reducible rfl | (simp only [h37, lb_f, Int64.or_zero, Int32.add_zero, nB_t, nB_f, Bool.not_true, Bool.not_false, Bool.and_true, Bool.true_and, Bool.false_and, Bool.and_false, Bool.or_true, Bool.true_or, Bool.false_or, Bool.or_false, cond_true, cond_false]; done) | rfl) rfl
                    · have h37 : (ee8 && (!(decide ((lg_cmp (yy11 &&& 67502849) 0) = 0)))) = true := nB_n.mp (cn_eq.mp h37)
                      refine z_rcs hc hH 5 (pc' := 123) (lv' := [(1, .int (nB ee16)), (5, .long yy15), (4, .int 2), (2, .int (nB (ee8 && (!(decide ((lg_cmp (yy11 &&& 67502849) 0) = 0)))))), (3, .int (nB ee2)), (0, .ref 14)]) (st' := [.int (lg_cmp (yy15 &&& 67502849) 0)]) (μ' := μ) (by rfl) ?_
                      refine zq_if hc hH (by rfl) (tg := 130) (by rfl) (fun h38 => ?_) (fun h38 => ?_)
                      · have h38 : (decide ((lg_cmp (yy15 &&& 67502849) 0) = 0)) = true := decide_eq_true (cm_eq9.mp h38)
                        refine z_rcs hc hH 1 (pc' := 131) (lv' := [(1, .int (nB ee16)), (5, .long yy15), (4, .int 2), (2, .int (nB (ee8 && (!(decide ((lg_cmp (yy11 &&& 67502849) 0) = 0)))))), (3, .int (nB ee2)), (0, .ref 14)]) (st' := [.int 0]) (μ' := μ) (by rfl) ?_
                        exact zJ hJ17 rfl (by first | with_reducible rfl | (simp only [h37, h38, lb_f, Int64.or_zero, Int32.add_zero, nB_t, nB_f, Bool.not_true, Bool.not_false, Bool.and_true, Bool.true_and, Bool.false_and, Bool.and_false, Bool.or_true, Bool.true_or, Bool.false_or, Bool.or_false, cond_true, cond_false]; done) | rfl) rfl
                      · have h38 : (decide ((lg_cmp (yy15 &&& 67502849) 0) = 0)) = false := decide_eq_false (cn_eq.mp h38)
                        refine z_rcs hc hH 2 (pc' := 131) (lv' := [(1, .int (nB ee16)), (5, .long yy15), (4, .int 2), (2, .int (nB (ee8 && (!(decide ((lg_cmp (yy11 &&& 67502849) 0) = 0)))))), (3, .int (nB ee2)), (0, .ref 14)]) (st' := [.int 1]) (μ' := μ) (by rfl) ?_
                        exact zJ hJ17 rfl (by first | with_reducible rfl | (simp only [h37, h38, lb_f, Int64.or_zero, Int32.add_zero, nB_t, nB_f, Bool.not_true, Bool.not_false, Bool.and_true, Bool.true_and, Bool.false_and, Bool.and_false, Bool.or_true, Bool.true_or, Bool.false_or, Bool.or_false, cond_true, cond_false]; done) | rfl) rfl
                  refine zq_if hc hH (by rfl) (tg := 109) (by rfl) (fun h39 => ?_) (fun h39 => ?_)
                  · have h39 : (ee6 && (!(decide ((lg_cmp (yy11 &&& 17113154305) 0) = 0)))) = false := nB_z.mp (cm_eq9.mp h39)
                    refine z_rcs hc hH 1 (pc' := 110) (lv' := [(5, .long ((bif decide ((μ.1 15 2) = 0) then (7 : Int64) else 1) <<< ((μ.1 16 2).toInt64 &&& 63))), (4, .int 2), (2, .int (nB (ee8 && (!(decide ((lg_cmp (yy11 &&& 67502849) 0) = 0)))))), (1, .int (nB (ee6 && (!(decide ((lg_cmp (yy11 &&& 17113154305) 0) = 0)))))), (3, .int (nB ee2)), (0, .ref 14)]) (st' := [.int 0]) (μ' := μ) (by rfl) ?_
                    exact zJ hJ14 rfl (by first | with_reducible rfl | (simp only [h39, lb_f, Int64.or_zero, Int32.add_zero, nB_t, nB_f, Bool.not_true, Bool.not_false, Bool.and_true, Bool.true_and, Bool.false_and, Bool.and_false, Bool.or_true, Bool.true_or, Bool.false_or, Bool.or_false, cond_true, cond_false]; done) | rfl) rfl
                  · have h39 : (ee6 && (!(decide ((lg_cmp (yy11 &&& 17113154305) 0) = 0)))) = true := nB_n.mp (cn_eq.mp h39)
                    refine z_rcs hc hH 5 (pc' := 102) (lv' := [(5, .long ((bif decide ((μ.1 15 2) = 0) then (7 : Int64) else 1) <<< ((μ.1 16 2).toInt64 &&& 63))), (4, .int 2), (2, .int (nB (ee8 && (!(decide ((lg_cmp (yy11 &&& 67502849) 0) = 0)))))), (1, .int (nB (ee6 && (!(decide ((lg_cmp (yy11 &&& 17113154305) 0) = 0)))))), (3, .int (nB ee2)), (0, .ref 14)]) (st' := [.int (lg_cmp (((bif decide ((μ.1 15 2) = 0) then (7 : Int64) else 1) <<< ((μ.1 16 2).toInt64 &&& 63)) &&& 17113154305) 0)]) (μ' := μ) (by rfl) ?_
                    refine zq_if hc hH (by rfl) (tg := 109) (by rfl) (fun h40 => ?_) (fun h40 => ?_)
                    · have h40 : (decide ((lg_cmp (((bif decide ((μ.1 15 2) = 0) then (7 : Int64) else 1) <<< ((μ.1 16 2).toInt64 &&& 63)) &&& 17113154305) 0) = 0)) = true := decide_eq_true (cm_eq9.mp h40)
                      refine z_rcs hc hH 1 (pc' := 110) (lv' := [(5, .long ((bif decide ((μ.1 15 2) = 0) then (7 : Int64) else 1) <<< ((μ.1 16 2).toInt64 &&& 63))), (4, .int 2), (2, .int (nB (ee8 && (!(decide ((lg_cmp (yy11 &&& 67502849) 0) = 0)))))), (1, .int (nB (ee6 && (!(decide ((lg_cmp (yy11 &&& 17113154305) 0) = 0)))))), (3, .int (nB ee2)), (0, .ref 14)]) (st' := [.int 0]) (μ' := μ) (by rfl) ?_
                      exact zJ hJ14 rfl (by first | with_reducible rfl | (simp only [h39, h40, lb_f, Int64.or_zero, Int32.add_zero, nB_t, nB_f, Bool.not_true, Bool.not_false, Bool.and_true, Bool.true_and, Bool.false_and, Bool.and_false, Bool.or_true, Bool.true_or, Bool.false_or, Bool.or_false, cond_true, cond_false]; done) | rfl) rfl
                    · have h40 : (decide ((lg_cmp (((bif decide ((μ.1 15 2) = 0) then (7 : Int64) else 1) <<< ((μ.1 16 2).toInt64 &&& 63)) &&& 17113154305) 0) = 0)) = false := decide_eq_false (cn_eq.mp h40)
                      refine z_rcs hc hH 2 (pc' := 110) (lv' := [(5, .long ((bif decide ((μ.1 15 2) = 0) then (7 : Int64) else 1) <<< ((μ.1 16 2).toInt64 &&& 63))), (4, .int 2), (2, .int (nB (ee8 && (!(decide ((lg_cmp (yy11 &&& 67502849) 0) = 0)))))), (1, .int (nB (ee6 && (!(decide ((lg_cmp (yy11 &&& 17113154305) 0) = 0)))))), (3, .int (nB ee2)), (0, .ref 14)]) (st' := [.int 1]) (μ' := μ) (by rfl) ?_
                      exact zJ hJ14 rfl (by first | with_reducible rfl | (simp only [h39, h40, lb_f, Int64.or_zero, Int32.add_zero, nB_t, nB_f, Bool.not_true, Bool.not_false, Bool.and_true, Bool.true_and, Bool.false_and, Bool.and_false, Bool.or_true, Bool.true_or, Bool.false_or, Bool.or_false, cond_true, cond_false]; done) | rfl) rfl
                refine zq_if hc hH (by rfl) (tg := 79) (by rfl) (fun h41 => ?_) (fun h41 => ?_)
                · have h41 : (decide ((μ.1 15 2) = 0)) = false := decide_eq_false (cm_ne.mp h41)
                  refine z_rcs hc hH 1 (pc' := 80) (lv' := [(4, .int 2), (2, .int (nB (ee8 && (!(decide ((lg_cmp (yy11 &&& 67502849) 0) = 0)))))), (1, .int (nB (ee6 && (!(decide ((lg_cmp (yy11 &&& 17113154305) 0) = 0)))))), (5, .long yy11), (3, .int (nB ee2)), (0, .ref 14)]) (st' := [.long 1]) (μ' := μ) (by rfl) ?_
                  exact zJ hJ13 rfl (by first | with_reducible rfl | (simp only [h41, lb_f, Int64.or_zero, Int32.add_zero, nB_t, nB_f, Bool.not_true, Bool.not_false, Bool.and_true, Bool.true_and, Bool.false_and, Bool.and_false, Bool.or_true, Bool.true_or, Bool.false_or, Bool.or_false, cond_true, cond_false]; done) | rfl) rfl
                · have h41 : (decide ((μ.1 15 2) = 0)) = true := decide_eq_true (cn_ne.mp h41)
                  refine z_rcs hc hH 2 (pc' := 80) (lv' := [(4, .int 2), (2, .int (nB (ee8 && (!(decide ((lg_cmp (yy11 &&& 67502849) 0) = 0)))))), (1, .int (nB (ee6 && (!(decide ((lg_cmp (yy11 &&& 17113154305) 0) = 0)))))), (5, .long yy11), (3, .int (nB ee2)), (0, .ref 14)]) (st' := [.long 7]) (μ' := μ) (by rfl) ?_
                  exact zJ hJ13 rfl (by first | with_reducible rfl | (simp only [h41, lb_f, Int64.or_zero, Int32.add_zero, nB_t, nB_f, Bool.not_true, Bool.not_false, Bool.and_true, Bool.true_and, Bool.false_and, Bool.and_false, Bool.or_true, Bool.true_or, Bool.false_or, Bool.or_false, cond_true, cond_false]; done) | rfl) rfl
              refine zq_if hc hH (by rfl) (tg := 130) (by rfl) (fun h42 => ?_) (fun h42 => ?_)
              · have h42 : (ee8) = false := nB_z.mp (cm_eq9.mp h42)
                refine z_rcs hc hH 1 (pc' := 131) (lv' := [(1, .int (nB (ee6 && (!(decide ((lg_cmp (yy11 &&& 17113154305) 0) = 0)))))), (5, .long yy11), (4, .int 1), (2, .int (nB ee8)), (3, .int (nB ee2)), (0, .ref 14)]) (st' := [.int 0]) (μ' := μ) (by rfl) ?_
                exact zJ hJ12 rfl (by first | with_reducible rfl | (simp only [h42, lb_f, Int64.or_zero, Int32.add_zero, nB_t, nB_f, Bool.not_true, Bool.not_false, Bool.and_true, Bool.true_and, Bool.false_and, Bool.and_false, Bool.or_true, Bool.true_or, Bool.false_or, Bool.or_false, cond_true, cond_false]; done) | rfl) rfl
              · have h42 : (ee8) = true := nB_n.mp (cn_eq.mp h42)
                refine z_rcs hc hH 5 (pc' := 123) (lv' := [(1, .int (nB (ee6 && (!(decide ((lg_cmp (yy11 &&& 17113154305) 0) = 0)))))), (5, .long yy11), (4, .int 1), (2, .int (nB ee8)), (3, .int (nB ee2)), (0, .ref 14)]) (st' := [.int (lg_cmp (yy11 &&& 67502849) 0)]) (μ' := μ) (by rfl) ?_
                refine zq_if hc hH (by rfl) (tg := 130) (by rfl) (fun h43 => ?_) (fun h43 => ?_)
                · have h43 : (decide ((lg_cmp (yy11 &&& 67502849) 0) = 0)) = true := decide_eq_true (cm_eq9.mp h43)
                  refine z_rcs hc hH 1 (pc' := 131) (lv' := [(1, .int (nB (ee6 && (!(decide ((lg_cmp (yy11 &&& 17113154305) 0) = 0)))))), (5, .long yy11), (4, .int 1), (2, .int (nB ee8)), (3, .int (nB ee2)), (0, .ref 14)]) (st' := [.int 0]) (μ' := μ) (by rfl) ?_
                  exact zJ hJ12 rfl (by first | with_reducible rfl | (simp only [h42, h43, lb_f, Int64.or_zero, Int32.add_zero, nB_t, nB_f, Bool.not_true, Bool.not_false, Bool.and_true, Bool.true_and, Bool.false_and, Bool.and_false, Bool.or_true, Bool.true_or, Bool.false_or, Bool.or_false, cond_true, cond_false]; done) | rfl) rfl
                · have h43 : (decide ((lg_cmp (yy11 &&& 67502849) 0) = 0)) = false := decide_eq_false (cn_eq.mp h43)
                  refine z_rcs hc hH 2 (pc' := 131) (lv' := [(1, .int (nB (ee6 && (!(decide ((lg_cmp (yy11 &&& 17113154305) 0) = 0)))))), (5, .long yy11), (4, .int 1), (2, .int (nB ee8)), (3, .int (nB ee2)), (0, .ref 14)]) (st' := [.int 1]) (μ' := μ) (by rfl) ?_
                  exact zJ hJ12 rfl (by first | with_reducible rfl | (simp only [h42, h43, lb_f, Int64.or_zero, Int32.add_zero, nB_t, nB_f, Bool.not_true, Bool.not_false, Bool.and_true, Bool.true_and, Bool.false_and, Bool.and_false, Bool.or_true, Bool.true_or, Bool.false_or, Bool.or_false, cond_true, cond_false]; done) | rfl) rfl
            refine zq_if hc hH (by rfl) (tg := 109) (by rfl) (fun h44 => ?_) (fun h44 => ?_)
            · have h44 : (ee6) = false := nB_z.mp (cm_eq9.mp h44)
              refine z_rcs hc hH 1 (pc' := 110) (lv' := [(5, .long ((bif decide ((μ.1 15 1) = 0) then (7 : Int64) else 1) <<< ((μ.1 16 1).toInt64 &&& 63))), (4, .int 1), (2, .int (nB ee8)), (1, .int (nB ee6)), (3, .int (nB ee2)), (0, .ref 14)]) (st' := [.int 0]) (μ' := μ) (by rfl) ?_
              exact zJ hJ10 rfl (by first | with_reducible rfl | (simp only [h44, lb_f, Int64.or_zero, Int32.add_zero, nB_t, nB_f, Bool.not_true, Bool.not_false, Bool.and_true, Bool.true_and, Bool.false_and, Bool.and_false, Bool.or_true, Bool.true_or, Bool.false_or, Bool.or_false, cond_true, cond_false]; done) | rfl) rfl
            · have h44 : (ee6) = true := nB_n.mp (cn_eq.mp h44)
              refine z_rcs hc hH 5 (pc' := 102) (lv' := [(5, .long ((bif decide ((μ.1 15 1) = 0) then (7 : Int64) else 1) <<< ((μ.1 16 1).toInt64 &&& 63))), (4, .int 1), (2, .int (nB ee8)), (1, .int (nB ee6)), (3, .int (nB ee2)), (0, .ref 14)]) (st' := [.int (lg_cmp (((bif decide ((μ.1 15 1) = 0) then (7 : Int64) else 1) <<< ((μ.1 16 1).toInt64 &&& 63)) &&& 17113154305) 0)]) (μ' := μ) (by rfl) ?_
              refine zq_if hc hH (by rfl) (tg := 109) (by rfl) (fun h45 => ?_) (fun h45 => ?_)
              · have h45 : (decide ((lg_cmp (((bif decide ((μ.1 15 1) = 0) then (7 : Int64) else 1) <<< ((μ.1 16 1).toInt64 &&& 63)) &&& 17113154305) 0) = 0)) = true := decide_eq_true (cm_eq9.mp h45)
                refine z_rcs hc hH 1 (pc' := 110) (lv' := [(5, .long ((bif decide ((μ.1 15 1) = 0) then (7 : Int64) else 1) <<< ((μ.1 16 1).toInt64 &&& 63))), (4, .int 1), (2, .int (nB ee8)), (1, .int (nB ee6)), (3, .int (nB ee2)), (0, .ref 14)]) (st' := [.int 0]) (μ' := μ) (by rfl) ?_
                exact zJ hJ10 rfl (by first | with_reducible rfl | (simp only [h44, h45, lb_f, Int64.or_zero, Int32.add_zero, nB_t, nB_f, Bool.not_true, Bool.not_false, Bool.and_true, Bool.true_and, Bool.false_and, Bool.and_false, Bool.or_true, Bool.true_or, Bool.false_or, Bool.or_false, cond_true, cond_false]; done) | rfl) rfl
              · have h45 : (decide ((lg_cmp (((bif decide ((μ.1 15 1) = 0) then (7 : Int64) else 1) <<< ((μ.1 16 1).toInt64 &&& 63)) &&& 17113154305) 0) = 0)) = false := decide_eq_false (cn_eq.mp h45)
                refine z_rcs hc hH 2 (pc' := 110) (lv' := [(5, .long ((bif decide ((μ.1 15 1) = 0) then (7 : Int64) else 1) <<< ((μ.1 16 1).toInt64 &&& 63))), (4, .int 1), (2, .int (nB ee8)), (1, .int (nB ee6)), (3, .int (nB ee2)), (0, .ref 14)]) (st' := [.int 1]) (μ' := μ) (by rfl) ?_
                exact zJ hJ10 rfl (by first | with_reducible rfl | (simp only [h44, h45, lb_f, Int64.or_zero, Int32.add_zero, nB_t, nB_f, Bool.not_true, Bool.not_false, Bool.and_true, Bool.true_and, Bool.false_and, Bool.and_false, Bool.or_true, Bool.true_or, Bool.false_or, Bool.or_false, cond_true, cond_false]; done) | rfl) rfl
          refine zq_if hc hH (by rfl) (tg := 79) (by rfl) (fun h46 => ?_) (fun h46 => ?_)
          · have h46 : (decide ((μ.1 15 1) = 0)) = false := decide_eq_false (cm_ne.mp h46)
            refine z_rcs hc hH 1 (pc' := 80) (lv' := [(4, .int 1), (2, .int (nB ee8)), (1, .int (nB ee6)), (5, .long yy5), (3, .int (nB ee2)), (0, .ref 14)]) (st' := [.long 1]) (μ' := μ) (by rfl) ?_
            exact zJ hJ9 rfl (by first | with_reducible rfl | (simp only [h46, lb_f, Int64.or_zero, Int32.add_zero, nB_t, nB_f, Bool.not_true, Bool.not_false, Bool.and_true, Bool.true_and, Bool.false_and, Bool.and_false, Bool.or_true, Bool.true_or, Bool.false_or, Bool.or_false, cond_true, cond_false]; done) | rfl) rfl
          · have h46 : (decide ((μ.1 15 1) = 0)) = true := decide_eq_true (cn_ne.mp h46)
            refine z_rcs hc hH 2 (pc' := 80) (lv' := [(4, .int 1), (2, .int (nB ee8)), (1, .int (nB ee6)), (5, .long yy5), (3, .int (nB ee2)), (0, .ref 14)]) (st' := [.long 7]) (μ' := μ) (by rfl) ?_
            exact zJ hJ9 rfl (by first | with_reducible rfl | (simp only [h46, lb_f, Int64.or_zero, Int32.add_zero, nB_t, nB_f, Bool.not_true, Bool.not_false, Bool.and_true, Bool.true_and, Bool.false_and, Bool.and_false, Bool.or_true, Bool.true_or, Bool.false_or, Bool.or_false, cond_true, cond_false]; done) | rfl) rfl
        refine zq_if hc hH (by rfl) (tg := 130) (by rfl) (fun h47 => ?_) (fun h47 => ?_)
        · have h47 : (xHd 67502849 (μ.1 14 15)) = false := nB_z.mp (cm_eq9.mp h47)
          refine z_rcs hc hH 1 (pc' := 131) (lv' := [(1, .int (nB ee6)), (5, .long yy5), (4, .int 0), (3, .int (nB ee2)), (2, .int (nB (xHd 67502849 (μ.1 14 15)))), (0, .ref 14)]) (st' := [.int 0]) (μ' := μ) (by rfl) ?_
          exact zJ hJ7 rfl (by first | with_reducible rfl | (simp only [h47, lb_f, Int64.or_zero, Int32.add_zero, nB_t, nB_f, Bool.not_true, Bool.not_false, Bool.and_true, Bool.true_and, Bool.false_and, Bool.and_false, Bool.or_true, Bool.true_or, Bool.false_or, Bool.or_false, cond_true, cond_false]; done) | rfl) rfl
        · have h47 : (xHd 67502849 (μ.1 14 15)) = true := nB_n.mp (cn_eq.mp h47)
          refine z_rcs hc hH 5 (pc' := 123) (lv' := [(1, .int (nB ee6)), (5, .long yy5), (4, .int 0), (3, .int (nB ee2)), (2, .int (nB (xHd 67502849 (μ.1 14 15)))), (0, .ref 14)]) (st' := [.int (lg_cmp (yy5 &&& 67502849) 0)]) (μ' := μ) (by rfl) ?_
          refine zq_if hc hH (by rfl) (tg := 130) (by rfl) (fun h48 => ?_) (fun h48 => ?_)
          · have h48 : (decide ((lg_cmp (yy5 &&& 67502849) 0) = 0)) = true := decide_eq_true (cm_eq9.mp h48)
            refine z_rcs hc hH 1 (pc' := 131) (lv' := [(1, .int (nB ee6)), (5, .long yy5), (4, .int 0), (3, .int (nB ee2)), (2, .int (nB (xHd 67502849 (μ.1 14 15)))), (0, .ref 14)]) (st' := [.int 0]) (μ' := μ) (by rfl) ?_
            exact zJ hJ7 rfl (by first | with_reducible rfl | (simp only [h47, h48, lb_f, Int64.or_zero, Int32.add_zero, nB_t, nB_f, Bool.not_true, Bool.not_false, Bool.and_true, Bool.true_and, Bool.false_and, Bool.and_false, Bool.or_true, Bool.true_or, Bool.false_or, Bool.or_false, cond_true, cond_false]; done) | rfl) rfl
          · have h48 : (decide ((lg_cmp (yy5 &&& 67502849) 0) = 0)) = false := decide_eq_false (cn_eq.mp h48)
            refine z_rcs hc hH 2 (pc' := 131) (lv' := [(1, .int (nB ee6)), (5, .long yy5), (4, .int 0), (3, .int (nB ee2)), (2, .int (nB (xHd 67502849 (μ.1 14 15)))), (0, .ref 14)]) (st' := [.int 1]) (μ' := μ) (by rfl) ?_
            exact zJ hJ7 rfl (by first | with_reducible rfl | (simp only [h47, h48, lb_f, Int64.or_zero, Int32.add_zero, nB_t, nB_f, Bool.not_true, Bool.not_false, Bool.and_true, Bool.true_and, Bool.false_and, Bool.and_false, Bool.or_true, Bool.true_or, Bool.false_or, Bool.or_false, cond_true, cond_false]; done) | rfl) rfl
      refine zq_if hc hH (by rfl) (tg := 109) (by rfl) (fun h49 => ?_) (fun h49 => ?_)
      · have h49 : (xHd 17113154305 (μ.1 14 15)) = false := nB_z.mp (cm_eq9.mp h49)
        refine z_rcs hc hH 1 (pc' := 110) (lv' := [(5, .long ((bif decide ((μ.1 15 0) = 0) then (7 : Int64) else 1) <<< ((μ.1 16 0).toInt64 &&& 63))), (4, .int 0), (3, .int (nB ee2)), (2, .int (nB (xHd 67502849 (μ.1 14 15)))), (1, .int (nB (xHd 17113154305 (μ.1 14 15)))), (0, .ref 14)]) (st' := [.int 0]) (μ' := μ) (by rfl) ?_
        exact zJ hJ4 rfl (by first | with_reducible rfl | (simp only [h49, lb_f, Int64.or_zero, Int32.add_zero, nB_t, nB_f, Bool.not_true, Bool.not_false, Bool.and_true, Bool.true_and, Bool.false_and, Bool.and_false, Bool.or_true, Bool.true_or, Bool.false_or, Bool.or_false, cond_true, cond_false]; done) | rfl) rfl
      · have h49 : (xHd 17113154305 (μ.1 14 15)) = true := nB_n.mp (cn_eq.mp h49)
        refine z_rcs hc hH 5 (pc' := 102) (lv' := [(5, .long ((bif decide ((μ.1 15 0) = 0) then (7 : Int64) else 1) <<< ((μ.1 16 0).toInt64 &&& 63))), (4, .int 0), (3, .int (nB ee2)), (2, .int (nB (xHd 67502849 (μ.1 14 15)))), (1, .int (nB (xHd 17113154305 (μ.1 14 15)))), (0, .ref 14)]) (st' := [.int (lg_cmp (((bif decide ((μ.1 15 0) = 0) then (7 : Int64) else 1) <<< ((μ.1 16 0).toInt64 &&& 63)) &&& 17113154305) 0)]) (μ' := μ) (by rfl) ?_
        refine zq_if hc hH (by rfl) (tg := 109) (by rfl) (fun h50 => ?_) (fun h50 => ?_)
        · have h50 : (decide ((lg_cmp (((bif decide ((μ.1 15 0) = 0) then (7 : Int64) else 1) <<< ((μ.1 16 0).toInt64 &&& 63)) &&& 17113154305) 0) = 0)) = true := decide_eq_true (cm_eq9.mp h50)
          refine z_rcs hc hH 1 (pc' := 110) (lv' := [(5, .long ((bif decide ((μ.1 15 0) = 0) then (7 : Int64) else 1) <<< ((μ.1 16 0).toInt64 &&& 63))), (4, .int 0), (3, .int (nB ee2)), (2, .int (nB (xHd 67502849 (μ.1 14 15)))), (1, .int (nB (xHd 17113154305 (μ.1 14 15)))), (0, .ref 14)]) (st' := [.int 0]) (μ' := μ) (by rfl) ?_
          exact zJ hJ4 rfl (by first | with_reducible rfl | (simp only [h49, h50, lb_f, Int64.or_zero, Int32.add_zero, nB_t, nB_f, Bool.not_true, Bool.not_false, Bool.and_true, Bool.true_and, Bool.false_and, Bool.and_false, Bool.or_true, Bool.true_or, Bool.false_or, Bool.or_false, cond_true, cond_false]; done) | rfl) rfl
        · have h50 : (decide ((lg_cmp (((bif decide ((μ.1 15 0) = 0) then (7 : Int64) else 1) <<< ((μ.1 16 0).toInt64 &&& 63)) &&& 17113154305) 0) = 0)) = false := decide_eq_false (cn_eq.mp h50)
          refine z_rcs hc hH 2 (pc' := 110) (lv' := [(5, .long ((bif decide ((μ.1 15 0) = 0) then (7 : Int64) else 1) <<< ((μ.1 16 0).toInt64 &&& 63))), (4, .int 0), (3, .int (nB ee2)), (2, .int (nB (xHd 67502849 (μ.1 14 15)))), (1, .int (nB (xHd 17113154305 (μ.1 14 15)))), (0, .ref 14)]) (st' := [.int 1]) (μ' := μ) (by rfl) ?_
          exact zJ hJ4 rfl (by first | with_reducible rfl | (simp only [h49, h50, lb_f, Int64.or_zero, Int32.add_zero, nB_t, nB_f, Bool.not_true, Bool.not_false, Bool.and_true, Bool.true_and, Bool.false_and, Bool.and_false, Bool.or_true, Bool.true_or, Bool.false_or, Bool.or_false, cond_true, cond_false]; done) | rfl) rfl
    refine zq_if hc hH (by rfl) (tg := 79) (by rfl) (fun h51 => ?_) (fun h51 => ?_)
    · have h51 : (decide ((μ.1 15 0) = 0)) = false := decide_eq_false (cm_ne.mp h51)
      refine z_rcs hc hH 1 (pc' := 80) (lv' := [(4, .int 0), (3, .int (nB ee2)), (2, .int (nB (xHd 67502849 (μ.1 14 15)))), (1, .int (nB (xHd 17113154305 (μ.1 14 15)))), (0, .ref 14)]) (st' := [.long 1]) (μ' := μ) (by rfl) ?_
      exact zJ hJ3 rfl (by first | with_reducible rfl | (simp only [h51, lb_f, Int64.or_zero, Int32.add_zero, nB_t, nB_f, Bool.not_true, Bool.not_false, Bool.and_true, Bool.true_and, Bool.false_and, Bool.and_false, Bool.or_true, Bool.true_or, Bool.false_or, Bool.or_false, cond_true, cond_false]; done) | rfl) rfl
    · have h51 : (decide ((μ.1 15 0) = 0)) = true := decide_eq_true (cn_ne.mp h51)
      refine z_rcs hc hH 2 (pc' := 80) (lv' := [(4, .int 0), (3, .int (nB ee2)), (2, .int (nB (xHd 67502849 (μ.1 14 15)))), (1, .int (nB (xHd 17113154305 (μ.1 14 15)))), (0, .ref 14)]) (st' := [.long 7]) (μ' := μ) (by rfl) ?_
      exact zJ hJ3 rfl (by first | with_reducible rfl | (simp only [h51, lb_f, Int64.or_zero, Int32.add_zero, nB_t, nB_f, Bool.not_true, Bool.not_false, Bool.and_true, Bool.true_and, Bool.false_and, Bool.and_false, Bool.or_true, Bool.true_or, Bool.false_or, Bool.or_false, cond_true, cond_false]; done) | rfl) rfl
  refine zq_if hc hH (by rfl) (tg := 48) (by rfl) (fun h52 => ?_) (fun h52 => ?_)
  · have h52 : (xHd 17045651456 (μ.1 14 15)) = true := nB_n.mp (cm_ne.mp h52)
    refine z_rcs hc hH 2 (pc' := 53) (lv' := [(2, .int (nB (xHd 67502849 (μ.1 14 15)))), (1, .int (nB (xHd 17113154305 (μ.1 14 15)))), (0, .ref 14)]) (st' := [.int 1]) (μ' := μ) (by rfl) ?_
    exact zJ hJ1 rfl (by first | with_reducible rfl | (simp only [h52, lb_f, Int64.or_zero, Int32.add_zero, nB_t, nB_f, Bool.not_true, Bool.not_false, Bool.and_true, Bool.true_and, Bool.false_and, Bool.and_false, Bool.or_true, Bool.true_or, Bool.false_or, Bool.or_false, cond_true, cond_false]; done) | rfl) rfl
  · have h52 : (xHd 17045651456 (μ.1 14 15)) = false := nB_z.mp (cn_ne.mp h52)
    refine z_rcs hc hH 6 (pc' := 45) (lv' := [(2, .int (nB (xHd 67502849 (μ.1 14 15)))), (1, .int (nB (xHd 17113154305 (μ.1 14 15)))), (0, .ref 14)]) (st' := [.int (lg_cmp ((μ.2.1 14 17) &&& 17045651456) 0)]) (μ' := μ) (by rfl) ?_
    refine zq_if hc hH (by rfl) (tg := 52) (by rfl) (fun h53 => ?_) (fun h53 => ?_)
    · have h53 : (decide ((lg_cmp ((μ.2.1 14 17) &&& 17045651456) 0) = 0)) = true := decide_eq_true (cm_eq9.mp h53)
      refine z_rcs hc hH 1 (pc' := 53) (lv' := [(2, .int (nB (xHd 67502849 (μ.1 14 15)))), (1, .int (nB (xHd 17113154305 (μ.1 14 15)))), (0, .ref 14)]) (st' := [.int 0]) (μ' := μ) (by rfl) ?_
      exact zJ hJ1 rfl (by first | with_reducible rfl | (simp only [h52, h53, lb_f, Int64.or_zero, Int32.add_zero, nB_t, nB_f, Bool.not_true, Bool.not_false, Bool.and_true, Bool.true_and, Bool.false_and, Bool.and_false, Bool.or_true, Bool.true_or, Bool.false_or, Bool.or_false, cond_true, cond_false]; done) | rfl) rfl
    · have h53 : (decide ((lg_cmp ((μ.2.1 14 17) &&& 17045651456) 0) = 0)) = false := decide_eq_false (cn_eq.mp h53)
      refine z_rcs hc hH 2 (pc' := 53) (lv' := [(2, .int (nB (xHd 67502849 (μ.1 14 15)))), (1, .int (nB (xHd 17113154305 (μ.1 14 15)))), (0, .ref 14)]) (st' := [.int 1]) (μ' := μ) (by rfl) ?_
      exact zJ hJ1 rfl (by first | with_reducible rfl | (simp only [h52, h53, lb_f, Int64.or_zero, Int32.add_zero, nB_t, nB_f, Bool.not_true, Bool.not_false, Bool.and_true, Bool.true_and, Bool.false_and, Bool.and_false, Bool.or_true, Bool.true_or, Bool.false_or, Bool.or_false, cond_true, cond_false]; done) | rfl) rfl
theorem fb_X1_likeRuns (d : Nat) (hd : 2 ≤ d) (μ : zM) : z_C d mi_X1_likeRuns [.ref 14] μ (zR μ (.long ((lb (decide ((((0 + ((0 + (nB ((decide ((μ.1 15 1) = 0)) && ((decide ((μ.1 15 0) = 0)) && (decide ((μ.1 16 1) = (μ.1 16 0))))))) - (0 + (nB ((decide ((μ.1 15 1) = 0)) && ((decide ((μ.1 15 0) = 0)) && (decide ((μ.1 16 1) = (μ.1 16 0))))))) / 2 * 2)) + (((0 + (nB ((decide ((μ.1 15 2) = 0)) && ((decide ((μ.1 15 0) = 0)) && (decide ((μ.1 16 2) = (μ.1 16 0))))))) + (nB ((decide ((μ.1 15 2) = 0)) && ((decide ((μ.1 15 1) = 0)) && (decide ((μ.1 16 2) = (μ.1 16 1))))))) - ((0 + (nB ((decide ((μ.1 15 2) = 0)) && ((decide ((μ.1 15 0) = 0)) && (decide ((μ.1 16 2) = (μ.1 16 0))))))) + (nB ((decide ((μ.1 15 2) = 0)) && ((decide ((μ.1 15 1) = 0)) && (decide ((μ.1 16 2) = (μ.1 16 1))))))) / 2 * 2)) + ((((0 + (nB ((decide ((μ.1 15 3) = 0)) && ((decide ((μ.1 15 0) = 0)) && (decide ((μ.1 16 3) = (μ.1 16 0))))))) + (nB ((decide ((μ.1 15 3) = 0)) && ((decide ((μ.1 15 1) = 0)) && (decide ((μ.1 16 3) = (μ.1 16 1))))))) + (nB ((decide ((μ.1 15 3) = 0)) && ((decide ((μ.1 15 2) = 0)) && (decide ((μ.1 16 3) = (μ.1 16 2))))))) - (((0 + (nB ((decide ((μ.1 15 3) = 0)) && ((decide ((μ.1 15 0) = 0)) && (decide ((μ.1 16 3) = (μ.1 16 0))))))) + (nB ((decide ((μ.1 15 3) = 0)) && ((decide ((μ.1 15 1) = 0)) && (decide ((μ.1 16 3) = (μ.1 16 1))))))) + (nB ((decide ((μ.1 15 3) = 0)) && ((decide ((μ.1 15 2) = 0)) && (decide ((μ.1 16 3) = (μ.1 16 2))))))) / 2 * 2)) = 1)) 10) ||| (lb (decide ((((0 + ((0 + (nB ((decide ((μ.1 15 1) = 0)) && ((decide ((μ.1 15 0) = 0)) && (decide ((μ.1 16 1) = (μ.1 16 0))))))) - (0 + (nB ((decide ((μ.1 15 1) = 0)) && ((decide ((μ.1 15 0) = 0)) && (decide ((μ.1 16 1) = (μ.1 16 0))))))) / 2 * 2)) + (((0 + (nB ((decide ((μ.1 15 2) = 0)) && ((decide ((μ.1 15 0) = 0)) && (decide ((μ.1 16 2) = (μ.1 16 0))))))) + (nB ((decide ((μ.1 15 2) = 0)) && ((decide ((μ.1 15 1) = 0)) && (decide ((μ.1 16 2) = (μ.1 16 1))))))) - ((0 + (nB ((decide ((μ.1 15 2) = 0)) && ((decide ((μ.1 15 0) = 0)) && (decide ((μ.1 16 2) = (μ.1 16 0))))))) + (nB ((decide ((μ.1 15 2) = 0)) && ((decide ((μ.1 15 1) = 0)) && (decide ((μ.1 16 2) = (μ.1 16 1))))))) / 2 * 2)) + ((((0 + (nB ((decide ((μ.1 15 3) = 0)) && ((decide ((μ.1 15 0) = 0)) && (decide ((μ.1 16 3) = (μ.1 16 0))))))) + (nB ((decide ((μ.1 15 3) = 0)) && ((decide ((μ.1 15 1) = 0)) && (decide ((μ.1 16 3) = (μ.1 16 1))))))) + (nB ((decide ((μ.1 15 3) = 0)) && ((decide ((μ.1 15 2) = 0)) && (decide ((μ.1 16 3) = (μ.1 16 2))))))) - (((0 + (nB ((decide ((μ.1 15 3) = 0)) && ((decide ((μ.1 15 0) = 0)) && (decide ((μ.1 16 3) = (μ.1 16 0))))))) + (nB ((decide ((μ.1 15 3) = 0)) && ((decide ((μ.1 15 1) = 0)) && (decide ((μ.1 16 3) = (μ.1 16 1))))))) + (nB ((decide ((μ.1 15 3) = 0)) && ((decide ((μ.1 15 2) = 0)) && (decide ((μ.1 16 3) = (μ.1 16 2))))))) / 2 * 2)) = 2)) 28)))) := by
  refine z_C_in (by decide) (by omega) (fun d' Z ed hc hr => ?_)
  have hH : zH mi_X1_likeRuns zt_X1_likeRuns 79 1 5 := hh_X1_likeRuns
  refine z_rcs hc hH 36 (pc' := 26) (lv' := [(4, .int 0), (3, .int 0), (2, .int 1), (1, .int 0), (0, .ref 14)]) (st' := [.int 1, .ref 15, .int 0]) (μ' := μ) (by rfl) ?_
  refine zq_iald hc hH (by rfl) 4 (by decide +kernel) (show vp_in (nI 1) 4 from vp_in_nI (by decide) (by decide)) ?_
  show Z 0 27 [(4, .int 0), (3, .int 0), (2, .int 1), (1, .int 0), (0, .ref 14)] [.int (μ.1 15 1), .int 0] μ
  have hJ1 : Z 0 61 [(4, .int 0), (3, .int 0), (2, .int 1), (1, .int 0), (0, .ref 14)] [.int (nB ((decide ((μ.1 15 1) = 0)) && ((decide ((μ.1 15 0) = 0)) && (decide ((μ.1 16 1) = (μ.1 16 0)))))), .int 0] μ := by
    generalize hee2 : ((decide ((μ.1 15 1) = 0)) && ((decide ((μ.1 15 0) = 0)) && (decide ((μ.1 16 1) = (μ.1 16 0))))) = ee2
    refine z_rcs hc hH 29 (pc' := 26) (lv' := [(4, .int 0), (3, .int 0), (2, .int 2), (1, .int (0 + ((0 + (nB ee2)) - (0 + (nB ee2)) / 2 * 2))), (0, .ref 14)]) (st' := [.int 2, .ref 15, .int 0]) (μ' := μ) (by rfl) ?_
    refine zq_iald hc hH (by rfl) 4 (by decide +kernel) (show vp_in (nI 2) 4 from vp_in_nI (by decide) (by decide)) ?_
    show Z 0 27 [(4, .int 0), (3, .int 0), (2, .int 2), (1, .int (0 + ((0 + (nB ee2)) - (0 + (nB ee2)) / 2 * 2))), (0, .ref 14)] [.int (μ.1 15 2), .int 0] μ
    have hJ3 : Z 0 61 [(4, .int 0), (3, .int 0), (2, .int 2), (1, .int (0 + ((0 + (nB ee2)) - (0 + (nB ee2)) / 2 * 2))), (0, .ref 14)] [.int (nB ((decide ((μ.1 15 2) = 0)) && ((decide ((μ.1 15 0) = 0)) && (decide ((μ.1 16 2) = (μ.1 16 0)))))), .int 0] μ := by
      generalize hee4 : ((decide ((μ.1 15 2) = 0)) && ((decide ((μ.1 15 0) = 0)) && (decide ((μ.1 16 2) = (μ.1 16 0))))) = ee4
      refine z_rcs hc hH 11 (pc' := 26) (lv' := [(4, .int 1), (3, .int (0 + (nB ee4))), (2, .int 2), (1, .int (0 + ((0 + (nB ee2)) - (0 + (nB ee2)) / 2 * 2))), (0, .ref 14)]) (st' := [.int 2, .ref 15, .int (0 + (nB ee4))]) (μ' := μ) (by rfl) ?_
      refine zq_iald hc hH (by rfl) 4 (by decide +kernel) (show vp_in (nI 2) 4 from vp_in_nI (by decide) (by decide)) ?_
      show Z 0 27 [(4, .int 1), (3, .int (0 + (nB ee4))), (2, .int 2), (1, .int (0 + ((0 + (nB ee2)) - (0 + (nB ee2)) / 2 * 2))), (0, .ref 14)] [.int (μ.1 15 2), .int (0 + (nB ee4))] μ
      have hJ5 : Z 0 61 [(4, .int 1), (3, .int (0 + (nB ee4))), (2, .int 2), (1, .int (0 + ((0 + (nB ee2)) - (0 + (nB ee2)) / 2 * 2))), (0, .ref 14)] [.int (nB ((decide ((μ.1 15 2) = 0)) && ((decide ((μ.1 15 1) = 0)) && (decide ((μ.1 16 2) = (μ.1 16 1)))))), .int (0 + (nB ee4))] μ := by
        generalize hee6 : ((decide ((μ.1 15 2) = 0)) && ((decide ((μ.1 15 1) = 0)) && (decide ((μ.1 16 2) = (μ.1 16 1))))) = ee6
        refine z_rcs hc hH 29 (pc' := 26) (lv' := [(4, .int 0), (3, .int 0), (2, .int 3), (1, .int ((0 + ((0 + (nB ee2)) - (0 + (nB ee2)) / 2 * 2)) + (((0 + (nB ee4)) + (nB ee6)) - ((0 + (nB ee4)) + (nB ee6)) / 2 * 2))), (0, .ref 14)]) (st' := [.int 3, .ref 15, .int 0]) (μ' := μ) (by rfl) ?_
        refine zq_iald hc hH (by rfl) 4 (by decide +kernel) (show vp_in (nI 3) 4 from vp_in_nI (by decide) (by decide)) ?_
        show Z 0 27 [(4, .int 0), (3, .int 0), (2, .int 3), (1, .int ((0 + ((0 + (nB ee2)) - (0 + (nB ee2)) / 2 * 2)) + (((0 + (nB ee4)) + (nB ee6)) - ((0 + (nB ee4)) + (nB ee6)) / 2 * 2))), (0, .ref 14)] [.int (μ.1 15 3), .int 0] μ
        have hJ7 : Z 0 61 [(4, .int 0), (3, .int 0), (2, .int 3), (1, .int ((0 + ((0 + (nB ee2)) - (0 + (nB ee2)) / 2 * 2)) + (((0 + (nB ee4)) + (nB ee6)) - ((0 + (nB ee4)) + (nB ee6)) / 2 * 2))), (0, .ref 14)] [.int (nB ((decide ((μ.1 15 3) = 0)) && ((decide ((μ.1 15 0) = 0)) && (decide ((μ.1 16 3) = (μ.1 16 0)))))), .int 0] μ := by
          generalize hyy8 : ((0 + ((0 + (nB ee2)) - (0 + (nB ee2)) / 2 * 2)) + (((0 + (nB ee4)) + (nB ee6)) - ((0 + (nB ee4)) + (nB ee6)) / 2 * 2) : Int32) = yy8
          generalize hee9 : ((decide ((μ.1 15 3) = 0)) && ((decide ((μ.1 15 0) = 0)) && (decide ((μ.1 16 3) = (μ.1 16 0))))) = ee9
          refine z_rcs hc hH 11 (pc' := 26) (lv' := [(4, .int 1), (3, .int (0 + (nB ee9))), (2, .int 3), (1, .int yy8), (0, .ref 14)]) (st' := [.int 3, .ref 15, .int (0 + (nB ee9))]) (μ' := μ) (by rfl) ?_
          refine zq_iald hc hH (by rfl) 4 (by decide +kernel) (show vp_in (nI 3) 4 from vp_in_nI (by decide) (by decide)) ?_
          show Z 0 27 [(4, .int 1), (3, .int (0 + (nB ee9))), (2, .int 3), (1, .int yy8), (0, .ref 14)] [.int (μ.1 15 3), .int (0 + (nB ee9))] μ
          have hJ10 : Z 0 61 [(4, .int 1), (3, .int (0 + (nB ee9))), (2, .int 3), (1, .int yy8), (0, .ref 14)] [.int (nB ((decide ((μ.1 15 3) = 0)) && ((decide ((μ.1 15 1) = 0)) && (decide ((μ.1 16 3) = (μ.1 16 1)))))), .int (0 + (nB ee9))] μ := by
            generalize hee11 : ((decide ((μ.1 15 3) = 0)) && ((decide ((μ.1 15 1) = 0)) && (decide ((μ.1 16 3) = (μ.1 16 1))))) = ee11
            refine z_rcs hc hH 11 (pc' := 26) (lv' := [(4, .int 2), (3, .int ((0 + (nB ee9)) + (nB ee11))), (2, .int 3), (1, .int yy8), (0, .ref 14)]) (st' := [.int 3, .ref 15, .int ((0 + (nB ee9)) + (nB ee11))]) (μ' := μ) (by rfl) ?_
            refine zq_iald hc hH (by rfl) 4 (by decide +kernel) (show vp_in (nI 3) 4 from vp_in_nI (by decide) (by decide)) ?_
            show Z 0 27 [(4, .int 2), (3, .int ((0 + (nB ee9)) + (nB ee11))), (2, .int 3), (1, .int yy8), (0, .ref 14)] [.int (μ.1 15 3), .int ((0 + (nB ee9)) + (nB ee11))] μ
            have hJ12 : Z 0 61 [(4, .int 2), (3, .int ((0 + (nB ee9)) + (nB ee11))), (2, .int 3), (1, .int yy8), (0, .ref 14)] [.int (nB ((decide ((μ.1 15 3) = 0)) && ((decide ((μ.1 15 2) = 0)) && (decide ((μ.1 16 3) = (μ.1 16 2)))))), .int ((0 + (nB ee9)) + (nB ee11))] μ := by
              generalize hee13 : ((decide ((μ.1 15 3) = 0)) && ((decide ((μ.1 15 2) = 0)) && (decide ((μ.1 16 3) = (μ.1 16 2))))) = ee13
              refine z_rcs hc hH 20 (pc' := 83) (lv' := [(2, .int 4), (1, .int (yy8 + ((((0 + (nB ee9)) + (nB ee11)) + (nB ee13)) - (((0 + (nB ee9)) + (nB ee11)) + (nB ee13)) / 2 * 2))), (4, .int 3), (3, .int (((0 + (nB ee9)) + (nB ee11)) + (nB ee13))), (0, .ref 14)]) (st' := [.int 1, .int (yy8 + ((((0 + (nB ee9)) + (nB ee11)) + (nB ee13)) - (((0 + (nB ee9)) + (nB ee11)) + (nB ee13)) / 2 * 2))]) (μ' := μ) (by rfl) ?_
              have hJ14 : Z 0 91 [(2, .int 4), (1, .int (yy8 + ((((0 + (nB ee9)) + (nB ee11)) + (nB ee13)) - (((0 + (nB ee9)) + (nB ee11)) + (nB ee13)) / 2 * 2))), (4, .int 3), (3, .int (((0 + (nB ee9)) + (nB ee11)) + (nB ee13))), (0, .ref 14)] [.int (nB (decide ((yy8 + ((((0 + (nB ee9)) + (nB ee11)) + (nB ee13)) - (((0 + (nB ee9)) + (nB ee11)) + (nB ee13)) / 2 * 2)) = 1)))] μ := by
                generalize hyy15 : (yy8 + ((((0 + (nB ee9)) + (nB ee11)) + (nB ee13)) - (((0 + (nB ee9)) + (nB ee11)) + (nB ee13)) / 2 * 2) : Int32) = yy15
                refine z_rcs hc hH 1 (pc' := 93) (lv' := [(2, .int 4), (1, .int yy15), (4, .int 3), (3, .int (((0 + (nB ee9)) + (nB ee11)) + (nB ee13))), (0, .ref 14)]) (st' := [.int 10, .int (nB (decide (yy15 = 1)))]) (μ' := μ) (by rfl) ?_
                refine zq_call hc (z_cx_ok hH (by rfl)) (fb_X1_bit d' (by omega) μ (decide (yy15 = 1)) 10) (by decide +kernel) (fun r9 μ9 hq => ?_)
                obtain ⟨hμ9, rfl⟩ := hq
                rw [hμ9]
                clear hμ9 μ9
                show Z 0 96 [(2, .int 4), (1, .int yy15), (4, .int 3), (3, .int (((0 + (nB ee9)) + (nB ee11)) + (nB ee13))), (0, .ref 14)] [.long (lb (decide (yy15 = 1)) 10)] μ
                refine z_rcs hc hH 2 (pc' := 98) (lv' := [(2, .int 4), (1, .int yy15), (4, .int 3), (3, .int (((0 + (nB ee9)) + (nB ee11)) + (nB ee13))), (0, .ref 14)]) (st' := [.int 2, .int yy15, .long (lb (decide (yy15 = 1)) 10)]) (μ' := μ) (by rfl) ?_
                have hJ16 : Z 0 106 [(2, .int 4), (1, .int yy15), (4, .int 3), (3, .int (((0 + (nB ee9)) + (nB ee11)) + (nB ee13))), (0, .ref 14)] [.int (nB (decide (yy15 = 2))), .long (lb (decide (yy15 = 1)) 10)] μ := by
                  refine z_rcs hc hH 1 (pc' := 108) (lv' := [(2, .int 4), (1, .int yy15), (4, .int 3), (3, .int (((0 + (nB ee9)) + (nB ee11)) + (nB ee13))), (0, .ref 14)]) (st' := [.int 28, .int (nB (decide (yy15 = 2))), .long (lb (decide (yy15 = 1)) 10)]) (μ' := μ) (by rfl) ?_
                  refine zq_call hc (z_cx_ok hH (by rfl)) (fb_X1_bit d' (by omega) μ (decide (yy15 = 2)) 28) (by decide +kernel) (fun r9 μ9 hq => ?_)
                  obtain ⟨hμ9, rfl⟩ := hq
                  rw [hμ9]
                  clear hμ9 μ9
                  show Z 0 111 [(2, .int 4), (1, .int yy15), (4, .int 3), (3, .int (((0 + (nB ee9)) + (nB ee11)) + (nB ee13))), (0, .ref 14)] [.long (lb (decide (yy15 = 2)) 28), .long (lb (decide (yy15 = 1)) 10)] μ
                  refine z_rcs hc hH 1 (pc' := 112) (lv' := [(2, .int 4), (1, .int yy15), (4, .int 3), (3, .int (((0 + (nB ee9)) + (nB ee11)) + (nB ee13))), (0, .ref 14)]) (st' := [.long ((lb (decide (yy15 = 1)) 10) ||| (lb (decide (yy15 = 2)) 28))]) (μ' := μ) (by rfl) ?_
                  exact hr 0 112 _ _ _ (some (.long ((lb (decide (yy15 = 1)) 10) ||| (lb (decide (yy15 = 2)) 28)))) (by decide +kernel) (z_rx_ok hH (by rfl)) (⟨rfl, (by subst hyy15; subst hee13; subst hee11; subst hee9; subst hyy8; subst hee6; subst hee4; subst hee2; rfl)⟩)
                refine zq_ic hc hH (by rfl) (tg := 105) (by rfl) (fun h17 => ?_) (fun h17 => ?_)
                · have h17 : (decide (yy15 = 2)) = false := decide_eq_false (cm_ne.mp h17)
                  refine z_rcs hc hH 1 (pc' := 106) (lv' := [(2, .int 4), (1, .int yy15), (4, .int 3), (3, .int (((0 + (nB ee9)) + (nB ee11)) + (nB ee13))), (0, .ref 14)]) (st' := [.int 0, .long (lb (decide (yy15 = 1)) 10)]) (μ' := μ) (by rfl) ?_
                  exact zJ hJ16 rfl (by first | with_reducible rfl | (simp only [h17, lb_f, Int64.or_zero, Int32.add_zero, nB_t, nB_f, Bool.not_true, Bool.not_false, Bool.and_true, Bool.true_and, Bool.false_and, Bool.and_false, Bool.or_true, Bool.true_or, Bool.false_or, Bool.or_false, cond_true, cond_false]; done) | rfl) rfl
                · have h17 : (decide (yy15 = 2)) = true := decide_eq_true (cn_ne.mp h17)
                  refine z_rcs hc hH 2 (pc' := 106) (lv' := [(2, .int 4), (1, .int yy15), (4, .int 3), (3, .int (((0 + (nB ee9)) + (nB ee11)) + (nB ee13))), (0, .ref 14)]) (st' := [.int 1, .long (lb (decide (yy15 = 1)) 10)]) (μ' := μ) (by rfl) ?_
                  exact zJ hJ16 rfl (by first | with_reducible rfl | (simp only [h17, lb_f, Int64.or_zero, Int32.add_zero, nB_t, nB_f, Bool.not_true, Bool.not_false, Bool.and_true, Bool.true_and, Bool.false_and, Bool.and_false, Bool.or_true, Bool.true_or, Bool.false_or, Bool.or_false, cond_true, cond_false]; done) | rfl) rfl
              refine zq_ic hc hH (by rfl) (tg := 90) (by rfl) (fun h18 => ?_) (fun h18 => ?_)
              · have h18 : (decide ((yy8 + ((((0 + (nB ee9)) + (nB ee11)) + (nB ee13)) - (((0 + (nB ee9)) + (nB ee11)) + (nB ee13)) / 2 * 2)) = 1)) = false := decide_eq_false (cm_ne.mp h18)
                refine z_rcs hc hH 1 (pc' := 91) (lv' := [(2, .int 4), (1, .int (yy8 + ((((0 + (nB ee9)) + (nB ee11)) + (nB ee13)) - (((0 + (nB ee9)) + (nB ee11)) + (nB ee13)) / 2 * 2))), (4, .int 3), (3, .int (((0 + (nB ee9)) + (nB ee11)) + (nB ee13))), (0, .ref 14)]) (st' := [.int 0]) (μ' := μ) (by rfl) ?_
                exact zJ hJ14 rfl (by first | with_reducible rfl | (simp only [h18, lb_f, Int64.or_zero, Int32.add_zero, nB_t, nB_f, Bool.not_true, Bool.not_false, Bool.and_true, Bool.true_and, Bool.false_and, Bool.and_false, Bool.or_true, Bool.true_or, Bool.false_or, Bool.or_false, cond_true, cond_false]; done) | rfl) rfl
              · have h18 : (decide ((yy8 + ((((0 + (nB ee9)) + (nB ee11)) + (nB ee13)) - (((0 + (nB ee9)) + (nB ee11)) + (nB ee13)) / 2 * 2)) = 1)) = true := decide_eq_true (cn_ne.mp h18)
                refine z_rcs hc hH 2 (pc' := 91) (lv' := [(2, .int 4), (1, .int (yy8 + ((((0 + (nB ee9)) + (nB ee11)) + (nB ee13)) - (((0 + (nB ee9)) + (nB ee11)) + (nB ee13)) / 2 * 2))), (4, .int 3), (3, .int (((0 + (nB ee9)) + (nB ee11)) + (nB ee13))), (0, .ref 14)]) (st' := [.int 1]) (μ' := μ) (by rfl) ?_
                exact zJ hJ14 rfl (by first | with_reducible rfl | (simp only [h18, lb_f, Int64.or_zero, Int32.add_zero, nB_t, nB_f, Bool.not_true, Bool.not_false, Bool.and_true, Bool.true_and, Bool.false_and, Bool.and_false, Bool.or_true, Bool.true_or, Bool.false_or, Bool.or_false, cond_true, cond_false]; done) | rfl) rfl
            refine zq_if hc hH (by rfl) (tg := 60) (by rfl) (fun h19 => ?_) (fun h19 => ?_)
            · have h19 : (decide ((μ.1 15 3) = 0)) = false := decide_eq_false (cm_ne.mp h19)
              refine z_rcs hc hH 1 (pc' := 61) (lv' := [(4, .int 2), (3, .int ((0 + (nB ee9)) + (nB ee11))), (2, .int 3), (1, .int yy8), (0, .ref 14)]) (st' := [.int 0, .int ((0 + (nB ee9)) + (nB ee11))]) (μ' := μ) (by rfl) ?_
              exact zJ hJ12 rfl (by first | with_reducible rfl | (simp only [h19, lb_f, Int64.or_zero, Int32.add_zero, nB_t, nB_f, Bool.not_true, Bool.not_false, Bool.and_true, Bool.true_and, Bool.false_and, Bool.and_false, Bool.or_true, Bool.true_or, Bool.false_or, Bool.or_false, cond_true, cond_false]; done) | rfl) rfl
            · have h19 : (decide ((μ.1 15 3) = 0)) = true := decide_eq_true (cn_ne.mp h19)
              refine z_rcs hc hH 3 (pc' := 36) (lv' := [(4, .int 2), (3, .int ((0 + (nB ee9)) + (nB ee11))), (2, .int 3), (1, .int yy8), (0, .ref 14)]) (st' := [.int 2, .ref 15, .int ((0 + (nB ee9)) + (nB ee11))]) (μ' := μ) (by rfl) ?_
              refine zq_iald hc hH (by rfl) 4 (by decide +kernel) (show vp_in (nI 2) 4 from vp_in_nI (by decide) (by decide)) ?_
              show Z 0 37 [(4, .int 2), (3, .int ((0 + (nB ee9)) + (nB ee11))), (2, .int 3), (1, .int yy8), (0, .ref 14)] [.int (μ.1 15 2), .int ((0 + (nB ee9)) + (nB ee11))] μ
              refine zq_if hc hH (by rfl) (tg := 60) (by rfl) (fun h20 => ?_) (fun h20 => ?_)
              · have h20 : (decide ((μ.1 15 2) = 0)) = false := decide_eq_false (cm_ne.mp h20)
                refine z_rcs hc hH 1 (pc' := 61) (lv' := [(4, .int 2), (3, .int ((0 + (nB ee9)) + (nB ee11))), (2, .int 3), (1, .int yy8), (0, .ref 14)]) (st' := [.int 0, .int ((0 + (nB ee9)) + (nB ee11))]) (μ' := μ) (by rfl) ?_
                exact zJ hJ12 rfl (by first | with_reducible rfl | (simp only [h19, h20, lb_f, Int64.or_zero, Int32.add_zero, nB_t, nB_f, Bool.not_true, Bool.not_false, Bool.and_true, Bool.true_and, Bool.false_and, Bool.and_false, Bool.or_true, Bool.true_or, Bool.false_or, Bool.or_false, cond_true, cond_false]; done) | rfl) rfl
              · have h20 : (decide ((μ.1 15 2) = 0)) = true := decide_eq_true (cn_ne.mp h20)
                refine z_rcs hc hH 3 (pc' := 45) (lv' := [(4, .int 2), (3, .int ((0 + (nB ee9)) + (nB ee11))), (2, .int 3), (1, .int yy8), (0, .ref 14)]) (st' := [.int 3, .ref 16, .int ((0 + (nB ee9)) + (nB ee11))]) (μ' := μ) (by rfl) ?_
                refine zq_iald hc hH (by rfl) 4 (by decide +kernel) (show vp_in (nI 3) 4 from vp_in_nI (by decide) (by decide)) ?_
                show Z 0 46 [(4, .int 2), (3, .int ((0 + (nB ee9)) + (nB ee11))), (2, .int 3), (1, .int yy8), (0, .ref 14)] [.int (μ.1 16 3), .int ((0 + (nB ee9)) + (nB ee11))] μ
                refine z_rcs hc hH 3 (pc' := 52) (lv' := [(4, .int 2), (3, .int ((0 + (nB ee9)) + (nB ee11))), (2, .int 3), (1, .int yy8), (0, .ref 14)]) (st' := [.int 2, .ref 16, .int (μ.1 16 3), .int ((0 + (nB ee9)) + (nB ee11))]) (μ' := μ) (by rfl) ?_
                refine zq_iald hc hH (by rfl) 4 (by decide +kernel) (show vp_in (nI 2) 4 from vp_in_nI (by decide) (by decide)) ?_
                show Z 0 53 [(4, .int 2), (3, .int ((0 + (nB ee9)) + (nB ee11))), (2, .int 3), (1, .int yy8), (0, .ref 14)] [.int (μ.1 16 2), .int (μ.1 16 3), .int ((0 + (nB ee9)) + (nB ee11))] μ
                refine zq_ic hc hH (by rfl) (tg := 60) (by rfl) (fun h21 => ?_) (fun h21 => ?_)
                · have h21 : (decide ((μ.1 16 3) = (μ.1 16 2))) = false := decide_eq_false (cm_ne.mp h21)
                  refine z_rcs hc hH 1 (pc' := 61) (lv' := [(4, .int 2), (3, .int ((0 + (nB ee9)) + (nB ee11))), (2, .int 3), (1, .int yy8), (0, .ref 14)]) (st' := [.int 0, .int ((0 + (nB ee9)) + (nB ee11))]) (μ' := μ) (by rfl) ?_
                  exact zJ hJ12 rfl (by first | with_reducible rfl | (simp only [h19, h20, h21, lb_f, Int64.or_zero, Int32.add_zero, nB_t, nB_f, Bool.not_true, Bool.not_false, Bool.and_true, Bool.true_and, Bool.false_and, Bool.and_false, Bool.or_true, Bool.true_or, Bool.false_or, Bool.or_false, cond_true, cond_false]; done) | rfl) rfl
                · have h21 : (decide ((μ.1 16 3) = (μ.1 16 2))) = true := decide_eq_true (cn_ne.mp h21)
                  refine z_rcs hc hH 2 (pc' := 61) (lv' := [(4, .int 2), (3, .int ((0 + (nB ee9)) + (nB ee11))), (2, .int 3), (1, .int yy8), (0, .ref 14)]) (st' := [.int 1, .int ((0 + (nB ee9)) + (nB ee11))]) (μ' := μ) (by rfl) ?_
                  exact zJ hJ12 rfl (by first | with_reducible rfl | (simp only [h19, h20, h21, lb_f, Int64.or_zero, Int32.add_zero, nB_t, nB_f, Bool.not_true, Bool.not_false, Bool.and_true, Bool.true_and, Bool.false_and, Bool.and_false, Bool.or_true, Bool.true_or, Bool.false_or, Bool.or_false, cond_true, cond_false]; done) | rfl) rfl
          refine zq_if hc hH (by rfl) (tg := 60) (by rfl) (fun h22 => ?_) (fun h22 => ?_)
          · have h22 : (decide ((μ.1 15 3) = 0)) = false := decide_eq_false (cm_ne.mp h22)
            refine z_rcs hc hH 1 (pc' := 61) (lv' := [(4, .int 1), (3, .int (0 + (nB ee9))), (2, .int 3), (1, .int yy8), (0, .ref 14)]) (st' := [.int 0, .int (0 + (nB ee9))]) (μ' := μ) (by rfl) ?_
            exact zJ hJ10 rfl (by first | with_reducible rfl | (simp only [h22, lb_f, Int64.or_zero, Int32.add_zero, nB_t, nB_f, Bool.not_true, Bool.not_false, Bool.and_true, Bool.true_and, Bool.false_and, Bool.and_false, Bool.or_true, Bool.true_or, Bool.false_or, Bool.or_false, cond_true, cond_false]; done) | rfl) rfl
          · have h22 : (decide ((μ.1 15 3) = 0)) = true := decide_eq_true (cn_ne.mp h22)
            refine z_rcs hc hH 3 (pc' := 36) (lv' := [(4, .int 1), (3, .int (0 + (nB ee9))), (2, .int 3), (1, .int yy8), (0, .ref 14)]) (st' := [.int 1, .ref 15, .int (0 + (nB ee9))]) (μ' := μ) (by rfl) ?_
            refine zq_iald hc hH (by rfl) 4 (by decide +kernel) (show vp_in (nI 1) 4 from vp_in_nI (by decide) (by decide)) ?_
            show Z 0 37 [(4, .int 1), (3, .int (0 + (nB ee9))), (2, .int 3), (1, .int yy8), (0, .ref 14)] [.int (μ.1 15 1), .int (0 + (nB ee9))] μ
            refine zq_if hc hH (by rfl) (tg := 60) (by rfl) (fun h23 => ?_) (fun h23 => ?_)
            · have h23 : (decide ((μ.1 15 1) = 0)) = false := decide_eq_false (cm_ne.mp h23)
              refine z_rcs hc hH 1 (pc' := 61) (lv' := [(4, .int 1), (3, .int (0 + (nB ee9))), (2, .int 3), (1, .int yy8), (0, .ref 14)]) (st' := [.int 0, .int (0 + (nB ee9))]) (μ' := μ) (by rfl) ?_
              exact zJ hJ10 rfl (by first | with_reducible rfl | (simp only [h22, h23, lb_f, Int64.or_zero, Int32.add_zero, nB_t, nB_f, Bool.not_true, Bool.not_false, Bool.and_true, Bool.true_and, Bool.false_and, Bool.and_false, Bool.or_true, Bool.true_or, Bool.false_or, Bool.or_false, cond_true, cond_false]; done) | rfl) rfl
            · have h23 : (decide ((μ.1 15 1) = 0)) = true := decide_eq_true (cn_ne.mp h23)
              refine z_rcs hc hH 3 (pc' := 45) (lv' := [(4, .int 1), (3, .int (0 + (nB ee9))), (2, .int 3), (1, .int yy8), (0, .ref 14)]) (st' := [.int 3, .ref 16, .int (0 + (nB ee9))]) (μ' := μ) (by rfl) ?_
              refine zq_iald hc hH (by rfl) 4 (by decide +kernel) (show vp_in (nI 3) 4 from vp_in_nI (by decide) (by decide)) ?_
              show Z 0 46 [(4, .int 1), (3, .int (0 + (nB ee9))), (2, .int 3), (1, .int yy8), (0, .ref 14)] [.int (μ.1 16 3), .int (0 + (nB ee9))] μ
              refine z_rcs hc hH 3 (pc' := 52) (lv' := [(4, .int 1), (3, .int (0 + (nB ee9))), (2, .int 3), (1, .int yy8), (0, .ref 14)]) (st' := [.int 1, .ref 16, .int (μ.1 16 3), .int (0 + (nB ee9))]) (μ' := μ) (by rfl) ?_
              refine zq_iald hc hH (by rfl) 4 (by decide +kernel) (show vp_in (nI 1) 4 from vp_in_nI (by decide) (by decide)) ?_
              show Z 0 53 [(4, .int 1), (3, .int (0 + (nB ee9))), (2, .int 3), (1, .int yy8), (0, .ref 14)] [.int (μ.1 16 1), .int (μ.1 16 3), .int (0 + (nB ee9))] μ
              refine zq_ic hc hH (by rfl) (tg := 60) (by rfl) (fun h24 => ?_) (fun h24 => ?_)
              · have h24 : (decide ((μ.1 16 3) = (μ.1 16 1))) = false := decide_eq_false (cm_ne.mp h24)
                refine z_rcs hc hH 1 (pc' := 61) (lv' := [(4, .int 1), (3, .int (0 + (nB ee9))), (2, .int 3), (1, .int yy8), (0, .ref 14)]) (st' := [.int 0, .int (0 + (nB ee9))]) (μ' := μ) (by rfl) ?_
                exact zJ hJ10 rfl (by first | with_reducible rfl | (simp only [h22, h23, h24, lb_f, Int64.or_zero, Int32.add_zero, nB_t, nB_f, Bool.not_true, Bool.not_false, Bool.and_true, Bool.true_and, Bool.false_and, Bool.and_false, Bool.or_true, Bool.true_or, Bool.false_or, Bool.or_false, cond_true, cond_false]; done) | rfl) rfl
              · have h24 : (decide ((μ.1 16 3) = (μ.1 16 1))) = true := decide_eq_true (cn_ne.mp h24)
                refine z_rcs hc hH 2 (pc' := 61) (lv' := [(4, .int 1), (3, .int (0 + (nB ee9))), (2, .int 3), (1, .int yy8), (0, .ref 14)]) (st' := [.int 1, .int (0 + (nB ee9))]) (μ' := μ) (by rfl) ?_
                exact zJ hJ10 rfl (by first | with_reducible rfl | (simp only [h22, h23, h24, lb_f, Int64.or_zero, Int32.add_zero, nB_t, nB_f, Bool.not_true, Bool.not_false, Bool.and_true, Bool.true_and, Bool.false_and, Bool.and_false, Bool.or_true, Bool.true_or, Bool.false_or, Bool.or_false, cond_true, cond_false]; done) | rfl) rfl
        refine zq_if hc hH (by rfl) (tg := 60) (by rfl) (fun h25 => ?_) (fun h25 => ?_)
        · have h25 : (decide ((μ.1 15 3) = 0)) = false := decide_eq_false (cm_ne.mp h25)
          refine z_rcs hc hH 1 (pc' := 61) (lv' := [(4, .int 0), (3, .int 0), (2, .int 3), (1, .int ((0 + ((0 + (nB ee2)) - (0 + (nB ee2)) / 2 * 2)) + (((0 + (nB ee4)) + (nB ee6)) - ((0 + (nB ee4)) + (nB ee6)) / 2 * 2))), (0, .ref 14)]) (st' := [.int 0, .int 0]) (μ' := μ) (by rfl) ?_
          exact zJ hJ7 rfl (by first | with_reducible rfl | (simp only [h25, lb_f, Int64.or_zero, Int32.add_zero, nB_t, nB_f, Bool.not_true, Bool.not_false, Bool.and_true, Bool.true_and, Bool.false_and, Bool.and_false, Bool.or_true, Bool.true_or, Bool.false_or, Bool.or_false, cond_true, cond_false]; done) | rfl) rfl
        · have h25 : (decide ((μ.1 15 3) = 0)) = true := decide_eq_true (cn_ne.mp h25)
          refine z_rcs hc hH 3 (pc' := 36) (lv' := [(4, .int 0), (3, .int 0), (2, .int 3), (1, .int ((0 + ((0 + (nB ee2)) - (0 + (nB ee2)) / 2 * 2)) + (((0 + (nB ee4)) + (nB ee6)) - ((0 + (nB ee4)) + (nB ee6)) / 2 * 2))), (0, .ref 14)]) (st' := [.int 0, .ref 15, .int 0]) (μ' := μ) (by rfl) ?_
          refine zq_iald hc hH (by rfl) 4 (by decide +kernel) (show vp_in (nI 0) 4 from vp_in_nI (by decide) (by decide)) ?_
          show Z 0 37 [(4, .int 0), (3, .int 0), (2, .int 3), (1, .int ((0 + ((0 + (nB ee2)) - (0 + (nB ee2)) / 2 * 2)) + (((0 + (nB ee4)) + (nB ee6)) - ((0 + (nB ee4)) + (nB ee6)) / 2 * 2))), (0, .ref 14)] [.int (μ.1 15 0), .int 0] μ
          refine zq_if hc hH (by rfl) (tg := 60) (by rfl) (fun h26 => ?_) (fun h26 => ?_)
          · have h26 : (decide ((μ.1 15 0) = 0)) = false := decide_eq_false (cm_ne.mp h26)
            refine z_rcs hc hH 1 (pc' := 61) (lv' := [(4, .int 0), (3, .int 0), (2, .int 3), (1, .int ((0 + ((0 + (nB ee2)) - (0 + (nB ee2)) / 2 * 2)) + (((0 + (nB ee4)) + (nB ee6)) - ((0 + (nB ee4)) + (nB ee6)) / 2 * 2))), (0, .ref 14)]) (st' := [.int 0, .int 0]) (μ' := μ) (by rfl) ?_
            exact zJ hJ7 rfl (by first | with_reducible rfl | (simp only [h25, h26, lb_f, Int64.or_zero, Int32.add_zero, nB_t, nB_f, Bool.not_true, Bool.not_false, Bool.and_true, Bool.true_and, Bool.false_and, Bool.and_false, Bool.or_true, Bool.true_or, Bool.false_or, Bool.or_false, cond_true, cond_false]; done) | rfl) rfl
          · have h26 : (decide ((μ.1 15 0) = 0)) = true := decide_eq_true (cn_ne.mp h26)
            refine z_rcs hc hH 3 (pc' := 45) (lv' := [(4, .int 0), (3, .int 0), (2, .int 3), (1, .int ((0 + ((0 + (nB ee2)) - (0 + (nB ee2)) / 2 * 2)) + (((0 + (nB ee4)) + (nB ee6)) - ((0 + (nB ee4)) + (nB ee6)) / 2 * 2))), (0, .ref 14)]) (st' := [.int 3, .ref 16, .int 0]) (μ' := μ) (by rfl) ?_
            refine zq_iald hc hH (by rfl) 4 (by decide +kernel) (show vp_in (nI 3) 4 from vp_in_nI (by decide) (by decide)) ?_
            show Z 0 46 [(4, .int 0), (3, .int 0), (2, .int 3), (1, .int ((0 + ((0 + (nB ee2)) - (0 + (nB ee2)) / 2 * 2)) + (((0 + (nB ee4)) + (nB ee6)) - ((0 + (nB ee4)) + (nB ee6)) / 2 * 2))), (0, .ref 14)] [.int (μ.1 16 3), .int 0] μ
            refine z_rcs hc hH 3 (pc' := 52) (lv' := [(4, .int 0), (3, .int 0), (2, .int 3), (1, .int ((0 + ((0 + (nB ee2)) - (0 + (nB ee2)) / 2 * 2)) + (((0 + (nB ee4)) + (nB ee6)) - ((0 + (nB ee4)) + (nB ee6)) / 2 * 2))), (0, .ref 14)]) (st' := [.int 0, .ref 16, .int (μ.1 16 3), .int 0]) (μ' := μ) (by rfl) ?_
            refine zq_iald hc hH (by rfl) 4 (by decide +kernel) (show vp_in (nI 0) 4 from vp_in_nI (by decide) (by decide)) ?_
            show Z 0 53 [(4, .int 0), (3, .int 0), (2, .int 3), (1, .int ((0 + ((0 + (nB ee2)) - (0 + (nB ee2)) / 2 * 2)) + (((0 + (nB ee4)) + (nB ee6)) - ((0 + (nB ee4)) + (nB ee6)) / 2 * 2))), (0, .ref 14)] [.int (μ.1 16 0), .int (μ.1 16 3), .int 0] μ
            refine zq_ic hc hH (by rfl) (tg := 60) (by rfl) (fun h27 => ?_) (fun h27 => ?_)
            · have h27 : (decide ((μ.1 16 3) = (μ.1 16 0))) = false := decide_eq_false (cm_ne.mp h27)
              refine z_rcs hc hH 1 (pc' := 61) (lv' := [(4, .int 0), (3, .int 0), (2, .int 3), (1, .int ((0 + ((0 + (nB ee2)) - (0 + (nB ee2)) / 2 * 2)) + (((0 + (nB ee4)) + (nB ee6)) - ((0 + (nB ee4)) + (nB ee6)) / 2 * 2))), (0, .ref 14)]) (st' := [.int 0, .int 0]) (μ' := μ) (by rfl) ?_
              exact zJ hJ7 rfl (by first | with_reducible rfl | (simp only [h25, h26, h27, lb_f, Int64.or_zero, Int32.add_zero, nB_t, nB_f, Bool.not_true, Bool.not_false, Bool.and_true, Bool.true_and, Bool.false_and, Bool.and_false, Bool.or_true, Bool.true_or, Bool.false_or, Bool.or_false, cond_true, cond_false]; done) | rfl) rfl
            · have h27 : (decide ((μ.1 16 3) = (μ.1 16 0))) = true := decide_eq_true (cn_ne.mp h27)
              refine z_rcs hc hH 2 (pc' := 61) (lv' := [(4, .int 0), (3, .int 0), (2, .int 3), (1, .int ((0 + ((0 + (nB ee2)) - (0 + (nB ee2)) / 2 * 2)) + (((0 + (nB ee4)) + (nB ee6)) - ((0 + (nB ee4)) + (nB ee6)) / 2 * 2))), (0, .ref 14)]) (st' := [.int 1, .int 0]) (μ' := μ) (by rfl) ?_
              exact zJ hJ7 rfl (by first | with_reducible rfl | (simp only [h25, h26, h27, lb_f, Int64.or_zero, Int32.add_zero, nB_t, nB_f, Bool.not_true, Bool.not_false, Bool.and_true, Bool.true_and, Bool.false_and, Bool.and_false, Bool.or_true, Bool.true_or, Bool.false_or, Bool.or_false, cond_true, cond_false]; done) | rfl) rfl
      refine zq_if hc hH (by rfl) (tg := 60) (by rfl) (fun h28 => ?_) (fun h28 => ?_)
      · have h28 : (decide ((μ.1 15 2) = 0)) = false := decide_eq_false (cm_ne.mp h28)
        refine z_rcs hc hH 1 (pc' := 61) (lv' := [(4, .int 1), (3, .int (0 + (nB ee4))), (2, .int 2), (1, .int (0 + ((0 + (nB ee2)) - (0 + (nB ee2)) / 2 * 2))), (0, .ref 14)]) (st' := [.int 0, .int (0 + (nB ee4))]) (μ' := μ) (by rfl) ?_
        exact zJ hJ5 rfl (by first | with_reducible rfl | (simp only [h28, lb_f, Int64.or_zero, Int32.add_zero, nB_t, nB_f, Bool.not_true, Bool.not_false, Bool.and_true, Bool.true_and, Bool.false_and, Bool.and_false, Bool.or_true, Bool.true_or, Bool.false_or, Bool.or_false, cond_true, cond_false]; done) | rfl) rfl
      · have h28 : (decide ((μ.1 15 2) = 0)) = true := decide_eq_true (cn_ne.mp h28)
        refine z_rcs hc hH 3 (pc' := 36) (lv' := [(4, .int 1), (3, .int (0 + (nB ee4))), (2, .int 2), (1, .int (0 + ((0 + (nB ee2)) - (0 + (nB ee2)) / 2 * 2))), (0, .ref 14)]) (st' := [.int 1, .ref 15, .int (0 + (nB ee4))]) (μ' := μ) (by rfl) ?_
        refine zq_iald hc hH (by rfl) 4 (by decide +kernel) (show vp_in (nI 1) 4 from vp_in_nI (by decide) (by decide)) ?_
        show Z 0 37 [(4, .int 1), (3, .int (0 + (nB ee4))), (2, .int 2), (1, .int (0 + ((0 + (nB ee2)) - (0 + (nB ee2)) / 2 * 2))), (0, .ref 14)] [.int (μ.1 15 1), .int (0 + (nB ee4))] μ
        refine zq_if hc hH (by rfl) (tg := 60) (by rfl) (fun h29 => ?_) (fun h29 => ?_)
        · have h29 : (decide ((μ.1 15 1) = 0)) = false := decide_eq_false (cm_ne.mp h29)
          refine z_rcs hc hH 1 (pc' := 61) (lv' := [(4, .int 1), (3, .int (0 + (nB ee4))), (2, .int 2), (1, .int (0 + ((0 + (nB ee2)) - (0 + (nB ee2)) / 2 * 2))), (0, .ref 14)]) (st' := [.int 0, .int (0 + (nB ee4))]) (μ' := μ) (by rfl) ?_
          exact zJ hJ5 rfl (by first | with_reducible rfl | (simp only [h28, h29, lb_f, Int64.or_zero, Int32.add_zero, nB_t, nB_f, Bool.not_true, Bool.not_false, Bool.and_true, Bool.true_and, Bool.false_and, Bool.and_false, Bool.or_true, Bool.true_or, Bool.false_or, Bool.or_false, cond_true, cond_false]; done) | rfl) rfl
        · have h29 : (decide ((μ.1 15 1) = 0)) = true := decide_eq_true (cn_ne.mp h29)
          refine z_rcs hc hH 3 (pc' := 45) (lv' := [(4, .int 1), (3, .int (0 + (nB ee4))), (2, .int 2), (1, .int (0 + ((0 + (nB ee2)) - (0 + (nB ee2)) / 2 * 2))), (0, .ref 14)]) (st' := [.int 2, .ref 16, .int (0 + (nB ee4))]) (μ' := μ) (by rfl) ?_
          refine zq_iald hc hH (by rfl) 4 (by decide +kernel) (show vp_in (nI 2) 4 from vp_in_nI (by decide) (by decide)) ?_
          show Z 0 46 [(4, .int 1), (3, .int (0 + (nB ee4))), (2, .int 2), (1, .int (0 + ((0 + (nB ee2)) - (0 + (nB ee2)) / 2 * 2))), (0, .ref 14)] [.int (μ.1 16 2), .int (0 + (nB ee4))] μ
          refine z_rcs hc hH 3 (pc' := 52) (lv' := [(4, .int 1), (3, .int (0 + (nB ee4))), (2, .int 2), (1, .int (0 + ((0 + (nB ee2)) - (0 + (nB ee2)) / 2 * 2))), (0, .ref 14)]) (st' := [.int 1, .ref 16, .int (μ.1 16 2), .int (0 + (nB ee4))]) (μ' := μ) (by rfl) ?_
          refine zq_iald hc hH (by rfl) 4 (by decide +kernel) (show vp_in (nI 1) 4 from vp_in_nI (by decide) (by decide)) ?_
          show Z 0 53 [(4, .int 1), (3, .int (0 + (nB ee4))), (2, .int 2), (1, .int (0 + ((0 + (nB ee2)) - (0 + (nB ee2)) / 2 * 2))), (0, .ref 14)] [.int (μ.1 16 1), .int (μ.1 16 2), .int (0 + (nB ee4))] μ
          refine zq_ic hc hH (by rfl) (tg := 60) (by rfl) (fun h30 => ?_) (fun h30 => ?_)
          · have h30 : (decide ((μ.1 16 2) = (μ.1 16 1))) = false := decide_eq_false (cm_ne.mp h30)
            refine z_rcs hc hH 1 (pc' := 61) (lv' := [(4, .int 1), (3, .int (0 + (nB ee4))), (2, .int 2), (1, .int (0 + ((0 + (nB ee2)) - (0 + (nB ee2)) / 2 * 2))), (0, .ref 14)]) (st' := [.int 0, .int (0 + (nB ee4))]) (μ' := μ) (by rfl) ?_
            exact zJ hJ5 rfl (by first | with_reducible rfl | (simp only [h28, h29, h30, lb_f, Int64.or_zero, Int32.add_zero, nB_t, nB_f, Bool.not_true, Bool.not_false, Bool.and_true, Bool.true_and, Bool.false_and, Bool.and_false, Bool.or_true, Bool.true_or, Bool.false_or, Bool.or_false, cond_true, cond_false]; done) | rfl) rfl
          · have h30 : (decide ((μ.1 16 2) = (μ.1 16 1))) = true := decide_eq_true (cn_ne.mp h30)
            refine z_rcs hc hH 2 (pc' := 61) (lv' := [(4, .int 1), (3, .int (0 + (nB ee4))), (2, .int 2), (1, .int (0 + ((0 + (nB ee2)) - (0 + (nB ee2)) / 2 * 2))), (0, .ref 14)]) (st' := [.int 1, .int (0 + (nB ee4))]) (μ' := μ) (by rfl) ?_
            exact zJ hJ5 rfl (by first | with_reducible rfl | (simp only [h28, h29, h30, lb_f, Int64.or_zero, Int32.add_zero, nB_t, nB_f, Bool.not_true, Bool.not_false, Bool.and_true, Bool.true_and, Bool.false_and, Bool.and_false, Bool.or_true, Bool.true_or, Bool.false_or, Bool.or_false, cond_true, cond_false]; done) | rfl) rfl
    refine zq_if hc hH (by rfl) (tg := 60) (by rfl) (fun h31 => ?_) (fun h31 => ?_)
    · have h31 : (decide ((μ.1 15 2) = 0)) = false := decide_eq_false (cm_ne.mp h31)
      refine z_rcs hc hH 1 (pc' := 61) (lv' := [(4, .int 0), (3, .int 0), (2, .int 2), (1, .int (0 + ((0 + (nB ee2)) - (0 + (nB ee2)) / 2 * 2))), (0, .ref 14)]) (st' := [.int 0, .int 0]) (μ' := μ) (by rfl) ?_
      exact zJ hJ3 rfl (by first | with_reducible rfl | (simp only [h31, lb_f, Int64.or_zero, Int32.add_zero, nB_t, nB_f, Bool.not_true, Bool.not_false, Bool.and_true, Bool.true_and, Bool.false_and, Bool.and_false, Bool.or_true, Bool.true_or, Bool.false_or, Bool.or_false, cond_true, cond_false]; done) | rfl) rfl
    · have h31 : (decide ((μ.1 15 2) = 0)) = true := decide_eq_true (cn_ne.mp h31)
      refine z_rcs hc hH 3 (pc' := 36) (lv' := [(4, .int 0), (3, .int 0), (2, .int 2), (1, .int (0 + ((0 + (nB ee2)) - (0 + (nB ee2)) / 2 * 2))), (0, .ref 14)]) (st' := [.int 0, .ref 15, .int 0]) (μ' := μ) (by rfl) ?_
      refine zq_iald hc hH (by rfl) 4 (by decide +kernel) (show vp_in (nI 0) 4 from vp_in_nI (by decide) (by decide)) ?_
      show Z 0 37 [(4, .int 0), (3, .int 0), (2, .int 2), (1, .int (0 + ((0 + (nB ee2)) - (0 + (nB ee2)) / 2 * 2))), (0, .ref 14)] [.int (μ.1 15 0), .int 0] μ
      refine zq_if hc hH (by rfl) (tg := 60) (by rfl) (fun h32 => ?_) (fun h32 => ?_)
      · have h32 : (decide ((μ.1 15 0) = 0)) = false := decide_eq_false (cm_ne.mp h32)
        refine z_rcs hc hH 1 (pc' := 61) (lv' := [(4, .int 0), (3, .int 0), (2, .int 2), (1, .int (0 + ((0 + (nB ee2)) - (0 + (nB ee2)) / 2 * 2))), (0, .ref 14)]) (st' := [.int 0, .int 0]) (μ' := μ) (by rfl) ?_
        exact zJ hJ3 rfl (by first | with_reducible rfl | (simp only [h31, h32, lb_f, Int64.or_zero, Int32.add_zero, nB_t, nB_f, Bool.not_true, Bool.not_false, Bool.and_true, Bool.true_and, Bool.false_and, Bool.and_false, Bool.or_true, Bool.true_or, Bool.false_or, Bool.or_false, cond_true, cond_false]; done) | rfl) rfl
      · have h32 : (decide ((μ.1 15 0) = 0)) = true := decide_eq_true (cn_ne.mp h32)
        refine z_rcs hc hH 3 (pc' := 45) (lv' := [(4, .int 0), (3, .int 0), (2, .int 2), (1, .int (0 + ((0 + (nB ee2)) - (0 + (nB ee2)) / 2 * 2))), (0, .ref 14)]) (st' := [.int 2, .ref 16, .int 0]) (μ' := μ) (by rfl) ?_
        refine zq_iald hc hH (by rfl) 4 (by decide +kernel) (show vp_in (nI 2) 4 from vp_in_nI (by decide) (by decide)) ?_
        show Z 0 46 [(4, .int 0), (3, .int 0), (2, .int 2), (1, .int (0 + ((0 + (nB ee2)) - (0 + (nB ee2)) / 2 * 2))), (0, .ref 14)] [.int (μ.1 16 2), .int 0] μ
        refine z_rcs hc hH 3 (pc' := 52) (lv' := [(4, .int 0), (3, .int 0), (2, .int 2), (1, .int (0 + ((0 + (nB ee2)) - (0 + (nB ee2)) / 2 * 2))), (0, .ref 14)]) (st' := [.int 0, .ref 16, .int (μ.1 16 2), .int 0]) (μ' := μ) (by rfl) ?_
        refine zq_iald hc hH (by rfl) 4 (by decide +kernel) (show vp_in (nI 0) 4 from vp_in_nI (by decide) (by decide)) ?_
        show Z 0 53 [(4, .int 0), (3, .int 0), (2, .int 2), (1, .int (0 + ((0 + (nB ee2)) - (0 + (nB ee2)) / 2 * 2))), (0, .ref 14)] [.int (μ.1 16 0), .int (μ.1 16 2), .int 0] μ
        refine zq_ic hc hH (by rfl) (tg := 60) (by rfl) (fun h33 => ?_) (fun h33 => ?_)
        · have h33 : (decide ((μ.1 16 2) = (μ.1 16 0))) = false := decide_eq_false (cm_ne.mp h33)
          refine z_rcs hc hH 1 (pc' := 61) (lv' := [(4, .int 0), (3, .int 0), (2, .int 2), (1, .int (0 + ((0 + (nB ee2)) - (0 + (nB ee2)) / 2 * 2))), (0, .ref 14)]) (st' := [.int 0, .int 0]) (μ' := μ) (by rfl) ?_
          exact zJ hJ3 rfl (by first | with_reducible rfl | (simp only [h31, h32, h33, lb_f, Int64.or_zero, Int32.add_zero, nB_t, nB_f, Bool.not_true, Bool.not_false, Bool.and_true, Bool.true_and, Bool.false_and, Bool.and_false, Bool.or_true, Bool.true_or, Bool.false_or, Bool.or_false, cond_true, cond_false]; done) | rfl) rfl
        · have h33 : (decide ((μ.1 16 2) = (μ.1 16 0))) = true := decide_eq_true (cn_ne.mp h33)
          refine z_rcs hc hH 2 (pc' := 61) (lv' := [(4, .int 0), (3, .int 0), (2, .int 2), (1, .int (0 + ((0 + (nB ee2)) - (0 + (nB ee2)) / 2 * 2))), (0, .ref 14)]) (st' := [.int 1, .int 0]) (μ' := μ) (by rfl) ?_
          exact zJ hJ3 rfl (by first | with_reducible rfl | (simp only [h31, h32, h33, lb_f, Int64.or_zero, Int32.add_zero, nB_t, nB_f, Bool.not_true, Bool.not_false, Bool.and_true, Bool.true_and, Bool.false_and, Bool.and_false, Bool.or_true, Bool.true_or, Bool.false_or, Bool.or_false, cond_true, cond_false]; done) | rfl) rfl
  refine zq_if hc hH (by rfl) (tg := 60) (by rfl) (fun h34 => ?_) (fun h34 => ?_)
  · have h34 : (decide ((μ.1 15 1) = 0)) = false := decide_eq_false (cm_ne.mp h34)
    refine z_rcs hc hH 1 (pc' := 61) (lv' := [(4, .int 0), (3, .int 0), (2, .int 1), (1, .int 0), (0, .ref 14)]) (st' := [.int 0, .int 0]) (μ' := μ) (by rfl) ?_
    exact zJ hJ1 rfl (by first | with_reducible rfl | (simp only [h34, lb_f, Int64.or_zero, Int32.add_zero, nB_t, nB_f, Bool.not_true, Bool.not_false, Bool.and_true, Bool.true_and, Bool.false_and, Bool.and_false, Bool.or_true, Bool.true_or, Bool.false_or, Bool.or_false, cond_true, cond_false]; done) | rfl) rfl
  · have h34 : (decide ((μ.1 15 1) = 0)) = true := decide_eq_true (cn_ne.mp h34)
    refine z_rcs hc hH 3 (pc' := 36) (lv' := [(4, .int 0), (3, .int 0), (2, .int 1), (1, .int 0), (0, .ref 14)]) (st' := [.int 0, .ref 15, .int 0]) (μ' := μ) (by rfl) ?_
    refine zq_iald hc hH (by rfl) 4 (by decide +kernel) (show vp_in (nI 0) 4 from vp_in_nI (by decide) (by decide)) ?_
    show Z 0 37 [(4, .int 0), (3, .int 0), (2, .int 1), (1, .int 0), (0, .ref 14)] [.int (μ.1 15 0), .int 0] μ
    refine zq_if hc hH (by rfl) (tg := 60) (by rfl) (fun h35 => ?_) (fun h35 => ?_)
    · have h35 : (decide ((μ.1 15 0) = 0)) = false := decide_eq_false (cm_ne.mp h35)
      refine z_rcs hc hH 1 (pc' := 61) (lv' := [(4, .int 0), (3, .int 0), (2, .int 1), (1, .int 0), (0, .ref 14)]) (st' := [.int 0, .int 0]) (μ' := μ) (by rfl) ?_
      exact zJ hJ1 rfl (by first | with_reducible rfl | (simp only [h34, h35, lb_f, Int64.or_zero, Int32.add_zero, nB_t, nB_f, Bool.not_true, Bool.not_false, Bool.and_true, Bool.true_and, Bool.false_and, Bool.and_false, Bool.or_true, Bool.true_or, Bool.false_or, Bool.or_false, cond_true, cond_false]; done) | rfl) rfl
    · have h35 : (decide ((μ.1 15 0) = 0)) = true := decide_eq_true (cn_ne.mp h35)
      refine z_rcs hc hH 3 (pc' := 45) (lv' := [(4, .int 0), (3, .int 0), (2, .int 1), (1, .int 0), (0, .ref 14)]) (st' := [.int 1, .ref 16, .int 0]) (μ' := μ) (by rfl) ?_
      refine zq_iald hc hH (by rfl) 4 (by decide +kernel) (show vp_in (nI 1) 4 from vp_in_nI (by decide) (by decide)) ?_
      show Z 0 46 [(4, .int 0), (3, .int 0), (2, .int 1), (1, .int 0), (0, .ref 14)] [.int (μ.1 16 1), .int 0] μ
      refine z_rcs hc hH 3 (pc' := 52) (lv' := [(4, .int 0), (3, .int 0), (2, .int 1), (1, .int 0), (0, .ref 14)]) (st' := [.int 0, .ref 16, .int (μ.1 16 1), .int 0]) (μ' := μ) (by rfl) ?_
      refine zq_iald hc hH (by rfl) 4 (by decide +kernel) (show vp_in (nI 0) 4 from vp_in_nI (by decide) (by decide)) ?_
      show Z 0 53 [(4, .int 0), (3, .int 0), (2, .int 1), (1, .int 0), (0, .ref 14)] [.int (μ.1 16 0), .int (μ.1 16 1), .int 0] μ
      refine zq_ic hc hH (by rfl) (tg := 60) (by rfl) (fun h36 => ?_) (fun h36 => ?_)
      · have h36 : (decide ((μ.1 16 1) = (μ.1 16 0))) = false := decide_eq_false (cm_ne.mp h36)
        refine z_rcs hc hH 1 (pc' := 61) (lv' := [(4, .int 0), (3, .int 0), (2, .int 1), (1, .int 0), (0, .ref 14)]) (st' := [.int 0, .int 0]) (μ' := μ) (by rfl) ?_
        exact zJ hJ1 rfl (by first | with_reducible rfl | (simp only [h34, h35, h36, lb_f, Int64.or_zero, Int32.add_zero, nB_t, nB_f, Bool.not_true, Bool.not_false, Bool.and_true, Bool.true_and, Bool.false_and, Bool.and_false, Bool.or_true, Bool.true_or, Bool.false_or, Bool.or_false, cond_true, cond_false]; done) | rfl) rfl
      · have h36 : (decide ((μ.1 16 1) = (μ.1 16 0))) = true := decide_eq_true (cn_ne.mp h36)
        refine z_rcs hc hH 2 (pc' := 61) (lv' := [(4, .int 0), (3, .int 0), (2, .int 1), (1, .int 0), (0, .ref 14)]) (st' := [.int 1, .int 0]) (μ' := μ) (by rfl) ?_
        exact zJ hJ1 rfl (by first | with_reducible rfl | (simp only [h34, h35, h36, lb_f, Int64.or_zero, Int32.add_zero, nB_t, nB_f, Bool.not_true, Bool.not_false, Bool.and_true, Bool.true_and, Bool.false_and, Bool.and_false, Bool.or_true, Bool.true_or, Bool.false_or, Bool.or_false, cond_true, cond_false]; done) | rfl) rfl

/-! has: the reference; leaves of the class -/
set_option maxRecDepth 8000
def xHas (so lo k : Int32) : Bool := bif decide (so = 0) then !(decide (k < lo)) && (!(decide ((lo + 2) < k))) else decide (k = lo)
theorem fb_X7_has (d : Nat) (hd : 1 ≤ d) (μ : zM) (so lo k : Int32) : z_C d mi_X7_has [.int so, .int lo, .int k] μ (zR μ (.int (nB (xHas so lo k)))) := by
  refine z_C_in (by decide) (by omega) (fun d' Z ed hc hr => ?_)
  have hH : zH mi_X7_has zc_X7_has 79 7 3 := ⟨by rfl, by rfl, by rfl, by rfl⟩
  refine z_rcs hc hH 1 (pc' := 1) (lv' := [(0, .int so), (1, .int lo), (2, .int k)]) (st' := [.int so]) (μ' := μ) (by rfl) ?_
  have hJ1 : Z 0 34 [(0, .int so), (1, .int lo), (2, .int k)] [.int (nB (bif decide (so = 0) then !(decide (k < lo)) && (!(decide ((lo + 2) < k))) else decide (k = lo)))] μ := by
    generalize hee2 : (bif decide (so = 0) then !(decide (k < lo)) && (!(decide ((lo + 2) < k))) else decide (k = lo)) = ee2
    exact hr 0 34 _ _ _ (some (.int (nB ee2))) (by decide +kernel) ((fun b : Bool => (by cases b <;> rfl : z_rn mi_X7_has 34 [.int (nB b)] = some (some (.int (nB b))))) ee2) (⟨rfl, (by subst hee2; rfl)⟩)
  refine zq_if hc hH (by rfl) (tg := 24) (by rfl) (fun h3 => ?_) (fun h3 => ?_)
  · have h3 : (decide (so = 0)) = false := decide_eq_false (cm_ne.mp h3)
    refine z_rcs hc hH 2 (pc' := 26) (lv' := [(0, .int so), (1, .int lo), (2, .int k)]) (st' := [.int lo, .int k]) (μ' := μ) (by rfl) ?_
    refine zq_ic hc hH (by rfl) (tg := 33) (by rfl) (fun h4 => ?_) (fun h4 => ?_)
    · have h4 : (decide (k = lo)) = false := decide_eq_false (cm_ne.mp h4)
      refine z_rcs hc hH 1 (pc' := 34) (lv' := [(0, .int so), (1, .int lo), (2, .int k)]) (st' := [.int 0]) (μ' := μ) (by rfl) ?_
      exact zJ hJ1 rfl (by first | rfl | simp only [h3, h4, lb_f, Int64.or_zero, Int32.add_zero, nB_t, nB_f, Bool.not_true, Bool.not_false, Bool.and_true, Bool.true_and, Bool.false_and, Bool.and_false, Bool.or_true, Bool.true_or, Bool.false_or, Bool.or_false, cond_true, cond_false]) rfl
    · have h4 : (decide (k = lo)) = true := decide_eq_true (cn_ne.mp h4)
      refine z_rcs hc hH 2 (pc' := 34) (lv' := [(0, .int so), (1, .int lo), (2, .int k)]) (st' := [.int 1]) (μ' := μ) (by rfl) ?_
      exact zJ hJ1 rfl (by first | rfl | simp only [h3, h4, lb_f, Int64.or_zero, Int32.add_zero, nB_t, nB_f, Bool.not_true, Bool.not_false, Bool.and_true, Bool.true_and, Bool.false_and, Bool.and_false, Bool.or_true, Bool.true_or, Bool.false_or, Bool.or_false, cond_true, cond_false]) rfl
  · have h3 : (decide (so = 0)) = true := decide_eq_true (cn_ne.mp h3)
    refine z_rcs hc hH 2 (pc' := 6) (lv' := [(0, .int so), (1, .int lo), (2, .int k)]) (st' := [.int lo, .int k]) (μ' := μ) (by rfl) ?_
    refine zq_ic hc hH (by rfl) (tg := 20) (by rfl) (fun h5 => ?_) (fun h5 => ?_)
    · have h5 : (decide (k < lo)) = true := decide_eq_true (cm_lt.mp h5)
      refine z_rcs hc hH 2 (pc' := 34) (lv' := [(0, .int so), (1, .int lo), (2, .int k)]) (st' := [.int 0]) (μ' := μ) (by rfl) ?_
      exact zJ hJ1 rfl (by first | rfl | simp only [h3, h5, lb_f, Int64.or_zero, Int32.add_zero, nB_t, nB_f, Bool.not_true, Bool.not_false, Bool.and_true, Bool.true_and, Bool.false_and, Bool.and_false, Bool.or_true, Bool.true_or, Bool.false_or, Bool.or_false, cond_true, cond_false]) rfl
    · have h5 : (decide (k < lo)) = false := decide_eq_false (cn_lt.mp h5)
      refine z_rcs hc hH 4 (pc' := 13) (lv' := [(0, .int so), (1, .int lo), (2, .int k)]) (st' := [.int (lo + 2), .int k]) (μ' := μ) (by rfl) ?_
      refine zq_ic hc hH (by rfl) (tg := 20) (by rfl) (fun h6 => ?_) (fun h6 => ?_)
      · have h6 : (decide ((lo + 2) < k)) = true := decide_eq_true (cm_gt.mp h6)
        refine z_rcs hc hH 2 (pc' := 34) (lv' := [(0, .int so), (1, .int lo), (2, .int k)]) (st' := [.int 0]) (μ' := μ) (by rfl) ?_
        exact zJ hJ1 rfl (by first | rfl | simp only [h3, h5, h6, lb_f, Int64.or_zero, Int32.add_zero, nB_t, nB_f, Bool.not_true, Bool.not_false, Bool.and_true, Bool.true_and, Bool.false_and, Bool.and_false, Bool.or_true, Bool.true_or, Bool.false_or, Bool.or_false, cond_true, cond_false]) rfl
      · have h6 : (decide ((lo + 2) < k)) = false := decide_eq_false (cn_gt.mp h6)
        refine z_rcs hc hH 2 (pc' := 34) (lv' := [(0, .int so), (1, .int lo), (2, .int k)]) (st' := [.int 1]) (μ' := μ) (by rfl) ?_
        exact zJ hJ1 rfl (by first | rfl | simp only [h3, h5, h6, lb_f, Int64.or_zero, Int32.add_zero, nB_t, nB_f, Bool.not_true, Bool.not_false, Bool.and_true, Bool.true_and, Bool.false_and, Bool.and_false, Bool.or_true, Bool.true_or, Bool.false_or, Bool.or_false, cond_true, cond_false]) rfl
theorem fb_X0_baseOf (d : Nat) (hd : 1 ≤ d) (μ : zM) (fu ha : Int32) : z_C d mi_X0_baseOf [.int fu, .int ha] μ (zR μ (.int (bif decide (4 < ha) then bif decide (ha = 5) then (2000 : Int32) else bif decide (7 < ha) then bif decide (10 < ha) then bif decide (12 < ha) then (8000 : Int32) else 6000 else 4000 else 3000 else bif decide (2000 ≤ (fu <<< ((2 + ha) &&& 31))) then (2000 : Int32) else fu <<< ((2 + ha) &&& 31)))) := by
  refine z_C_in (by decide) (by omega) (fun d' Z ed hc hr => ?_)
  have hH : zH mi_X0_baseOf zc_X0_baseOf 79 0 3 := ⟨by rfl, by rfl, by rfl, by rfl⟩
  refine z_rcs hc hH 2 (pc' := 2) (lv' := [(0, .int fu), (1, .int ha)]) (st' := [.int 4, .int ha]) (μ' := μ) (by rfl) ?_
  refine zq_ic hc hH (by rfl) (tg := 26) (by rfl) (fun h1 => ?_) (fun h1 => ?_)
  · have h1 : (decide (4 < ha)) = true := decide_eq_true (cm_gt.mp h1)
    refine z_rcs hc hH 2 (pc' := 28) (lv' := [(0, .int fu), (1, .int ha)]) (st' := [.int 5, .int ha]) (μ' := μ) (by rfl) ?_
    refine zq_ic hc hH (by rfl) (tg := 35) (by rfl) (fun h2 => ?_) (fun h2 => ?_)
    · have h2 : (decide (ha = 5)) = false := decide_eq_false (cm_ne.mp h2)
      refine z_rcs hc hH 2 (pc' := 38) (lv' := [(0, .int fu), (1, .int ha)]) (st' := [.int 7, .int ha]) (μ' := μ) (by rfl) ?_
      refine zq_ic hc hH (by rfl) (tg := 45) (by rfl) (fun h3 => ?_) (fun h3 => ?_)
      · have h3 : (decide (7 < ha)) = true := decide_eq_true (cm_gt.mp h3)
        refine z_rcs hc hH 2 (pc' := 48) (lv' := [(0, .int fu), (1, .int ha)]) (st' := [.int 10, .int ha]) (μ' := μ) (by rfl) ?_
        refine zq_ic hc hH (by rfl) (tg := 55) (by rfl) (fun h4 => ?_) (fun h4 => ?_)
        · have h4 : (decide (10 < ha)) = true := decide_eq_true (cm_gt.mp h4)
          refine z_rcs hc hH 2 (pc' := 58) (lv' := [(0, .int fu), (1, .int ha)]) (st' := [.int 12, .int ha]) (μ' := μ) (by rfl) ?_
          have hJ5 : Z 0 70 [(0, .int fu), (1, .int ha)] [.int (bif decide (12 < ha) then (8000 : Int32) else 6000)] μ := by
            exact hr 0 70 _ _ _ (some (.int (bif decide (12 < ha) then (8000 : Int32) else 6000))) (by decide +kernel) (by rfl) (⟨rfl, (by simp only [h1, h2, h3, h4, lb_f, Int64.or_zero, Int32.add_zero, nB_t, nB_f, Bool.not_true, Bool.not_false, Bool.and_true, Bool.true_and, Bool.false_and, Bool.and_false, Bool.or_true, Bool.true_or, Bool.false_or, Bool.or_false, cond_true, cond_false])⟩)
          refine zq_ic hc hH (by rfl) (tg := 67) (by rfl) (fun h6 => ?_) (fun h6 => ?_)
          · have h6 : (decide (12 < ha)) = true := decide_eq_true (cm_gt.mp h6)
            refine z_rcs hc hH 1 (pc' := 70) (lv' := [(0, .int fu), (1, .int ha)]) (st' := [.int 8000]) (μ' := μ) (by rfl) ?_
            exact zJ hJ5 rfl (by first | rfl | simp only [h6, lb_f, Int64.or_zero, Int32.add_zero, nB_t, nB_f, Bool.not_true, Bool.not_false, Bool.and_true, Bool.true_and, Bool.false_and, Bool.and_false, Bool.or_true, Bool.true_or, Bool.false_or, Bool.or_false, cond_true, cond_false]) rfl
          · have h6 : (decide (12 < ha)) = false := decide_eq_false (cn_gt.mp h6)
            refine z_rcs hc hH 2 (pc' := 70) (lv' := [(0, .int fu), (1, .int ha)]) (st' := [.int 6000]) (μ' := μ) (by rfl) ?_
            exact zJ hJ5 rfl (by first | rfl | simp only [h6, lb_f, Int64.or_zero, Int32.add_zero, nB_t, nB_f, Bool.not_true, Bool.not_false, Bool.and_true, Bool.true_and, Bool.false_and, Bool.and_false, Bool.or_true, Bool.true_or, Bool.false_or, Bool.or_false, cond_true, cond_false]) rfl
        · have h4 : (decide (10 < ha)) = false := decide_eq_false (cn_gt.mp h4)
          refine z_rcs hc hH 1 (pc' := 54) (lv' := [(0, .int fu), (1, .int ha)]) (st' := [.int 4000]) (μ' := μ) (by rfl) ?_
          exact hr 0 54 _ _ _ (some (.int 4000)) (by decide +kernel) (by rfl) (⟨rfl, (by simp only [h1, h2, h3, h4, lb_f, Int64.or_zero, Int32.add_zero, nB_t, nB_f, Bool.not_true, Bool.not_false, Bool.and_true, Bool.true_and, Bool.false_and, Bool.and_false, Bool.or_true, Bool.true_or, Bool.false_or, Bool.or_false, cond_true, cond_false])⟩)
      · have h3 : (decide (7 < ha)) = false := decide_eq_false (cn_gt.mp h3)
        refine z_rcs hc hH 1 (pc' := 44) (lv' := [(0, .int fu), (1, .int ha)]) (st' := [.int 3000]) (μ' := μ) (by rfl) ?_
        exact hr 0 44 _ _ _ (some (.int 3000)) (by decide +kernel) (by rfl) (⟨rfl, (by simp only [h1, h2, h3, lb_f, Int64.or_zero, Int32.add_zero, nB_t, nB_f, Bool.not_true, Bool.not_false, Bool.and_true, Bool.true_and, Bool.false_and, Bool.and_false, Bool.or_true, Bool.true_or, Bool.false_or, Bool.or_false, cond_true, cond_false])⟩)
    · have h2 : (decide (ha = 5)) = true := decide_eq_true (cn_ne.mp h2)
      refine z_rcs hc hH 1 (pc' := 34) (lv' := [(0, .int fu), (1, .int ha)]) (st' := [.int 2000]) (μ' := μ) (by rfl) ?_
      exact hr 0 34 _ _ _ (some (.int 2000)) (by decide +kernel) (by rfl) (⟨rfl, (by simp only [h1, h2, lb_f, Int64.or_zero, Int32.add_zero, nB_t, nB_f, Bool.not_true, Bool.not_false, Bool.and_true, Bool.true_and, Bool.false_and, Bool.and_false, Bool.or_true, Bool.true_or, Bool.false_or, Bool.or_false, cond_true, cond_false])⟩)
  · have h1 : (decide (4 < ha)) = false := decide_eq_false (cn_gt.mp h1)
    refine z_rcs hc hH 8 (pc' := 15) (lv' := [(2, .int (fu <<< ((2 + ha) &&& 31))), (0, .int fu), (1, .int ha)]) (st' := [.int 2000, .int (fu <<< ((2 + ha) &&& 31))]) (μ' := μ) (by rfl) ?_
    have hJ7 : Z 0 25 [(2, .int (fu <<< ((2 + ha) &&& 31))), (0, .int fu), (1, .int ha)] [.int (bif decide (2000 ≤ (fu <<< ((2 + ha) &&& 31))) then (2000 : Int32) else fu <<< ((2 + ha) &&& 31))] μ := by
      generalize hyy8 : (bif decide (2000 ≤ (fu <<< ((2 + ha) &&& 31))) then (2000 : Int32) else fu <<< ((2 + ha) &&& 31) : Int32) = yy8
      exact hr 0 25 _ _ _ (some (.int yy8)) (by decide +kernel) (by rfl) (⟨rfl, (by try rw [hyy8]; simp only [h1, lb_f, Int64.or_zero, Int32.add_zero, nB_t, nB_f, Bool.not_true, Bool.not_false, Bool.and_true, Bool.true_and, Bool.false_and, Bool.and_false, Bool.or_true, Bool.true_or, Bool.false_or, Bool.or_false, cond_true, cond_false])⟩)
    refine zq_ic hc hH (by rfl) (tg := 22) (by rfl) (fun h9 => ?_) (fun h9 => ?_)
    · have h9 : (decide (2000 ≤ (fu <<< ((2 + ha) &&& 31)))) = true := decide_eq_true (cm_ge.mp h9)
      refine z_rcs hc hH 1 (pc' := 25) (lv' := [(2, .int (fu <<< ((2 + ha) &&& 31))), (0, .int fu), (1, .int ha)]) (st' := [.int 2000]) (μ' := μ) (by rfl) ?_
      exact zJ hJ7 rfl (by first | rfl | simp only [h9, lb_f, Int64.or_zero, Int32.add_zero, nB_t, nB_f, Bool.not_true, Bool.not_false, Bool.and_true, Bool.true_and, Bool.false_and, Bool.and_false, Bool.or_true, Bool.true_or, Bool.false_or, Bool.or_false, cond_true, cond_false]) rfl
    · have h9 : (decide (2000 ≤ (fu <<< ((2 + ha) &&& 31)))) = false := decide_eq_false (cn_ge.mp h9)
      refine z_rcs hc hH 2 (pc' := 25) (lv' := [(2, .int (fu <<< ((2 + ha) &&& 31))), (0, .int fu), (1, .int ha)]) (st' := [.int (fu <<< ((2 + ha) &&& 31))]) (μ' := μ) (by rfl) ?_
      exact zJ hJ7 rfl (by first | rfl | simp only [h9, lb_f, Int64.or_zero, Int32.add_zero, nB_t, nB_f, Bool.not_true, Bool.not_false, Bool.and_true, Bool.true_and, Bool.false_and, Bool.and_false, Bool.or_true, Bool.true_or, Bool.false_or, Bool.or_false, cond_true, cond_false]) rfl
theorem fb_X1_isBetter (d : Nat) (hd : 1 ≤ d) (μ : zM) (b h f : Int32) (fo : Int64) : z_C d mi_X1_isBetter [.ref 14, .int b, .int h, .int f, .long fo] μ (zR μ (.int (nB (bif decide (b = (μ.1 14 0)) then bif decide (h = (μ.1 14 1)) then bif decide (f = (μ.1 14 2)) then !(decide ((lg_cmp fo (μ.2.1 14 3)) ≤ 0)) else !(decide (f ≤ (μ.1 14 2))) else !(decide (h ≤ (μ.1 14 1))) else !(decide (b ≤ (μ.1 14 0))))))) := by
  refine z_C_in (by decide) (by omega) (fun d' Z ed hc hr => ?_)
  have hH : zH mi_X1_isBetter zc_X1_isBetter 79 1 6 := ⟨by rfl, by rfl, by rfl, by rfl⟩
  refine z_rcs hc hH 3 (pc' := 5) (lv' := [(0, .ref 14), (1, .int b), (2, .int h), (3, .int f), (4, .long fo)]) (st' := [.int (μ.1 14 0), .int b]) (μ' := μ) (by rfl) ?_
  refine zq_ic hc hH (by rfl) (tg := 22) (by rfl) (fun h1 => ?_) (fun h1 => ?_)
  · have h1 : (decide (b = (μ.1 14 0))) = true := decide_eq_true (cm_eq9.mp h1)
    refine z_rcs hc hH 3 (pc' := 27) (lv' := [(0, .ref 14), (1, .int b), (2, .int h), (3, .int f), (4, .long fo)]) (st' := [.int (μ.1 14 1), .int h]) (μ' := μ) (by rfl) ?_
    refine zq_ic hc hH (by rfl) (tg := 44) (by rfl) (fun h2 => ?_) (fun h2 => ?_)
    · have h2 : (decide (h = (μ.1 14 1))) = true := decide_eq_true (cm_eq9.mp h2)
      refine z_rcs hc hH 3 (pc' := 49) (lv' := [(0, .ref 14), (1, .int b), (2, .int h), (3, .int f), (4, .long fo)]) (st' := [.int (μ.1 14 2), .int f]) (μ' := μ) (by rfl) ?_
      refine zq_ic hc hH (by rfl) (tg := 66) (by rfl) (fun h3 => ?_) (fun h3 => ?_)
      · have h3 : (decide (f = (μ.1 14 2))) = true := decide_eq_true (cm_eq9.mp h3)
        refine z_rcs hc hH 4 (pc' := 73) (lv' := [(0, .ref 14), (1, .int b), (2, .int h), (3, .int f), (4, .long fo)]) (st' := [.int (lg_cmp fo (μ.2.1 14 3))]) (μ' := μ) (by rfl) ?_
        have hJ4 : Z 0 81 [(0, .ref 14), (1, .int b), (2, .int h), (3, .int f), (4, .long fo)] [.int (nB (!(decide ((lg_cmp fo (μ.2.1 14 3)) ≤ 0))))] μ := by
          exact hr 0 81 _ _ _ (some (.int (nB (!(decide ((lg_cmp fo (μ.2.1 14 3)) ≤ 0)))))) (by decide +kernel) ((fun b : Bool => (by cases b <;> rfl : z_rn mi_X1_isBetter 81 [.int (nB b)] = some (some (.int (nB b))))) (!(decide ((lg_cmp fo (μ.2.1 14 3)) ≤ 0)))) (⟨rfl, (by simp only [h1, h2, h3, lb_f, Int64.or_zero, Int32.add_zero, nB_t, nB_f, Bool.not_true, Bool.not_false, Bool.and_true, Bool.true_and, Bool.false_and, Bool.and_false, Bool.or_true, Bool.true_or, Bool.false_or, Bool.or_false, cond_true, cond_false])⟩)
        refine zq_if hc hH (by rfl) (tg := 80) (by rfl) (fun h5 => ?_) (fun h5 => ?_)
        · have h5 : (decide ((lg_cmp fo (μ.2.1 14 3)) ≤ 0)) = true := decide_eq_true (cm_le.mp h5)
          refine z_rcs hc hH 1 (pc' := 81) (lv' := [(0, .ref 14), (1, .int b), (2, .int h), (3, .int f), (4, .long fo)]) (st' := [.int 0]) (μ' := μ) (by rfl) ?_
          exact zJ hJ4 rfl (by first | rfl | simp only [h5, lb_f, Int64.or_zero, Int32.add_zero, nB_t, nB_f, Bool.not_true, Bool.not_false, Bool.and_true, Bool.true_and, Bool.false_and, Bool.and_false, Bool.or_true, Bool.true_or, Bool.false_or, Bool.or_false, cond_true, cond_false]) rfl
        · have h5 : (decide ((lg_cmp fo (μ.2.1 14 3)) ≤ 0)) = false := decide_eq_false (cn_le.mp h5)
          refine z_rcs hc hH 2 (pc' := 81) (lv' := [(0, .ref 14), (1, .int b), (2, .int h), (3, .int f), (4, .long fo)]) (st' := [.int 1]) (μ' := μ) (by rfl) ?_
          exact zJ hJ4 rfl (by first | rfl | simp only [h5, lb_f, Int64.or_zero, Int32.add_zero, nB_t, nB_f, Bool.not_true, Bool.not_false, Bool.and_true, Bool.true_and, Bool.false_and, Bool.and_false, Bool.or_true, Bool.true_or, Bool.false_or, Bool.or_false, cond_true, cond_false]) rfl
      · have h3 : (decide (f = (μ.1 14 2))) = false := decide_eq_false (cn_eq.mp h3)
        refine z_rcs hc hH 3 (pc' := 57) (lv' := [(0, .ref 14), (1, .int b), (2, .int h), (3, .int f), (4, .long fo)]) (st' := [.int (μ.1 14 2), .int f]) (μ' := μ) (by rfl) ?_
        have hJ6 : Z 0 65 [(0, .ref 14), (1, .int b), (2, .int h), (3, .int f), (4, .long fo)] [.int (nB (!(decide (f ≤ (μ.1 14 2)))))] μ := by
          exact hr 0 65 _ _ _ (some (.int (nB (!(decide (f ≤ (μ.1 14 2))))))) (by decide +kernel) ((fun b : Bool => (by cases b <;> rfl : z_rn mi_X1_isBetter 65 [.int (nB b)] = some (some (.int (nB b))))) (!(decide (f ≤ (μ.1 14 2))))) (⟨rfl, (by simp only [h1, h2, h3, lb_f, Int64.or_zero, Int32.add_zero, nB_t, nB_f, Bool.not_true, Bool.not_false, Bool.and_true, Bool.true_and, Bool.false_and, Bool.and_false, Bool.or_true, Bool.true_or, Bool.false_or, Bool.or_false, cond_true, cond_false])⟩)
        refine zq_ic hc hH (by rfl) (tg := 64) (by rfl) (fun h7 => ?_) (fun h7 => ?_)
        · have h7 : (decide (f ≤ (μ.1 14 2))) = true := decide_eq_true (cm_le.mp h7)
          refine z_rcs hc hH 1 (pc' := 65) (lv' := [(0, .ref 14), (1, .int b), (2, .int h), (3, .int f), (4, .long fo)]) (st' := [.int 0]) (μ' := μ) (by rfl) ?_
          exact zJ hJ6 rfl (by first | rfl | simp only [h7, lb_f, Int64.or_zero, Int32.add_zero, nB_t, nB_f, Bool.not_true, Bool.not_false, Bool.and_true, Bool.true_and, Bool.false_and, Bool.and_false, Bool.or_true, Bool.true_or, Bool.false_or, Bool.or_false, cond_true, cond_false]) rfl
        · have h7 : (decide (f ≤ (μ.1 14 2))) = false := decide_eq_false (cn_le.mp h7)
          refine z_rcs hc hH 2 (pc' := 65) (lv' := [(0, .ref 14), (1, .int b), (2, .int h), (3, .int f), (4, .long fo)]) (st' := [.int 1]) (μ' := μ) (by rfl) ?_
          exact zJ hJ6 rfl (by first | rfl | simp only [h7, lb_f, Int64.or_zero, Int32.add_zero, nB_t, nB_f, Bool.not_true, Bool.not_false, Bool.and_true, Bool.true_and, Bool.false_and, Bool.and_false, Bool.or_true, Bool.true_or, Bool.false_or, Bool.or_false, cond_true, cond_false]) rfl
    · have h2 : (decide (h = (μ.1 14 1))) = false := decide_eq_false (cn_eq.mp h2)
      refine z_rcs hc hH 3 (pc' := 35) (lv' := [(0, .ref 14), (1, .int b), (2, .int h), (3, .int f), (4, .long fo)]) (st' := [.int (μ.1 14 1), .int h]) (μ' := μ) (by rfl) ?_
      have hJ8 : Z 0 43 [(0, .ref 14), (1, .int b), (2, .int h), (3, .int f), (4, .long fo)] [.int (nB (!(decide (h ≤ (μ.1 14 1)))))] μ := by
        exact hr 0 43 _ _ _ (some (.int (nB (!(decide (h ≤ (μ.1 14 1))))))) (by decide +kernel) ((fun b : Bool => (by cases b <;> rfl : z_rn mi_X1_isBetter 43 [.int (nB b)] = some (some (.int (nB b))))) (!(decide (h ≤ (μ.1 14 1))))) (⟨rfl, (by simp only [h1, h2, lb_f, Int64.or_zero, Int32.add_zero, nB_t, nB_f, Bool.not_true, Bool.not_false, Bool.and_true, Bool.true_and, Bool.false_and, Bool.and_false, Bool.or_true, Bool.true_or, Bool.false_or, Bool.or_false, cond_true, cond_false])⟩)
      refine zq_ic hc hH (by rfl) (tg := 42) (by rfl) (fun h9 => ?_) (fun h9 => ?_)
      · have h9 : (decide (h ≤ (μ.1 14 1))) = true := decide_eq_true (cm_le.mp h9)
        refine z_rcs hc hH 1 (pc' := 43) (lv' := [(0, .ref 14), (1, .int b), (2, .int h), (3, .int f), (4, .long fo)]) (st' := [.int 0]) (μ' := μ) (by rfl) ?_
        exact zJ hJ8 rfl (by first | rfl | simp only [h9, lb_f, Int64.or_zero, Int32.add_zero, nB_t, nB_f, Bool.not_true, Bool.not_false, Bool.and_true, Bool.true_and, Bool.false_and, Bool.and_false, Bool.or_true, Bool.true_or, Bool.false_or, Bool.or_false, cond_true, cond_false]) rfl
      · have h9 : (decide (h ≤ (μ.1 14 1))) = false := decide_eq_false (cn_le.mp h9)
        refine z_rcs hc hH 2 (pc' := 43) (lv' := [(0, .ref 14), (1, .int b), (2, .int h), (3, .int f), (4, .long fo)]) (st' := [.int 1]) (μ' := μ) (by rfl) ?_
        exact zJ hJ8 rfl (by first | rfl | simp only [h9, lb_f, Int64.or_zero, Int32.add_zero, nB_t, nB_f, Bool.not_true, Bool.not_false, Bool.and_true, Bool.true_and, Bool.false_and, Bool.and_false, Bool.or_true, Bool.true_or, Bool.false_or, Bool.or_false, cond_true, cond_false]) rfl
  · have h1 : (decide (b = (μ.1 14 0))) = false := decide_eq_false (cn_eq.mp h1)
    refine z_rcs hc hH 3 (pc' := 13) (lv' := [(0, .ref 14), (1, .int b), (2, .int h), (3, .int f), (4, .long fo)]) (st' := [.int (μ.1 14 0), .int b]) (μ' := μ) (by rfl) ?_
    have hJ10 : Z 0 21 [(0, .ref 14), (1, .int b), (2, .int h), (3, .int f), (4, .long fo)] [.int (nB (!(decide (b ≤ (μ.1 14 0)))))] μ := by
      exact hr 0 21 _ _ _ (some (.int (nB (!(decide (b ≤ (μ.1 14 0))))))) (by decide +kernel) ((fun b : Bool => (by cases b <;> rfl : z_rn mi_X1_isBetter 21 [.int (nB b)] = some (some (.int (nB b))))) (!(decide (b ≤ (μ.1 14 0))))) (⟨rfl, (by simp only [h1, lb_f, Int64.or_zero, Int32.add_zero, nB_t, nB_f, Bool.not_true, Bool.not_false, Bool.and_true, Bool.true_and, Bool.false_and, Bool.and_false, Bool.or_true, Bool.true_or, Bool.false_or, Bool.or_false, cond_true, cond_false])⟩)
    refine zq_ic hc hH (by rfl) (tg := 20) (by rfl) (fun h11 => ?_) (fun h11 => ?_)
    · have h11 : (decide (b ≤ (μ.1 14 0))) = true := decide_eq_true (cm_le.mp h11)
      refine z_rcs hc hH 1 (pc' := 21) (lv' := [(0, .ref 14), (1, .int b), (2, .int h), (3, .int f), (4, .long fo)]) (st' := [.int 0]) (μ' := μ) (by rfl) ?_
      exact zJ hJ10 rfl (by first | rfl | simp only [h11, lb_f, Int64.or_zero, Int32.add_zero, nB_t, nB_f, Bool.not_true, Bool.not_false, Bool.and_true, Bool.true_and, Bool.false_and, Bool.and_false, Bool.or_true, Bool.true_or, Bool.false_or, Bool.or_false, cond_true, cond_false]) rfl
    · have h11 : (decide (b ≤ (μ.1 14 0))) = false := decide_eq_false (cn_le.mp h11)
      refine z_rcs hc hH 2 (pc' := 21) (lv' := [(0, .ref 14), (1, .int b), (2, .int h), (3, .int f), (4, .long fo)]) (st' := [.int 1]) (μ' := μ) (by rfl) ?_
      exact zJ hJ10 rfl (by first | rfl | simp only [h11, lb_f, Int64.or_zero, Int32.add_zero, nB_t, nB_f, Bool.not_true, Bool.not_false, Bool.and_true, Bool.true_and, Bool.false_and, Bool.and_false, Bool.or_true, Bool.true_or, Bool.false_or, Bool.or_false, cond_true, cond_false]) rfl
theorem fb_X1_pairFu (d : Nat) (hd : 1 ≤ d) (μ : zM) : z_C d mi_X1_pairFu [.ref 14] μ (zR μ (.int (((bif decide ((μ.1 14 15) < 31) then (0 : Int32) else 2) + (bif decide ((μ.1 14 15) = (μ.1 14 9)) then (2 : Int32) else 0)) + (bif decide ((μ.1 14 15) = (μ.1 14 10)) then (2 : Int32) else 0)))) := by
  refine z_C_in (by decide) (by omega) (fun d' Z ed hc hr => ?_)
  have hH : zH mi_X1_pairFu zc_X1_pairFu 79 1 1 := ⟨by rfl, by rfl, by rfl, by rfl⟩
  refine z_rcs hc hH 3 (pc' := 6) (lv' := [(0, .ref 14)]) (st' := [.int 31, .int (μ.1 14 15)]) (μ' := μ) (by rfl) ?_
  have hJ1 : Z 0 14 [(0, .ref 14)] [.int (bif decide ((μ.1 14 15) < 31) then (0 : Int32) else 2)] μ := by
    refine z_rcs hc hH 4 (pc' := 22) (lv' := [(0, .ref 14)]) (st' := [.int (μ.1 14 9), .int (μ.1 14 15), .int (bif decide ((μ.1 14 15) < 31) then (0 : Int32) else 2)]) (μ' := μ) (by rfl) ?_
    have hJ2 : Z 0 30 [(0, .ref 14)] [.int (bif decide ((μ.1 14 15) = (μ.1 14 9)) then (2 : Int32) else 0), .int (bif decide ((μ.1 14 15) < 31) then (0 : Int32) else 2)] μ := by
      refine z_rcs hc hH 5 (pc' := 39) (lv' := [(0, .ref 14)]) (st' := [.int (μ.1 14 10), .int (μ.1 14 15), .int ((bif decide ((μ.1 14 15) < 31) then (0 : Int32) else 2) + (bif decide ((μ.1 14 15) = (μ.1 14 9)) then (2 : Int32) else 0))]) (μ' := μ) (by rfl) ?_
      have hJ3 : Z 0 47 [(0, .ref 14)] [.int (bif decide ((μ.1 14 15) = (μ.1 14 10)) then (2 : Int32) else 0), .int ((bif decide ((μ.1 14 15) < 31) then (0 : Int32) else 2) + (bif decide ((μ.1 14 15) = (μ.1 14 9)) then (2 : Int32) else 0))] μ := by
        generalize hyy4 : ((bif decide ((μ.1 14 15) < 31) then (0 : Int32) else 2) + (bif decide ((μ.1 14 15) = (μ.1 14 9)) then (2 : Int32) else 0) : Int32) = yy4
        refine z_rcs hc hH 1 (pc' := 48) (lv' := [(0, .ref 14)]) (st' := [.int (yy4 + (bif decide ((μ.1 14 15) = (μ.1 14 10)) then (2 : Int32) else 0))]) (μ' := μ) (by rfl) ?_
        exact hr 0 48 _ _ _ (some (.int (yy4 + (bif decide ((μ.1 14 15) = (μ.1 14 10)) then (2 : Int32) else 0)))) (by decide +kernel) (by rfl) (⟨rfl, (by subst hyy4; rfl)⟩)
      refine zq_ic hc hH (by rfl) (tg := 46) (by rfl) (fun h5 => ?_) (fun h5 => ?_)
      · have h5 : (decide ((μ.1 14 15) = (μ.1 14 10))) = false := decide_eq_false (cm_ne.mp h5)
        refine z_rcs hc hH 1 (pc' := 47) (lv' := [(0, .ref 14)]) (st' := [.int 0, .int ((bif decide ((μ.1 14 15) < 31) then (0 : Int32) else 2) + (bif decide ((μ.1 14 15) = (μ.1 14 9)) then (2 : Int32) else 0))]) (μ' := μ) (by rfl) ?_
        exact zJ hJ3 rfl (by first | rfl | simp only [h5, lb_f, Int64.or_zero, Int32.add_zero, nB_t, nB_f, Bool.not_true, Bool.not_false, Bool.and_true, Bool.true_and, Bool.false_and, Bool.and_false, Bool.or_true, Bool.true_or, Bool.false_or, Bool.or_false, cond_true, cond_false]) rfl
      · have h5 : (decide ((μ.1 14 15) = (μ.1 14 10))) = true := decide_eq_true (cn_ne.mp h5)
        refine z_rcs hc hH 2 (pc' := 47) (lv' := [(0, .ref 14)]) (st' := [.int 2, .int ((bif decide ((μ.1 14 15) < 31) then (0 : Int32) else 2) + (bif decide ((μ.1 14 15) = (μ.1 14 9)) then (2 : Int32) else 0))]) (μ' := μ) (by rfl) ?_
        exact zJ hJ3 rfl (by first | rfl | simp only [h5, lb_f, Int64.or_zero, Int32.add_zero, nB_t, nB_f, Bool.not_true, Bool.not_false, Bool.and_true, Bool.true_and, Bool.false_and, Bool.and_false, Bool.or_true, Bool.true_or, Bool.false_or, Bool.or_false, cond_true, cond_false]) rfl
    refine zq_ic hc hH (by rfl) (tg := 29) (by rfl) (fun h6 => ?_) (fun h6 => ?_)
    · have h6 : (decide ((μ.1 14 15) = (μ.1 14 9))) = false := decide_eq_false (cm_ne.mp h6)
      refine z_rcs hc hH 1 (pc' := 30) (lv' := [(0, .ref 14)]) (st' := [.int 0, .int (bif decide ((μ.1 14 15) < 31) then (0 : Int32) else 2)]) (μ' := μ) (by rfl) ?_
      exact zJ hJ2 rfl (by first | rfl | simp only [h6, lb_f, Int64.or_zero, Int32.add_zero, nB_t, nB_f, Bool.not_true, Bool.not_false, Bool.and_true, Bool.true_and, Bool.false_and, Bool.and_false, Bool.or_true, Bool.true_or, Bool.false_or, Bool.or_false, cond_true, cond_false]) rfl
    · have h6 : (decide ((μ.1 14 15) = (μ.1 14 9))) = true := decide_eq_true (cn_ne.mp h6)
      refine z_rcs hc hH 2 (pc' := 30) (lv' := [(0, .ref 14)]) (st' := [.int 2, .int (bif decide ((μ.1 14 15) < 31) then (0 : Int32) else 2)]) (μ' := μ) (by rfl) ?_
      exact zJ hJ2 rfl (by first | rfl | simp only [h6, lb_f, Int64.or_zero, Int32.add_zero, nB_t, nB_f, Bool.not_true, Bool.not_false, Bool.and_true, Bool.true_and, Bool.false_and, Bool.and_false, Bool.or_true, Bool.true_or, Bool.false_or, Bool.or_false, cond_true, cond_false]) rfl
  refine zq_ic hc hH (by rfl) (tg := 13) (by rfl) (fun h7 => ?_) (fun h7 => ?_)
  · have h7 : (decide ((μ.1 14 15) < 31)) = true := decide_eq_true (cm_lt.mp h7)
    refine z_rcs hc hH 1 (pc' := 14) (lv' := [(0, .ref 14)]) (st' := [.int 0]) (μ' := μ) (by rfl) ?_
    exact zJ hJ1 rfl (by first | rfl | simp only [h7, lb_f, Int64.or_zero, Int32.add_zero, nB_t, nB_f, Bool.not_true, Bool.not_false, Bool.and_true, Bool.true_and, Bool.false_and, Bool.and_false, Bool.or_true, Bool.true_or, Bool.false_or, Bool.or_false, cond_true, cond_false]) rfl
  · have h7 : (decide ((μ.1 14 15) < 31)) = false := decide_eq_false (cn_lt.mp h7)
    refine z_rcs hc hH 2 (pc' := 14) (lv' := [(0, .ref 14)]) (st' := [.int 2]) (μ' := μ) (by rfl) ?_
    exact zJ hJ1 rfl (by first | rfl | simp only [h7, lb_f, Int64.or_zero, Int32.add_zero, nB_t, nB_f, Bool.not_true, Bool.not_false, Bool.and_true, Bool.true_and, Bool.false_and, Bool.and_false, Bool.or_true, Bool.true_or, Bool.false_or, Bool.or_false, cond_true, cond_false]) rfl

/-! the game: questions of the class -/
set_option maxRecDepth 8000
theorem gc_at4 (d : Nat) (hd : 1 ≤ d) (μ : zM) (s : Nat) (hs : s < 4) : z_C d mi_X6_at [.ref 0, .int (nI s)] μ (zR μ (.ref (18 + 8 * s))) := by
  have z := gc_at d hd μ s (by omega)
  rw [Nat.mod_eq_of_lt hs] at z
  exact z
theorem gc_atm (d : Nat) (hd : 1 ≤ d) (μ : zM) (s u : Nat) (hs : s < 2147483648) (hu : s % 4 = u) : z_C d mi_X6_at [.ref 0, .int (nI s)] μ (zR μ (.ref (18 + 8 * u))) := by
  have z := gc_at d hd μ s (by omega)
  rw [hu] at z
  exact z
noncomputable def fr (μ : zM) (r : Nat) (k : Int32) : Int32 := bif z_in k 34 then μ.1 r k.toNatClampNeg else 0
theorem gc_free (d : Nat) (hd : 2 ≤ d) (μ : zM) (j : Nat) (hj : j < 4) (k : Int32) : z_C d mi_X3_free [.ref (19 + 8 * j), .int k] μ (zR μ (.int (fr μ (20 + 8 * j) k))) := by
  refine z_C_mono (ts_free hj μ d hd k) (fun r μ' z => ⟨z.1, ?_⟩)
  rcases z.2 with ⟨h1, h2⟩ | ⟨h1, h2⟩
  · rw [h2]; unfold fr; rw [z_in_iff.mpr h1]; rfl
  · rw [h2]; unfold fr
    have e : z_in k 34 = false := by cases e : z_in k 34 with | false => rfl | true => exact absurd (z_in_iff.mp e) h1
    rw [e]; rfl
noncomputable abbrev sI (x : Int32) : Bool := !(decide (x < 0)) && (!(decide (4 ≤ x)))
noncomputable abbrev xLf (μ : zM) : Int32 := bif decide ((μ.1 2 1) = 0) then (0 : Int32) else (122 - (μ.1 2 3)) - (μ.1 2 2)
noncomputable abbrev xSg (μ : zM) : Int32 := bif decide ((μ.1 2 1) = 0) then (0 : Int32) else 1 + (μ.1 2 3)
noncomputable abbrev srB (x : Int32) : Bool := !(decide (x < 0)) && (!(decide (27 ≤ x)) && (!(decide (6 < (x - x / 9 * 9)))))
theorem gc_startsRun (d : Nat) (hd : 1 ≤ d) (μ : zM) (x : Int32) : z_C d mi_X6_startsRun [.int x] μ (zR μ (.int (nB (!(decide (x < 0)) && (!(decide (27 ≤ x)) && (!(decide (6 < (x - x / 9 * 9))))))))) := by
  refine z_C_in (by decide) (by omega) (fun d' Z ed hc hr => ?_)
  have hH : zH mi_X6_startsRun zt_X6_startsRun 79 6 1 := hh_X6_startsRun
  refine z_rcs hc hH 1 (pc' := 1) (lv' := [(0, .int x)]) (st' := [.int x]) (μ' := μ) (by rfl) ?_
  have hJ1 : Z 0 24 [(0, .int x)] [.int (nB (!(decide (x < 0)) && (!(decide (27 ≤ x)) && (!(decide (6 < (x - x / 9 * 9)))))))] μ := by
    generalize hee2 : (!(decide (x < 0)) && (!(decide (27 ≤ x)) && (!(decide (6 < (x - x / 9 * 9)))))) = ee2
    exact hr 0 24 _ _ _ (some (.int (nB ee2))) (by decide +kernel) ((fun b : Bool => (by cases b <;> rfl : z_rn mi_X6_startsRun 24 [.int (nB b)] = some (some (.int (nB b))))) ee2) (⟨rfl, (by subst hee2; rfl)⟩)
  refine zq_if hc hH (by rfl) (tg := 23) (by rfl) (fun h3 => ?_) (fun h3 => ?_)
  · have h3 : (decide (x < 0)) = true := decide_eq_true (cm_lt.mp h3)
    refine z_rcs hc hH 1 (pc' := 24) (lv' := [(0, .int x)]) (st' := [.int 0]) (μ' := μ) (by rfl) ?_
    exact zJ hJ1 rfl (by first | with_reducible rfl | (simp only [h3, lb_f, Int64.or_zero, Int32.add_zero, nB_t, nB_f, Bool.not_true, Bool.not_false, Bool.and_true, Bool.true_and, Bool.false_and, Bool.and_false, Bool.or_true, Bool.true_or, Bool.false_or, Bool.or_false, cond_true, cond_false]; done) | rfl) rfl
  · have h3 : (decide (x < 0)) = false := decide_eq_false (cn_lt.mp h3)
    refine z_rcs hc hH 2 (pc' := 7) (lv' := [(0, .int x)]) (st' := [.int 27, .int x]) (μ' := μ) (by rfl) ?_
    refine zq_ic hc hH (by rfl) (tg := 23) (by rfl) (fun h4 => ?_) (fun h4 => ?_)
    · have h4 : (decide (27 ≤ x)) = true := decide_eq_true (cm_ge.mp h4)
      refine z_rcs hc hH 1 (pc' := 24) (lv' := [(0, .int x)]) (st' := [.int 0]) (μ' := μ) (by rfl) ?_
      exact zJ hJ1 rfl (by first | with_reducible rfl | (simp only [h3, h4, lb_f, Int64.or_zero, Int32.add_zero, nB_t, nB_f, Bool.not_true, Bool.not_false, Bool.and_true, Bool.true_and, Bool.false_and, Bool.and_false, Bool.or_true, Bool.true_or, Bool.false_or, Bool.or_false, cond_true, cond_false]; done) | rfl) rfl
    · have h4 : (decide (27 ≤ x)) = false := decide_eq_false (cn_ge.mp h4)
      refine z_rcs hc hH 4 (pc' := 16) (lv' := [(0, .int x)]) (st' := [.int 6, .int (x - x / 9 * 9)]) (μ' := μ) (by rfl) ?_
      refine zq_ic hc hH (by rfl) (tg := 23) (by rfl) (fun h5 => ?_) (fun h5 => ?_)
      · have h5 : (decide (6 < (x - x / 9 * 9))) = true := decide_eq_true (cm_gt.mp h5)
        refine z_rcs hc hH 1 (pc' := 24) (lv' := [(0, .int x)]) (st' := [.int 0]) (μ' := μ) (by rfl) ?_
        exact zJ hJ1 rfl (by first | with_reducible rfl | (simp only [h3, h4, h5, lb_f, Int64.or_zero, Int32.add_zero, nB_t, nB_f, Bool.not_true, Bool.not_false, Bool.and_true, Bool.true_and, Bool.false_and, Bool.and_false, Bool.or_true, Bool.true_or, Bool.false_or, Bool.or_false, cond_true, cond_false]; done) | rfl) rfl
      · have h5 : (decide (6 < (x - x / 9 * 9))) = false := decide_eq_false (cn_gt.mp h5)
        refine z_rcs hc hH 2 (pc' := 24) (lv' := [(0, .int x)]) (st' := [.int 1]) (μ' := μ) (by rfl) ?_
        exact zJ hJ1 rfl (by first | with_reducible rfl | (simp only [h3, h4, h5, lb_f, Int64.or_zero, Int32.add_zero, nB_t, nB_f, Bool.not_true, Bool.not_false, Bool.and_true, Bool.true_and, Bool.false_and, Bool.and_false, Bool.or_true, Bool.true_or, Bool.false_or, Bool.or_false, cond_true, cond_false]; done) | rfl) rfl
noncomputable abbrev xAny (μ : zM) : Bool := !(decide ((μ.1 18 9) = 0)) || (!(decide ((μ.1 26 9) = 0)) || (!(decide ((μ.1 34 9) = 0)) || (!(decide ((μ.1 42 9) = 0)))))
theorem gc_someoneSays (d : Nat) (hd : 2 ≤ d) (μ : zM) : z_C d mi_X6_someoneSays [.ref 0] μ (zR μ (.int (nB (!(decide ((μ.1 18 9) = 0)) || (!(decide ((μ.1 26 9) = 0)) || (!(decide ((μ.1 34 9) = 0)) || (!(decide ((μ.1 42 9) = 0))))))))) := by
  refine z_C_in (by decide) (by omega) (fun d' Z ed hc hr => ?_)
  have hH : zH mi_X6_someoneSays zt_X6_someoneSays 79 6 2 := hh_X6_someoneSays
  refine z_rcs hc hH 7 (pc' := 9) (lv' := [(1, .int 0), (0, .ref 0)]) (st' := [.int 0, .ref 0]) (μ' := μ) (by rfl) ?_
  refine zq_call hc (z_cx_ok hH (by rfl)) (gc_at d' (by omega) μ 0 (by decide)) (by decide +kernel) (fun r9 μ9 hq => ?_)
  obtain ⟨hμ9, rfl⟩ := hq
  rw [hμ9]
  clear hμ9 μ9
  show Z 0 12 [(1, .int 0), (0, .ref 0)] [.ref 18] μ
  refine zq_gfi hc hH (by rfl) (ci := 1) (f := 9) (by rfl) (by decide +kernel) (by rfl) ?_
  refine zq_if hc hH (by rfl) (tg := 20) (by rfl) (fun h1 => ?_) (fun h1 => ?_)
  · have h1 : (decide ((μ.1 18 9) = 0)) = true := decide_eq_true (cm_eq9.mp h1)
    refine z_rcs hc hH 7 (pc' := 9) (lv' := [(1, .int 1), (0, .ref 0)]) (st' := [.int 1, .ref 0]) (μ' := μ) (by rfl) ?_
    refine zq_call hc (z_cx_ok hH (by rfl)) (gc_at d' (by omega) μ 1 (by decide)) (by decide +kernel) (fun r9 μ9 hq => ?_)
    obtain ⟨hμ9, rfl⟩ := hq
    rw [hμ9]
    clear hμ9 μ9
    show Z 0 12 [(1, .int 1), (0, .ref 0)] [.ref 26] μ
    refine zq_gfi hc hH (by rfl) (ci := 1) (f := 9) (by rfl) (by decide +kernel) (by rfl) ?_
    refine zq_if hc hH (by rfl) (tg := 20) (by rfl) (fun h2 => ?_) (fun h2 => ?_)
    · have h2 : (decide ((μ.1 26 9) = 0)) = true := decide_eq_true (cm_eq9.mp h2)
      refine z_rcs hc hH 7 (pc' := 9) (lv' := [(1, .int 2), (0, .ref 0)]) (st' := [.int 2, .ref 0]) (μ' := μ) (by rfl) ?_
      refine zq_call hc (z_cx_ok hH (by rfl)) (gc_at d' (by omega) μ 2 (by decide)) (by decide +kernel) (fun r9 μ9 hq => ?_)
      obtain ⟨hμ9, rfl⟩ := hq
      rw [hμ9]
      clear hμ9 μ9
      show Z 0 12 [(1, .int 2), (0, .ref 0)] [.ref 34] μ
      refine zq_gfi hc hH (by rfl) (ci := 1) (f := 9) (by rfl) (by decide +kernel) (by rfl) ?_
      refine zq_if hc hH (by rfl) (tg := 20) (by rfl) (fun h3 => ?_) (fun h3 => ?_)
      · have h3 : (decide ((μ.1 34 9) = 0)) = true := decide_eq_true (cm_eq9.mp h3)
        refine z_rcs hc hH 7 (pc' := 9) (lv' := [(1, .int 3), (0, .ref 0)]) (st' := [.int 3, .ref 0]) (μ' := μ) (by rfl) ?_
        refine zq_call hc (z_cx_ok hH (by rfl)) (gc_at d' (by omega) μ 3 (by decide)) (by decide +kernel) (fun r9 μ9 hq => ?_)
        obtain ⟨hμ9, rfl⟩ := hq
        rw [hμ9]
        clear hμ9 μ9
        show Z 0 12 [(1, .int 3), (0, .ref 0)] [.ref 42] μ
        refine zq_gfi hc hH (by rfl) (ci := 1) (f := 9) (by rfl) (by decide +kernel) (by rfl) ?_
        refine zq_if hc hH (by rfl) (tg := 20) (by rfl) (fun h4 => ?_) (fun h4 => ?_)
        · have h4 : (decide ((μ.1 42 9) = 0)) = true := decide_eq_true (cm_eq9.mp h4)
          refine z_rcs hc hH 6 (pc' := 27) (lv' := [(1, .int 4), (0, .ref 0)]) (st' := [.int 0]) (μ' := μ) (by rfl) ?_
          exact hr 0 27 _ _ _ (some (.int 0)) (by decide +kernel) (z_rx_ok hH (by rfl)) (⟨rfl, (by simp only [h1, h2, h3, h4, lb_f, Int64.or_zero, Int32.add_zero, nB_t, nB_f, Bool.not_true, Bool.not_false, Bool.and_true, Bool.true_and, Bool.false_and, Bool.and_false, Bool.or_true, Bool.true_or, Bool.false_or, Bool.or_false, cond_true, cond_false])⟩)
        · have h4 : (decide ((μ.1 42 9) = 0)) = false := decide_eq_false (cn_eq.mp h4)
          refine z_rcs hc hH 1 (pc' := 19) (lv' := [(1, .int 3), (0, .ref 0)]) (st' := [.int 1]) (μ' := μ) (by rfl) ?_
          exact hr 0 19 _ _ _ (some (.int 1)) (by decide +kernel) (z_rx_ok hH (by rfl)) (⟨rfl, (by simp only [h1, h2, h3, h4, lb_f, Int64.or_zero, Int32.add_zero, nB_t, nB_f, Bool.not_true, Bool.not_false, Bool.and_true, Bool.true_and, Bool.false_and, Bool.and_false, Bool.or_true, Bool.true_or, Bool.false_or, Bool.or_false, cond_true, cond_false])⟩)
      · have h3 : (decide ((μ.1 34 9) = 0)) = false := decide_eq_false (cn_eq.mp h3)
        refine z_rcs hc hH 1 (pc' := 19) (lv' := [(1, .int 2), (0, .ref 0)]) (st' := [.int 1]) (μ' := μ) (by rfl) ?_
        exact hr 0 19 _ _ _ (some (.int 1)) (by decide +kernel) (z_rx_ok hH (by rfl)) (⟨rfl, (by simp only [h1, h2, h3, lb_f, Int64.or_zero, Int32.add_zero, nB_t, nB_f, Bool.not_true, Bool.not_false, Bool.and_true, Bool.true_and, Bool.false_and, Bool.and_false, Bool.or_true, Bool.true_or, Bool.false_or, Bool.or_false, cond_true, cond_false])⟩)
    · have h2 : (decide ((μ.1 26 9) = 0)) = false := decide_eq_false (cn_eq.mp h2)
      refine z_rcs hc hH 1 (pc' := 19) (lv' := [(1, .int 1), (0, .ref 0)]) (st' := [.int 1]) (μ' := μ) (by rfl) ?_
      exact hr 0 19 _ _ _ (some (.int 1)) (by decide +kernel) (z_rx_ok hH (by rfl)) (⟨rfl, (by simp only [h1, h2, lb_f, Int64.or_zero, Int32.add_zero, nB_t, nB_f, Bool.not_true, Bool.not_false, Bool.and_true, Bool.true_and, Bool.false_and, Bool.and_false, Bool.or_true, Bool.true_or, Bool.false_or, Bool.or_false, cond_true, cond_false])⟩)
  · have h1 : (decide ((μ.1 18 9) = 0)) = false := decide_eq_false (cn_eq.mp h1)
    refine z_rcs hc hH 1 (pc' := 19) (lv' := [(1, .int 0), (0, .ref 0)]) (st' := [.int 1]) (μ' := μ) (by rfl) ?_
    exact hr 0 19 _ _ _ (some (.int 1)) (by decide +kernel) (z_rx_ok hH (by rfl)) (⟨rfl, (by simp only [h1, lb_f, Int64.or_zero, Int32.add_zero, nB_t, nB_f, Bool.not_true, Bool.not_false, Bool.and_true, Bool.true_and, Bool.false_and, Bool.and_false, Bool.or_true, Bool.true_or, Bool.false_or, Bool.or_false, cond_true, cond_false])⟩)
noncomputable abbrev xIw (μ : zM) (x : Int32) : Bool := !(decide (x < 0)) && (!(decide ((μ.1 0 6) ≤ x)) && (!(decide (4 ≤ x))))
theorem gc_isWin (d : Nat) (hd : 2 ≤ d) (μ : zM) (x : Int32) : z_C d mi_X6_isWin [.ref 0, .int x] μ (zR μ (.int (nB (!(decide (x < 0)) && (!(decide ((μ.1 0 6) ≤ x)) && (!(decide (4 ≤ x)))))))) := by
  refine z_C_in (by decide) (by omega) (fun d' Z ed hc hr => ?_)
  have hH : zH mi_X6_isWin zt_X6_isWin 79 6 2 := hh_X6_isWin
  refine z_rcs hc hH 1 (pc' := 1) (lv' := [(0, .ref 0), (1, .int x)]) (st' := [.int x]) (μ' := μ) (by rfl) ?_
  have hJ1 : Z 0 22 [(0, .ref 0), (1, .int x)] [.int (nB (!(decide (x < 0)) && (!(decide ((μ.1 0 6) ≤ x)) && (!(decide (4 ≤ x))))))] μ := by
    generalize hee2 : (!(decide (x < 0)) && (!(decide ((μ.1 0 6) ≤ x)) && (!(decide (4 ≤ x))))) = ee2
    exact hr 0 22 _ _ _ (some (.int (nB ee2))) (by decide +kernel) ((fun b : Bool => (by cases b <;> rfl : z_rn mi_X6_isWin 22 [.int (nB b)] = some (some (.int (nB b))))) ee2) (⟨rfl, (by subst hee2; rfl)⟩)
  refine zq_if hc hH (by rfl) (tg := 21) (by rfl) (fun h3 => ?_) (fun h3 => ?_)
  · have h3 : (decide (x < 0)) = true := decide_eq_true (cm_lt.mp h3)
    refine z_rcs hc hH 1 (pc' := 22) (lv' := [(0, .ref 0), (1, .int x)]) (st' := [.int 0]) (μ' := μ) (by rfl) ?_
    exact zJ hJ1 rfl (by first | with_reducible rfl | (simp only [h3, lb_f, Int64.or_zero, Int32.add_zero, nB_t, nB_f, Bool.not_true, Bool.not_false, Bool.and_true, Bool.true_and, Bool.false_and, Bool.and_false, Bool.or_true, Bool.true_or, Bool.false_or, Bool.or_false, cond_true, cond_false]; done) | rfl) rfl
  · have h3 : (decide (x < 0)) = false := decide_eq_false (cn_lt.mp h3)
    refine z_rcs hc hH 2 (pc' := 6) (lv' := [(0, .ref 0), (1, .int x)]) (st' := [.ref 0, .int x]) (μ' := μ) (by rfl) ?_
    refine zq_gfi hc hH (by rfl) (ci := 5) (f := 6) (by rfl) (by decide +kernel) (by rfl) ?_
    refine zq_ic hc hH (by rfl) (tg := 21) (by rfl) (fun h4 => ?_) (fun h4 => ?_)
    · have h4 : (decide ((μ.1 0 6) ≤ x)) = true := decide_eq_true (cm_ge.mp h4)
      refine z_rcs hc hH 1 (pc' := 22) (lv' := [(0, .ref 0), (1, .int x)]) (st' := [.int 0]) (μ' := μ) (by rfl) ?_
      exact zJ hJ1 rfl (by first | with_reducible rfl | (simp only [h3, h4, lb_f, Int64.or_zero, Int32.add_zero, nB_t, nB_f, Bool.not_true, Bool.not_false, Bool.and_true, Bool.true_and, Bool.false_and, Bool.and_false, Bool.or_true, Bool.true_or, Bool.false_or, Bool.or_false, cond_true, cond_false]; done) | rfl) rfl
    · have h4 : (decide ((μ.1 0 6) ≤ x)) = false := decide_eq_false (cn_ge.mp h4)
      refine z_rcs hc hH 2 (pc' := 14) (lv' := [(0, .ref 0), (1, .int x)]) (st' := [.int 4, .int x]) (μ' := μ) (by rfl) ?_
      refine zq_ic hc hH (by rfl) (tg := 21) (by rfl) (fun h5 => ?_) (fun h5 => ?_)
      · have h5 : (decide (4 ≤ x)) = true := decide_eq_true (cm_ge.mp h5)
        refine z_rcs hc hH 1 (pc' := 22) (lv' := [(0, .ref 0), (1, .int x)]) (st' := [.int 0]) (μ' := μ) (by rfl) ?_
        exact zJ hJ1 rfl (by first | with_reducible rfl | (simp only [h3, h4, h5, lb_f, Int64.or_zero, Int32.add_zero, nB_t, nB_f, Bool.not_true, Bool.not_false, Bool.and_true, Bool.true_and, Bool.false_and, Bool.and_false, Bool.or_true, Bool.true_or, Bool.false_or, Bool.or_false, cond_true, cond_false]; done) | rfl) rfl
      · have h5 : (decide (4 ≤ x)) = false := decide_eq_false (cn_ge.mp h5)
        refine z_rcs hc hH 2 (pc' := 22) (lv' := [(0, .ref 0), (1, .int x)]) (st' := [.int 1]) (μ' := μ) (by rfl) ?_
        exact zJ hJ1 rfl (by first | with_reducible rfl | (simp only [h3, h4, h5, lb_f, Int64.or_zero, Int32.add_zero, nB_t, nB_f, Bool.not_true, Bool.not_false, Bool.and_true, Bool.true_and, Bool.false_and, Bool.and_false, Bool.or_true, Bool.true_or, Bool.false_or, Bool.or_false, cond_true, cond_false]; done) | rfl) rfl
theorem gc_mayMakeFour (d : Nat) (hd : 3 ≤ d) (μ : zM) (t : Nat) (ht4 : t < 4) (ht : μ.1 0 8 = nI t) : z_C d mi_X6_mayMakeFour [.ref 0] μ (zR μ (.int (nB ((decide ((μ.1 0 7) = 1)) && (!(decide ((μ.1 0 15) = (-1))) && ((decide ((μ.1 (18 + 8 * t) 5) = 0)) && (!(decide ((xLf μ) ≤ 0)) && (!(decide (4 ≤ (μ.1 2 3))))))))))) := by
  refine z_C_in (by decide) (by omega) (fun d' Z ed hc hr => ?_)
  have hH : zH mi_X6_mayMakeFour zt_X6_mayMakeFour 79 6 1 := hh_X6_mayMakeFour
  refine z_rcs hc hH 1 (pc' := 1) (lv' := [(0, .ref 0)]) (st' := [.ref 0]) (μ' := μ) (by rfl) ?_
  refine zq_gfi hc hH (by rfl) (ci := 5) (f := 7) (by rfl) (by decide +kernel) (by rfl) ?_
  refine z_rcs hc hH 1 (pc' := 5) (lv' := [(0, .ref 0)]) (st' := [.int 1, .int (μ.1 0 7)]) (μ' := μ) (by rfl) ?_
  have hJ1 : Z 0 56 [(0, .ref 0)] [.int (nB ((decide ((μ.1 0 7) = 1)) && (!(decide ((μ.1 0 15) = (-1))) && ((decide ((μ.1 (18 + 8 * t) 5) = 0)) && (!(decide ((xLf μ) ≤ 0)) && (!(decide (4 ≤ (μ.1 2 3)))))))))] μ := by
    generalize hee2 : ((decide ((μ.1 0 7) = 1)) && (!(decide ((μ.1 0 15) = (-1))) && ((decide ((μ.1 (18 + 8 * t) 5) = 0)) && (!(decide ((xLf μ) ≤ 0)) && (!(decide (4 ≤ (μ.1 2 3)))))))) = ee2
    exact hr 0 56 _ _ _ (some (.int (nB ee2))) (by decide +kernel) ((fun b : Bool => (by cases b <;> rfl : z_rn mi_X6_mayMakeFour 56 [.int (nB b)] = some (some (.int (nB b))))) ee2) (⟨rfl, (by subst hee2; rfl)⟩)
  refine zq_ic hc hH (by rfl) (tg := 55) (by rfl) (fun h3 => ?_) (fun h3 => ?_)
  · have h3 : (decide ((μ.1 0 7) = 1)) = false := decide_eq_false (cm_ne.mp h3)
    refine z_rcs hc hH 1 (pc' := 56) (lv' := [(0, .ref 0)]) (st' := [.int 0]) (μ' := μ) (by rfl) ?_
    exact zJ hJ1 rfl (by first | with_reducible rfl | (simp only [h3, lb_f, Int64.or_zero, Int32.add_zero, nB_t, nB_f, Bool.not_true, Bool.not_false, Bool.and_true, Bool.true_and, Bool.false_and, Bool.and_false, Bool.or_true, Bool.true_or, Bool.false_or, Bool.or_false, cond_true, cond_false]; done) | rfl) rfl
  · have h3 : (decide ((μ.1 0 7) = 1)) = true := decide_eq_true (cn_ne.mp h3)
    refine z_rcs hc hH 1 (pc' := 9) (lv' := [(0, .ref 0)]) (st' := [.ref 0]) (μ' := μ) (by rfl) ?_
    refine zq_gfi hc hH (by rfl) (ci := 5) (f := 15) (by rfl) (by decide +kernel) (by rfl) ?_
    refine z_rcs hc hH 1 (pc' := 13) (lv' := [(0, .ref 0)]) (st' := [.int (-1), .int (μ.1 0 15)]) (μ' := μ) (by rfl) ?_
    refine zq_ic hc hH (by rfl) (tg := 55) (by rfl) (fun h4 => ?_) (fun h4 => ?_)
    · have h4 : (decide ((μ.1 0 15) = (-1))) = true := decide_eq_true (cm_eq9.mp h4)
      refine z_rcs hc hH 1 (pc' := 56) (lv' := [(0, .ref 0)]) (st' := [.int 0]) (μ' := μ) (by rfl) ?_
      exact zJ hJ1 rfl (by first | with_reducible rfl | (simp only [h3, h4, lb_f, Int64.or_zero, Int32.add_zero, nB_t, nB_f, Bool.not_true, Bool.not_false, Bool.and_true, Bool.true_and, Bool.false_and, Bool.and_false, Bool.or_true, Bool.true_or, Bool.false_or, Bool.or_false, cond_true, cond_false]; done) | rfl) rfl
    · have h4 : (decide ((μ.1 0 15) = (-1))) = false := decide_eq_false (cn_eq.mp h4)
      refine z_rcs hc hH 2 (pc' := 18) (lv' := [(0, .ref 0)]) (st' := [.ref 0, .ref 0]) (μ' := μ) (by rfl) ?_
      refine zq_gfi hc hH (by rfl) (ci := 5) (f := 8) (by rfl) (by decide +kernel) (by rfl) ?_
      rw [ht]
      refine zq_call hc (z_cx_ok hH (by rfl)) (gc_at4 d' (by omega) μ t ht4) (by decide +kernel) (fun r9 μ9 hq => ?_)
      obtain ⟨hμ9, rfl⟩ := hq
      rw [hμ9]
      clear hμ9 μ9
      show Z 0 24 [(0, .ref 0)] [.ref (18 + 8 * t)] μ
      refine zq_gfi hc hH (by rfl) (ci := 1) (f := 5) (by rfl) (sj (P := fun i => okf 79 1 5 (18 + 8 * i)) ht4 (by decide +kernel)) (by rfl) ?_
      refine zq_if hc hH (by rfl) (tg := 55) (by rfl) (fun h5 => ?_) (fun h5 => ?_)
      · have h5 : (decide ((μ.1 (18 + 8 * t) 5) = 0)) = false := decide_eq_false (cm_ne.mp h5)
        refine z_rcs hc hH 1 (pc' := 56) (lv' := [(0, .ref 0)]) (st' := [.int 0]) (μ' := μ) (by rfl) ?_
        exact zJ hJ1 rfl (by first | with_reducible rfl | (simp only [h3, h4, h5, lb_f, Int64.or_zero, Int32.add_zero, nB_t, nB_f, Bool.not_true, Bool.not_false, Bool.and_true, Bool.true_and, Bool.false_and, Bool.and_false, Bool.or_true, Bool.true_or, Bool.false_or, Bool.or_false, cond_true, cond_false]; done) | rfl) rfl
      · have h5 : (decide ((μ.1 (18 + 8 * t) 5) = 0)) = true := decide_eq_true (cn_ne.mp h5)
        refine z_rcs hc hH 1 (pc' := 31) (lv' := [(0, .ref 0)]) (st' := [.ref 0]) (μ' := μ) (by rfl) ?_
        refine zq_gfr hc hH (by rfl) (ci := 5) (f := 1) (q := 2) (by rfl) (by decide +kernel) (by rfl) (by decide +kernel) ?_
        refine zq_call hc (z_cx_ok hH (by rfl)) (gc_left d' (by omega) μ) (by decide +kernel) (fun r9 μ9 hq => ?_)
        obtain ⟨hμ9, rfl⟩ := hq
        rw [hμ9]
        clear hμ9 μ9
        show Z 0 37 [(0, .ref 0)] [.int (xLf μ)] μ
        refine zq_if hc hH (by rfl) (tg := 55) (by rfl) (fun h6 => ?_) (fun h6 => ?_)
        · have h6 : (decide ((xLf μ) ≤ 0)) = true := decide_eq_true (cm_le.mp h6)
          refine z_rcs hc hH 1 (pc' := 56) (lv' := [(0, .ref 0)]) (st' := [.int 0]) (μ' := μ) (by rfl) ?_
          exact zJ hJ1 rfl (by first | with_reducible rfl | (simp only [h3, h4, h5, h6, lb_f, Int64.or_zero, Int32.add_zero, nB_t, nB_f, Bool.not_true, Bool.not_false, Bool.and_true, Bool.true_and, Bool.false_and, Bool.and_false, Bool.or_true, Bool.true_or, Bool.false_or, Bool.or_false, cond_true, cond_false]; done) | rfl) rfl
        · have h6 : (decide ((xLf μ) ≤ 0)) = false := decide_eq_false (cn_le.mp h6)
          refine z_rcs hc hH 1 (pc' := 41) (lv' := [(0, .ref 0)]) (st' := [.ref 0]) (μ' := μ) (by rfl) ?_
          refine zq_gfr hc hH (by rfl) (ci := 5) (f := 1) (q := 2) (by rfl) (by decide +kernel) (by rfl) (by decide +kernel) ?_
          refine zq_gfi hc hH (by rfl) (ci := 3) (f := 3) (by rfl) (by decide +kernel) (by rfl) ?_
          refine z_rcs hc hH 1 (pc' := 48) (lv' := [(0, .ref 0)]) (st' := [.int 4, .int (μ.1 2 3)]) (μ' := μ) (by rfl) ?_
          refine zq_ic hc hH (by rfl) (tg := 55) (by rfl) (fun h7 => ?_) (fun h7 => ?_)
          · have h7 : (decide (4 ≤ (μ.1 2 3))) = true := decide_eq_true (cm_ge.mp h7)
            refine z_rcs hc hH 1 (pc' := 56) (lv' := [(0, .ref 0)]) (st' := [.int 0]) (μ' := μ) (by rfl) ?_
            exact zJ hJ1 rfl (by first | with_reducible rfl | (simp only [h3, h4, h5, h6, h7, lb_f, Int64.or_zero, Int32.add_zero, nB_t, nB_f, Bool.not_true, Bool.not_false, Bool.and_true, Bool.true_and, Bool.false_and, Bool.and_false, Bool.or_true, Bool.true_or, Bool.false_or, Bool.or_false, cond_true, cond_false]; done) | rfl) rfl
          · have h7 : (decide (4 ≤ (μ.1 2 3))) = false := decide_eq_false (cn_ge.mp h7)
            refine z_rcs hc hH 2 (pc' := 56) (lv' := [(0, .ref 0)]) (st' := [.int 1]) (μ' := μ) (by rfl) ?_
            exact zJ hJ1 rfl (by first | with_reducible rfl | (simp only [h3, h4, h5, h6, h7, lb_f, Int64.or_zero, Int32.add_zero, nB_t, nB_f, Bool.not_true, Bool.not_false, Bool.and_true, Bool.true_and, Bool.false_and, Bool.and_false, Bool.or_true, Bool.true_or, Bool.false_or, Bool.or_false, cond_true, cond_false]; done) | rfl) rfl
theorem gc_mayThrow (d : Nat) (hd : 3 ≤ d) (μ : zM) (t : Nat) (ht4 : t < 4) (ht : μ.1 0 8 = nI t) (x : Int32) : z_C d mi_X6_mayThrow [.ref 0, .int x] μ (zR μ (.int (nB (!(decide ((fr μ (20 + 8 * t) x) = 0)) && (!(xHd (μ.2.1 0 18) x) && ((decide ((μ.1 (18 + 8 * t) 5) = 0)) || (decide (x = (μ.1 0 15))))))))) := by
  refine z_C_in (by decide) (by omega) (fun d' Z ed hc hr => ?_)
  have hH : zH mi_X6_mayThrow zt_X6_mayThrow 79 6 3 := hh_X6_mayThrow
  refine z_rcs hc hH 2 (pc' := 2) (lv' := [(0, .ref 0), (1, .int x)]) (st' := [.ref 0, .ref 0]) (μ' := μ) (by rfl) ?_
  refine zq_gfi hc hH (by rfl) (ci := 5) (f := 8) (by rfl) (by decide +kernel) (by rfl) ?_
  rw [ht]
  refine zq_call hc (z_cx_ok hH (by rfl)) (gc_at4 d' (by omega) μ t ht4) (by decide +kernel) (fun r9 μ9 hq => ?_)
  obtain ⟨hμ9, rfl⟩ := hq
  rw [hμ9]
  clear hμ9 μ9
  show Z 0 8 [(0, .ref 0), (1, .int x)] [.ref (18 + 8 * t)] μ
  refine z_rcs hc hH 2 (pc' := 10) (lv' := [(2, .ref (18 + 8 * t)), (0, .ref 0), (1, .int x)]) (st' := [.ref (18 + 8 * t)]) (μ' := μ) (by rfl) ?_
  refine zq_gfr hc hH (by rfl) (ci := 1) (f := 0) (q := 19 + 8 * t) (by rfl) (sj (P := fun i => okf 79 1 0 (18 + 8 * i)) ht4 (by decide +kernel)) (by rfl) (sj (P := fun i => Nat.beq (z_gr (18 + 8 * i) 0) (19 + 8 * i)) ht4 (by decide +kernel)) ?_
  refine z_rcs hc hH 1 (pc' := 14) (lv' := [(2, .ref (18 + 8 * t)), (0, .ref 0), (1, .int x)]) (st' := [.int x, .ref (19 + 8 * t)]) (μ' := μ) (by rfl) ?_
  refine zq_call hc (z_clv9 hH (by rfl) (by rfl) (by rfl) (by rfl) (sj (P := fun i => okr 79 2 (19 + 8 * i)) ht4 (by decide +kernel)) (by rfl) (by rfl)) (gc_free d' (by omega) μ t ht4 x) (by decide +kernel) (fun r9 μ9 hq => ?_)
  obtain ⟨hμ9, rfl⟩ := hq
  rw [hμ9]
  clear hμ9 μ9
  show Z 0 17 [(2, .ref (18 + 8 * t)), (0, .ref 0), (1, .int x)] [.int (fr μ (20 + 8 * t) x)] μ
  refine zq_if hc hH (by rfl) (tg := 31) (by rfl) (fun h1 => ?_) (fun h1 => ?_)
  · have h1 : (decide ((fr μ (20 + 8 * t) x) = 0)) = true := decide_eq_true (cm_eq9.mp h1)
    refine z_rcs hc hH 1 (pc' := 32) (lv' := [(2, .ref (18 + 8 * t)), (0, .ref 0), (1, .int x)]) (st' := [.int 0]) (μ' := μ) (by rfl) ?_
    exact hr 0 32 _ _ _ (some (.int 0)) (by decide +kernel) (z_rx_ok hH (by rfl)) (⟨rfl, (by simp only [h1, lb_f, Int64.or_zero, Int32.add_zero, nB_t, nB_f, Bool.not_true, Bool.not_false, Bool.and_true, Bool.true_and, Bool.false_and, Bool.and_false, Bool.or_true, Bool.true_or, Bool.false_or, Bool.or_false, cond_true, cond_false])⟩)
  · have h1 : (decide ((fr μ (20 + 8 * t) x) = 0)) = false := decide_eq_false (cn_eq.mp h1)
    refine z_rcs hc hH 1 (pc' := 21) (lv' := [(2, .ref (18 + 8 * t)), (0, .ref 0), (1, .int x)]) (st' := [.ref 0]) (μ' := μ) (by rfl) ?_
    refine zq_gfl hc hH (by rfl) (ci := 5) (f := 18) (by rfl) (by decide +kernel) (by rfl) ?_
    refine z_rcs hc hH 1 (pc' := 25) (lv' := [(2, .ref (18 + 8 * t)), (0, .ref 0), (1, .int x)]) (st' := [.int x, .long (μ.2.1 0 18)]) (μ' := μ) (by rfl) ?_
    refine zq_call hc (z_cx_ok hH (by rfl)) (fb_X6_holds d' (by omega) μ (μ.2.1 0 18) x) (by decide +kernel) (fun r9 μ9 hq => ?_)
    obtain ⟨hμ9, rfl⟩ := hq
    rw [hμ9]
    clear hμ9 μ9
    show Z 0 28 [(2, .ref (18 + 8 * t)), (0, .ref 0), (1, .int x)] [.int (nB (xHd (μ.2.1 0 18) x))] μ
    generalize hee2 : (xHd (μ.2.1 0 18) x) = ee2
    refine zq_if hc hH (by rfl) (tg := 33) (by rfl) (fun h3 => ?_) (fun h3 => ?_)
    · have h3 : (ee2) = false := nB_z.mp (cm_eq9.mp h3)
      refine z_rcs hc hH 1 (pc' := 34) (lv' := [(2, .ref (18 + 8 * t)), (0, .ref 0), (1, .int x)]) (st' := [.ref (18 + 8 * t)]) (μ' := μ) (by rfl) ?_
      refine zq_gfi hc hH (by rfl) (ci := 1) (f := 5) (by rfl) (sj (P := fun i => okf 79 1 5 (18 + 8 * i)) ht4 (by decide +kernel)) (by rfl) ?_
      have hJ4 : Z 0 53 [(2, .ref (18 + 8 * t)), (0, .ref 0), (1, .int x)] [.int (nB ((decide ((μ.1 (18 + 8 * t) 5) = 0)) || (decide (x = (μ.1 0 15)))))] μ := by
        exact hr 0 53 _ _ _ (some (.int (nB ((decide ((μ.1 (18 + 8 * t) 5) = 0)) || (decide (x = (μ.1 0 15))))))) (by decide +kernel) ((fun b : Bool => (by cases b <;> rfl : z_rn mi_X6_mayThrow 53 [.int (nB b)] = some (some (.int (nB b))))) ((decide ((μ.1 (18 + 8 * t) 5) = 0)) || (decide (x = (μ.1 0 15))))) (⟨rfl, (by try rw [hee2]; simp only [h1, h3, lb_f, Int64.or_zero, Int32.add_zero, nB_t, nB_f, Bool.not_true, Bool.not_false, Bool.and_true, Bool.true_and, Bool.false_and, Bool.and_false, Bool.or_true, Bool.true_or, Bool.false_or, Bool.or_false, cond_true, cond_false])⟩)
      refine zq_if hc hH (by rfl) (tg := 48) (by rfl) (fun h5 => ?_) (fun h5 => ?_)
      · have h5 : (decide ((μ.1 (18 + 8 * t) 5) = 0)) = true := decide_eq_true (cm_eq9.mp h5)
        refine z_rcs hc hH 2 (pc' := 53) (lv' := [(2, .ref (18 + 8 * t)), (0, .ref 0), (1, .int x)]) (st' := [.int 1]) (μ' := μ) (by rfl) ?_
        exact zJ hJ4 rfl (by first | with_reducible rfl | (simp only [h5, lb_f, Int64.or_zero, Int32.add_zero, nB_t, nB_f, Bool.not_true, Bool.not_false, Bool.and_true, Bool.true_and, Bool.false_and, Bool.and_false, Bool.or_true, Bool.true_or, Bool.false_or, Bool.or_false, cond_true, cond_false]; done) | rfl) rfl
      · have h5 : (decide ((μ.1 (18 + 8 * t) 5) = 0)) = false := decide_eq_false (cn_eq.mp h5)
        refine z_rcs hc hH 2 (pc' := 42) (lv' := [(2, .ref (18 + 8 * t)), (0, .ref 0), (1, .int x)]) (st' := [.ref 0, .int x]) (μ' := μ) (by rfl) ?_
        refine zq_gfi hc hH (by rfl) (ci := 5) (f := 15) (by rfl) (by decide +kernel) (by rfl) ?_
        refine zq_ic hc hH (by rfl) (tg := 52) (by rfl) (fun h6 => ?_) (fun h6 => ?_)
        · have h6 : (decide (x = (μ.1 0 15))) = false := decide_eq_false (cm_ne.mp h6)
          refine z_rcs hc hH 1 (pc' := 53) (lv' := [(2, .ref (18 + 8 * t)), (0, .ref 0), (1, .int x)]) (st' := [.int 0]) (μ' := μ) (by rfl) ?_
          exact zJ hJ4 rfl (by first | with_reducible rfl | (simp only [h5, h6, lb_f, Int64.or_zero, Int32.add_zero, nB_t, nB_f, Bool.not_true, Bool.not_false, Bool.and_true, Bool.true_and, Bool.false_and, Bool.and_false, Bool.or_true, Bool.true_or, Bool.false_or, Bool.or_false, cond_true, cond_false]; done) | rfl) rfl
        · have h6 : (decide (x = (μ.1 0 15))) = true := decide_eq_true (cn_ne.mp h6)
          refine z_rcs hc hH 2 (pc' := 53) (lv' := [(2, .ref (18 + 8 * t)), (0, .ref 0), (1, .int x)]) (st' := [.int 1]) (μ' := μ) (by rfl) ?_
          exact zJ hJ4 rfl (by first | with_reducible rfl | (simp only [h5, h6, lb_f, Int64.or_zero, Int32.add_zero, nB_t, nB_f, Bool.not_true, Bool.not_false, Bool.and_true, Bool.true_and, Bool.false_and, Bool.and_false, Bool.or_true, Bool.true_or, Bool.false_or, Bool.or_false, cond_true, cond_false]; done) | rfl) rfl
    · have h3 : (ee2) = true := nB_n.mp (cn_eq.mp h3)
      refine z_rcs hc hH 1 (pc' := 32) (lv' := [(2, .ref (18 + 8 * t)), (0, .ref 0), (1, .int x)]) (st' := [.int 0]) (μ' := μ) (by rfl) ?_
      exact hr 0 32 _ _ _ (some (.int 0)) (by decide +kernel) (z_rx_ok hH (by rfl)) (⟨rfl, (by try rw [hee2]; simp only [h1, h3, lb_f, Int64.or_zero, Int32.add_zero, nB_t, nB_f, Bool.not_true, Bool.not_false, Bool.and_true, Bool.true_and, Bool.false_and, Bool.and_false, Bool.or_true, Bool.true_or, Bool.false_or, Bool.or_false, cond_true, cond_false])⟩)
theorem gc_mayClaimSet (d : Nat) (hd : 3 ≤ d) (μ : zM) (s : Nat) (hs4 : s < 4) : z_C d mi_X6_mayClaimSet [.ref 0, .int (nI s)] μ (zR μ (.int (nB ((decide ((μ.1 0 7) = 2)) && ((sI (nI s)) && (!(decide ((nI s) = (μ.1 0 8))) && ((decide ((μ.1 (18 + 8 * s) 5) = 0)) && (!(decide ((xLf μ) ≤ 0)) && (!(xAny μ)))))))))) := by
  refine z_C_in (by decide) (by omega) (fun d' Z ed hc hr => ?_)
  have hH : zH mi_X6_mayClaimSet zt_X6_mayClaimSet 79 6 2 := hh_X6_mayClaimSet
  refine z_rcs hc hH 1 (pc' := 1) (lv' := [(0, .ref 0), (1, .int (nI s))]) (st' := [.ref 0]) (μ' := μ) (by rfl) ?_
  refine zq_gfi hc hH (by rfl) (ci := 5) (f := 7) (by rfl) (by decide +kernel) (by rfl) ?_
  refine z_rcs hc hH 1 (pc' := 5) (lv' := [(0, .ref 0), (1, .int (nI s))]) (st' := [.int 2, .int (μ.1 0 7)]) (μ' := μ) (by rfl) ?_
  have hJ1 : Z 0 56 [(0, .ref 0), (1, .int (nI s))] [.int (nB ((decide ((μ.1 0 7) = 2)) && ((sI (nI s)) && (!(decide ((nI s) = (μ.1 0 8))) && ((decide ((μ.1 (18 + 8 * s) 5) = 0)) && (!(decide ((xLf μ) ≤ 0)) && (!(xAny μ))))))))] μ := by
    generalize hee2 : ((decide ((μ.1 0 7) = 2)) && ((sI (nI s)) && (!(decide ((nI s) = (μ.1 0 8))) && ((decide ((μ.1 (18 + 8 * s) 5) = 0)) && (!(decide ((xLf μ) ≤ 0)) && (!(xAny μ))))))) = ee2
    exact hr 0 56 _ _ _ (some (.int (nB ee2))) (by decide +kernel) ((fun b : Bool => (by cases b <;> rfl : z_rn mi_X6_mayClaimSet 56 [.int (nB b)] = some (some (.int (nB b))))) ee2) (⟨rfl, (by subst hee2; rfl)⟩)
  refine zq_ic hc hH (by rfl) (tg := 55) (by rfl) (fun h3 => ?_) (fun h3 => ?_)
  · have h3 : (decide ((μ.1 0 7) = 2)) = false := decide_eq_false (cm_ne.mp h3)
    refine z_rcs hc hH 1 (pc' := 56) (lv' := [(0, .ref 0), (1, .int (nI s))]) (st' := [.int 0]) (μ' := μ) (by rfl) ?_
    exact zJ hJ1 rfl (by first | with_reducible rfl | (simp only [h3, lb_f, Int64.or_zero, Int32.add_zero, nB_t, nB_f, Bool.not_true, Bool.not_false, Bool.and_true, Bool.true_and, Bool.false_and, Bool.and_false, Bool.or_true, Bool.true_or, Bool.false_or, Bool.or_false, cond_true, cond_false]; done) | rfl) rfl
  · have h3 : (decide ((μ.1 0 7) = 2)) = true := decide_eq_true (cn_ne.mp h3)
    refine z_rcs hc hH 1 (pc' := 9) (lv' := [(0, .ref 0), (1, .int (nI s))]) (st' := [.int (nI s)]) (μ' := μ) (by rfl) ?_
    refine zq_call hc (z_cx_ok hH (by rfl)) (gc_isSeat d' (by omega) μ (nI s)) (by decide +kernel) (fun r9 μ9 hq => ?_)
    obtain ⟨hμ9, rfl⟩ := hq
    rw [hμ9]
    clear hμ9 μ9
    show Z 0 12 [(0, .ref 0), (1, .int (nI s))] [.int (nB (sI (nI s)))] μ
    refine zq_if hc hH (by rfl) (tg := 55) (by rfl) (fun h4 => ?_) (fun h4 => ?_)
    · have h4 : (sI (nI s)) = false := nB_z.mp (cm_eq9.mp h4)
      refine z_rcs hc hH 1 (pc' := 56) (lv' := [(0, .ref 0), (1, .int (nI s))]) (st' := [.int 0]) (μ' := μ) (by rfl) ?_
      exact zJ hJ1 rfl (by first | with_reducible rfl | (simp only [h3, h4, lb_f, Int64.or_zero, Int32.add_zero, nB_t, nB_f, Bool.not_true, Bool.not_false, Bool.and_true, Bool.true_and, Bool.false_and, Bool.and_false, Bool.or_true, Bool.true_or, Bool.false_or, Bool.or_false, cond_true, cond_false]; done) | rfl) rfl
    · have h4 : (sI (nI s)) = true := nB_n.mp (cn_eq.mp h4)
      refine z_rcs hc hH 2 (pc' := 17) (lv' := [(0, .ref 0), (1, .int (nI s))]) (st' := [.ref 0, .int (nI s)]) (μ' := μ) (by rfl) ?_
      refine zq_gfi hc hH (by rfl) (ci := 5) (f := 8) (by rfl) (by decide +kernel) (by rfl) ?_
      refine zq_ic hc hH (by rfl) (tg := 55) (by rfl) (fun h5 => ?_) (fun h5 => ?_)
      · have h5 : (decide ((nI s) = (μ.1 0 8))) = true := decide_eq_true (cm_eq9.mp h5)
        refine z_rcs hc hH 1 (pc' := 56) (lv' := [(0, .ref 0), (1, .int (nI s))]) (st' := [.int 0]) (μ' := μ) (by rfl) ?_
        exact zJ hJ1 rfl (by first | with_reducible rfl | (simp only [h3, h4, h5, lb_f, Int64.or_zero, Int32.add_zero, nB_t, nB_f, Bool.not_true, Bool.not_false, Bool.and_true, Bool.true_and, Bool.false_and, Bool.and_false, Bool.or_true, Bool.true_or, Bool.false_or, Bool.or_false, cond_true, cond_false]; done) | rfl) rfl
      · have h5 : (decide ((nI s) = (μ.1 0 8))) = false := decide_eq_false (cn_eq.mp h5)
        refine z_rcs hc hH 2 (pc' := 25) (lv' := [(0, .ref 0), (1, .int (nI s))]) (st' := [.int (nI s), .ref 0]) (μ' := μ) (by rfl) ?_
        refine zq_call hc (z_cx_ok hH (by rfl)) (gc_at4 d' (by omega) μ s hs4) (by decide +kernel) (fun r9 μ9 hq => ?_)
        obtain ⟨hμ9, rfl⟩ := hq
        rw [hμ9]
        clear hμ9 μ9
        show Z 0 28 [(0, .ref 0), (1, .int (nI s))] [.ref (18 + 8 * s)] μ
        refine zq_gfi hc hH (by rfl) (ci := 1) (f := 5) (by rfl) (sj (P := fun i => okf 79 1 5 (18 + 8 * i)) hs4 (by decide +kernel)) (by rfl) ?_
        refine zq_if hc hH (by rfl) (tg := 55) (by rfl) (fun h6 => ?_) (fun h6 => ?_)
        · have h6 : (decide ((μ.1 (18 + 8 * s) 5) = 0)) = false := decide_eq_false (cm_ne.mp h6)
          refine z_rcs hc hH 1 (pc' := 56) (lv' := [(0, .ref 0), (1, .int (nI s))]) (st' := [.int 0]) (μ' := μ) (by rfl) ?_
          exact zJ hJ1 rfl (by first | with_reducible rfl | (simp only [h3, h4, h5, h6, lb_f, Int64.or_zero, Int32.add_zero, nB_t, nB_f, Bool.not_true, Bool.not_false, Bool.and_true, Bool.true_and, Bool.false_and, Bool.and_false, Bool.or_true, Bool.true_or, Bool.false_or, Bool.or_false, cond_true, cond_false]; done) | rfl) rfl
        · have h6 : (decide ((μ.1 (18 + 8 * s) 5) = 0)) = true := decide_eq_true (cn_ne.mp h6)
          refine z_rcs hc hH 1 (pc' := 35) (lv' := [(0, .ref 0), (1, .int (nI s))]) (st' := [.ref 0]) (μ' := μ) (by rfl) ?_
          refine zq_gfr hc hH (by rfl) (ci := 5) (f := 1) (q := 2) (by rfl) (by decide +kernel) (by rfl) (by decide +kernel) ?_
          refine zq_call hc (z_cx_ok hH (by rfl)) (gc_left d' (by omega) μ) (by decide +kernel) (fun r9 μ9 hq => ?_)
          obtain ⟨hμ9, rfl⟩ := hq
          rw [hμ9]
          clear hμ9 μ9
          show Z 0 41 [(0, .ref 0), (1, .int (nI s))] [.int (xLf μ)] μ
          refine zq_if hc hH (by rfl) (tg := 55) (by rfl) (fun h7 => ?_) (fun h7 => ?_)
          · have h7 : (decide ((xLf μ) ≤ 0)) = true := decide_eq_true (cm_le.mp h7)
            refine z_rcs hc hH 1 (pc' := 56) (lv' := [(0, .ref 0), (1, .int (nI s))]) (st' := [.int 0]) (μ' := μ) (by rfl) ?_
            exact zJ hJ1 rfl (by first | with_reducible rfl | (simp only [h3, h4, h5, h6, h7, lb_f, Int64.or_zero, Int32.add_zero, nB_t, nB_f, Bool.not_true, Bool.not_false, Bool.and_true, Bool.true_and, Bool.false_and, Bool.and_false, Bool.or_true, Bool.true_or, Bool.false_or, Bool.or_false, cond_true, cond_false]; done) | rfl) rfl
          · have h7 : (decide ((xLf μ) ≤ 0)) = false := decide_eq_false (cn_le.mp h7)
            refine z_rcs hc hH 1 (pc' := 45) (lv' := [(0, .ref 0), (1, .int (nI s))]) (st' := [.ref 0]) (μ' := μ) (by rfl) ?_
            refine zq_call hc (z_cx_ok hH (by rfl)) (gc_someoneSays d' (by omega) μ) (by decide +kernel) (fun r9 μ9 hq => ?_)
            obtain ⟨hμ9, rfl⟩ := hq
            rw [hμ9]
            clear hμ9 μ9
            show Z 0 48 [(0, .ref 0), (1, .int (nI s))] [.int (nB (xAny μ))] μ
            refine zq_if hc hH (by rfl) (tg := 55) (by rfl) (fun h8 => ?_) (fun h8 => ?_)
            · have h8 : (xAny μ) = true := nB_n.mp (cm_ne.mp h8)
              refine z_rcs hc hH 1 (pc' := 56) (lv' := [(0, .ref 0), (1, .int (nI s))]) (st' := [.int 0]) (μ' := μ) (by rfl) ?_
              exact zJ hJ1 rfl (by first | with_reducible rfl | (simp only [h3, h4, h5, h6, h7, h8, lb_f, Int64.or_zero, Int32.add_zero, nB_t, nB_f, Bool.not_true, Bool.not_false, Bool.and_true, Bool.true_and, Bool.false_and, Bool.and_false, Bool.or_true, Bool.true_or, Bool.false_or, Bool.or_false, cond_true, cond_false]; done) | rfl) rfl
            · have h8 : (xAny μ) = false := nB_z.mp (cn_ne.mp h8)
              refine z_rcs hc hH 2 (pc' := 56) (lv' := [(0, .ref 0), (1, .int (nI s))]) (st' := [.int 1]) (μ' := μ) (by rfl) ?_
              exact zJ hJ1 rfl (by first | with_reducible rfl | (simp only [h3, h4, h5, h6, h7, h8, lb_f, Int64.or_zero, Int32.add_zero, nB_t, nB_f, Bool.not_true, Bool.not_false, Bool.and_true, Bool.true_and, Bool.false_and, Bool.and_false, Bool.or_true, Bool.true_or, Bool.false_or, Bool.or_false, cond_true, cond_false]; done) | rfl) rfl
theorem gc_otherEnd (d : Nat) (hd : 2 ≤ d) (μ : zM) (x : Int32) : z_C d mi_X6_otherEnd [.ref 0, .int x] μ (zR μ (.long (bif decide ((μ.1 0 15) = x) then bif srB (x + 1) then 1 <<< ((x + 3).toInt64 &&& 63) else bif decide ((μ.1 0 15) = (x + 2)) then bif decide (x ≤ 0) then (0 : Int64) else bif srB (x - 1) then 1 <<< ((x - 1).toInt64 &&& 63) else 0 else 0 else bif decide ((μ.1 0 15) = (x + 2)) then bif decide (x ≤ 0) then (0 : Int64) else bif srB (x - 1) then 1 <<< ((x - 1).toInt64 &&& 63) else 0 else 0))) := by
  refine z_C_in (by decide) (by omega) (fun d' Z ed hc hr => ?_)
  have hH : zH mi_X6_otherEnd zt_X6_otherEnd 79 6 2 := hh_X6_otherEnd
  refine z_rcs hc hH 1 (pc' := 1) (lv' := [(0, .ref 0), (1, .int x)]) (st' := [.ref 0]) (μ' := μ) (by rfl) ?_
  refine zq_gfi hc hH (by rfl) (ci := 5) (f := 15) (by rfl) (by decide +kernel) (by rfl) ?_
  refine z_rcs hc hH 1 (pc' := 5) (lv' := [(0, .ref 0), (1, .int x)]) (st' := [.int x, .int (μ.1 0 15)]) (μ' := μ) (by rfl) ?_
  refine zq_ic hc hH (by rfl) (tg := 23) (by rfl) (fun h1 => ?_) (fun h1 => ?_)
  · have h1 : (decide ((μ.1 0 15) = x)) = false := decide_eq_false (cm_ne.mp h1)
    refine z_rcs hc hH 1 (pc' := 24) (lv' := [(0, .ref 0), (1, .int x)]) (st' := [.ref 0]) (μ' := μ) (by rfl) ?_
    refine zq_gfi hc hH (by rfl) (ci := 5) (f := 15) (by rfl) (by decide +kernel) (by rfl) ?_
    refine z_rcs hc hH 3 (pc' := 30) (lv' := [(0, .ref 0), (1, .int x)]) (st' := [.int (x + 2), .int (μ.1 0 15)]) (μ' := μ) (by rfl) ?_
    refine zq_ic hc hH (by rfl) (tg := 52) (by rfl) (fun h2 => ?_) (fun h2 => ?_)
    · have h2 : (decide ((μ.1 0 15) = (x + 2))) = false := decide_eq_false (cm_ne.mp h2)
      refine z_rcs hc hH 1 (pc' := 53) (lv' := [(0, .ref 0), (1, .int x)]) (st' := [.long 0]) (μ' := μ) (by rfl) ?_
      exact hr 0 53 _ _ _ (some (.long 0)) (by decide +kernel) (z_rx_ok hH (by rfl)) (⟨rfl, (by simp only [h1, h2, lb_f, Int64.or_zero, Int32.add_zero, nB_t, nB_f, Bool.not_true, Bool.not_false, Bool.and_true, Bool.true_and, Bool.false_and, Bool.and_false, Bool.or_true, Bool.true_or, Bool.false_or, Bool.or_false, cond_true, cond_false])⟩)
    · have h2 : (decide ((μ.1 0 15) = (x + 2))) = true := decide_eq_true (cn_ne.mp h2)
      refine z_rcs hc hH 1 (pc' := 34) (lv' := [(0, .ref 0), (1, .int x)]) (st' := [.int x]) (μ' := μ) (by rfl) ?_
      refine zq_if hc hH (by rfl) (tg := 52) (by rfl) (fun h3 => ?_) (fun h3 => ?_)
      · have h3 : (decide (x ≤ 0)) = true := decide_eq_true (cm_le.mp h3)
        refine z_rcs hc hH 1 (pc' := 53) (lv' := [(0, .ref 0), (1, .int x)]) (st' := [.long 0]) (μ' := μ) (by rfl) ?_
        exact hr 0 53 _ _ _ (some (.long 0)) (by decide +kernel) (z_rx_ok hH (by rfl)) (⟨rfl, (by simp only [h1, h2, h3, lb_f, Int64.or_zero, Int32.add_zero, nB_t, nB_f, Bool.not_true, Bool.not_false, Bool.and_true, Bool.true_and, Bool.false_and, Bool.and_false, Bool.or_true, Bool.true_or, Bool.false_or, Bool.or_false, cond_true, cond_false])⟩)
      · have h3 : (decide (x ≤ 0)) = false := decide_eq_false (cn_le.mp h3)
        refine z_rcs hc hH 3 (pc' := 40) (lv' := [(0, .ref 0), (1, .int x)]) (st' := [.int (x - 1)]) (μ' := μ) (by rfl) ?_
        refine zq_call hc (z_cx_ok hH (by rfl)) (gc_startsRun d' (by omega) μ (x - 1)) (by decide +kernel) (fun r9 μ9 hq => ?_)
        obtain ⟨hμ9, rfl⟩ := hq
        rw [hμ9]
        clear hμ9 μ9
        show Z 0 43 [(0, .ref 0), (1, .int x)] [.int (nB (srB (x - 1)))] μ
        generalize hee4 : (srB (x - 1)) = ee4
        refine zq_if hc hH (by rfl) (tg := 52) (by rfl) (fun h5 => ?_) (fun h5 => ?_)
        · have h5 : (ee4) = false := nB_z.mp (cm_eq9.mp h5)
          refine z_rcs hc hH 1 (pc' := 53) (lv' := [(0, .ref 0), (1, .int x)]) (st' := [.long 0]) (μ' := μ) (by rfl) ?_
          exact hr 0 53 _ _ _ (some (.long 0)) (by decide +kernel) (z_rx_ok hH (by rfl)) (⟨rfl, (by try rw [hee4]; simp only [h1, h2, h3, h5, lb_f, Int64.or_zero, Int32.add_zero, nB_t, nB_f, Bool.not_true, Bool.not_false, Bool.and_true, Bool.true_and, Bool.false_and, Bool.and_false, Bool.or_true, Bool.true_or, Bool.false_or, Bool.or_false, cond_true, cond_false])⟩)
        · have h5 : (ee4) = true := nB_n.mp (cn_eq.mp h5)
          refine z_rcs hc hH 5 (pc' := 51) (lv' := [(0, .ref 0), (1, .int x)]) (st' := [.long (1 <<< ((x - 1).toInt64 &&& 63))]) (μ' := μ) (by rfl) ?_
          exact hr 0 51 _ _ _ (some (.long (1 <<< ((x - 1).toInt64 &&& 63)))) (by decide +kernel) (z_rx_ok hH (by rfl)) (⟨rfl, (by try rw [hee4]; simp only [h1, h2, h3, h5, lb_f, Int64.or_zero, Int32.add_zero, nB_t, nB_f, Bool.not_true, Bool.not_false, Bool.and_true, Bool.true_and, Bool.false_and, Bool.and_false, Bool.or_true, Bool.true_or, Bool.false_or, Bool.or_false, cond_true, cond_false])⟩)
  · have h1 : (decide ((μ.1 0 15) = x)) = true := decide_eq_true (cn_ne.mp h1)
    refine z_rcs hc hH 3 (pc' := 11) (lv' := [(0, .ref 0), (1, .int x)]) (st' := [.int (x + 1)]) (μ' := μ) (by rfl) ?_
    refine zq_call hc (z_cx_ok hH (by rfl)) (gc_startsRun d' (by omega) μ (x + 1)) (by decide +kernel) (fun r9 μ9 hq => ?_)
    obtain ⟨hμ9, rfl⟩ := hq
    rw [hμ9]
    clear hμ9 μ9
    show Z 0 14 [(0, .ref 0), (1, .int x)] [.int (nB (srB (x + 1)))] μ
    generalize hee6 : (srB (x + 1)) = ee6
    refine zq_if hc hH (by rfl) (tg := 23) (by rfl) (fun h7 => ?_) (fun h7 => ?_)
    · have h7 : (ee6) = false := nB_z.mp (cm_eq9.mp h7)
      refine z_rcs hc hH 1 (pc' := 24) (lv' := [(0, .ref 0), (1, .int x)]) (st' := [.ref 0]) (μ' := μ) (by rfl) ?_
      refine zq_gfi hc hH (by rfl) (ci := 5) (f := 15) (by rfl) (by decide +kernel) (by rfl) ?_
      refine z_rcs hc hH 3 (pc' := 30) (lv' := [(0, .ref 0), (1, .int x)]) (st' := [.int (x + 2), .int (μ.1 0 15)]) (μ' := μ) (by rfl) ?_
      refine zq_ic hc hH (by rfl) (tg := 52) (by rfl) (fun h8 => ?_) (fun h8 => ?_)
      · have h8 : (decide ((μ.1 0 15) = (x + 2))) = false := decide_eq_false (cm_ne.mp h8)
        refine z_rcs hc hH 1 (pc' := 53) (lv' := [(0, .ref 0), (1, .int x)]) (st' := [.long 0]) (μ' := μ) (by rfl) ?_
        exact hr 0 53 _ _ _ (some (.long 0)) (by decide +kernel) (z_rx_ok hH (by rfl)) (⟨rfl, (by try rw [hee6]; simp only [h1, h7, h8, lb_f, Int64.or_zero, Int32.add_zero, nB_t, nB_f, Bool.not_true, Bool.not_false, Bool.and_true, Bool.true_and, Bool.false_and, Bool.and_false, Bool.or_true, Bool.true_or, Bool.false_or, Bool.or_false, cond_true, cond_false])⟩)
      · have h8 : (decide ((μ.1 0 15) = (x + 2))) = true := decide_eq_true (cn_ne.mp h8)
        refine z_rcs hc hH 1 (pc' := 34) (lv' := [(0, .ref 0), (1, .int x)]) (st' := [.int x]) (μ' := μ) (by rfl) ?_
        refine zq_if hc hH (by rfl) (tg := 52) (by rfl) (fun h9 => ?_) (fun h9 => ?_)
        · have h9 : (decide (x ≤ 0)) = true := decide_eq_true (cm_le.mp h9)
          refine z_rcs hc hH 1 (pc' := 53) (lv' := [(0, .ref 0), (1, .int x)]) (st' := [.long 0]) (μ' := μ) (by rfl) ?_
          exact hr 0 53 _ _ _ (some (.long 0)) (by decide +kernel) (z_rx_ok hH (by rfl)) (⟨rfl, (by try rw [hee6]; simp only [h1, h7, h8, h9, lb_f, Int64.or_zero, Int32.add_zero, nB_t, nB_f, Bool.not_true, Bool.not_false, Bool.and_true, Bool.true_and, Bool.false_and, Bool.and_false, Bool.or_true, Bool.true_or, Bool.false_or, Bool.or_false, cond_true, cond_false])⟩)
        · have h9 : (decide (x ≤ 0)) = false := decide_eq_false (cn_le.mp h9)
          refine z_rcs hc hH 3 (pc' := 40) (lv' := [(0, .ref 0), (1, .int x)]) (st' := [.int (x - 1)]) (μ' := μ) (by rfl) ?_
          refine zq_call hc (z_cx_ok hH (by rfl)) (gc_startsRun d' (by omega) μ (x - 1)) (by decide +kernel) (fun r9 μ9 hq => ?_)
          obtain ⟨hμ9, rfl⟩ := hq
          rw [hμ9]
          clear hμ9 μ9
          show Z 0 43 [(0, .ref 0), (1, .int x)] [.int (nB (srB (x - 1)))] μ
          generalize hee10 : (srB (x - 1)) = ee10
          refine zq_if hc hH (by rfl) (tg := 52) (by rfl) (fun h11 => ?_) (fun h11 => ?_)
          · have h11 : (ee10) = false := nB_z.mp (cm_eq9.mp h11)
            refine z_rcs hc hH 1 (pc' := 53) (lv' := [(0, .ref 0), (1, .int x)]) (st' := [.long 0]) (μ' := μ) (by rfl) ?_
            exact hr 0 53 _ _ _ (some (.long 0)) (by decide +kernel) (z_rx_ok hH (by rfl)) (⟨rfl, (by try rw [hee6]; try rw [hee10]; simp only [h1, h7, h8, h9, h11, lb_f, Int64.or_zero, Int32.add_zero, nB_t, nB_f, Bool.not_true, Bool.not_false, Bool.and_true, Bool.true_and, Bool.false_and, Bool.and_false, Bool.or_true, Bool.true_or, Bool.false_or, Bool.or_false, cond_true, cond_false])⟩)
          · have h11 : (ee10) = true := nB_n.mp (cn_eq.mp h11)
            refine z_rcs hc hH 5 (pc' := 51) (lv' := [(0, .ref 0), (1, .int x)]) (st' := [.long (1 <<< ((x - 1).toInt64 &&& 63))]) (μ' := μ) (by rfl) ?_
            exact hr 0 51 _ _ _ (some (.long (1 <<< ((x - 1).toInt64 &&& 63)))) (by decide +kernel) (z_rx_ok hH (by rfl)) (⟨rfl, (by try rw [hee6]; try rw [hee10]; simp only [h1, h7, h8, h9, h11, lb_f, Int64.or_zero, Int32.add_zero, nB_t, nB_f, Bool.not_true, Bool.not_false, Bool.and_true, Bool.true_and, Bool.false_and, Bool.and_false, Bool.or_true, Bool.true_or, Bool.false_or, Bool.or_false, cond_true, cond_false])⟩)
    · have h7 : (ee6) = true := nB_n.mp (cn_eq.mp h7)
      refine z_rcs hc hH 5 (pc' := 22) (lv' := [(0, .ref 0), (1, .int x)]) (st' := [.long (1 <<< ((x + 3).toInt64 &&& 63))]) (μ' := μ) (by rfl) ?_
      exact hr 0 22 _ _ _ (some (.long (1 <<< ((x + 3).toInt64 &&& 63)))) (by decide +kernel) (z_rx_ok hH (by rfl)) (⟨rfl, (by try rw [hee6]; simp only [h1, h7, lb_f, Int64.or_zero, Int32.add_zero, nB_t, nB_f, Bool.not_true, Bool.not_false, Bool.and_true, Bool.true_and, Bool.false_and, Bool.and_false, Bool.or_true, Bool.true_or, Bool.false_or, Bool.or_false, cond_true, cond_false])⟩)
theorem gc_toldForms (d : Nat) (hd : 3 ≤ d) (μ : zM) (s : Nat) (hs4 : s < 4) (dr : Bool) : z_C d mi_X6_toldForms [.ref 0, .ref (18 + 8 * s), .int (nB dr)] μ (zR μ (.long (bif decide ((xLf μ) = 0) then bif dr then (bif decide ((xLf μ) = 0) then ((bif dr then (((0 ||| (bif decide ((μ.1 (18 + 8 * s) 5) = 1) then (1 : Int64) else 0)) ||| (bif decide ((μ.1 (18 + 8 * s) 5) = 2) then (2 : Int64) else 0)) ||| (bif decide ((μ.1 (18 + 8 * s) 7) = 0) then (0 : Int64) else 4)) ||| (bif decide ((μ.1 0 16) = 0) then (0 : Int64) else 64) else ((0 ||| (bif decide ((μ.1 (18 + 8 * s) 5) = 1) then (1 : Int64) else 0)) ||| (bif decide ((μ.1 (18 + 8 * s) 5) = 2) then (2 : Int64) else 0)) ||| (bif decide ((μ.1 (18 + 8 * s) 7) = 0) then (0 : Int64) else 4)) ||| (bif decide ((μ.1 0 7) = 3) then (128 : Int64) else 0)) ||| (bif decide ((μ.1 0 7) = 2) then (32 : Int64) else 0) else (bif dr then (((0 ||| (bif decide ((μ.1 (18 + 8 * s) 5) = 1) then (1 : Int64) else 0)) ||| (bif decide ((μ.1 (18 + 8 * s) 5) = 2) then (2 : Int64) else 0)) ||| (bif decide ((μ.1 (18 + 8 * s) 7) = 0) then (0 : Int64) else 4)) ||| (bif decide ((μ.1 0 16) = 0) then (0 : Int64) else 64) else ((0 ||| (bif decide ((μ.1 (18 + 8 * s) 5) = 1) then (1 : Int64) else 0)) ||| (bif decide ((μ.1 (18 + 8 * s) 5) = 2) then (2 : Int64) else 0)) ||| (bif decide ((μ.1 (18 + 8 * s) 7) = 0) then (0 : Int64) else 4)) ||| (bif decide ((μ.1 0 7) = 3) then (128 : Int64) else 0)) ||| (bif decide ((μ.1 0 16) = 0) then (16 : Int64) else 0) else bif decide ((xLf μ) = 0) then ((bif dr then (((0 ||| (bif decide ((μ.1 (18 + 8 * s) 5) = 1) then (1 : Int64) else 0)) ||| (bif decide ((μ.1 (18 + 8 * s) 5) = 2) then (2 : Int64) else 0)) ||| (bif decide ((μ.1 (18 + 8 * s) 7) = 0) then (0 : Int64) else 4)) ||| (bif decide ((μ.1 0 16) = 0) then (0 : Int64) else 64) else ((0 ||| (bif decide ((μ.1 (18 + 8 * s) 5) = 1) then (1 : Int64) else 0)) ||| (bif decide ((μ.1 (18 + 8 * s) 5) = 2) then (2 : Int64) else 0)) ||| (bif decide ((μ.1 (18 + 8 * s) 7) = 0) then (0 : Int64) else 4)) ||| (bif decide ((μ.1 0 7) = 3) then (128 : Int64) else 0)) ||| (bif decide ((μ.1 0 7) = 2) then (32 : Int64) else 0) else (bif dr then (((0 ||| (bif decide ((μ.1 (18 + 8 * s) 5) = 1) then (1 : Int64) else 0)) ||| (bif decide ((μ.1 (18 + 8 * s) 5) = 2) then (2 : Int64) else 0)) ||| (bif decide ((μ.1 (18 + 8 * s) 7) = 0) then (0 : Int64) else 4)) ||| (bif decide ((μ.1 0 16) = 0) then (0 : Int64) else 64) else ((0 ||| (bif decide ((μ.1 (18 + 8 * s) 5) = 1) then (1 : Int64) else 0)) ||| (bif decide ((μ.1 (18 + 8 * s) 5) = 2) then (2 : Int64) else 0)) ||| (bif decide ((μ.1 (18 + 8 * s) 7) = 0) then (0 : Int64) else 4)) ||| (bif decide ((μ.1 0 7) = 3) then (128 : Int64) else 0) else bif decide ((xLf μ) = 0) then ((bif dr then (((0 ||| (bif decide ((μ.1 (18 + 8 * s) 5) = 1) then (1 : Int64) else 0)) ||| (bif decide ((μ.1 (18 + 8 * s) 5) = 2) then (2 : Int64) else 0)) ||| (bif decide ((μ.1 (18 + 8 * s) 7) = 0) then (0 : Int64) else 4)) ||| (bif decide ((μ.1 0 16) = 0) then (0 : Int64) else 64) else ((0 ||| (bif decide ((μ.1 (18 + 8 * s) 5) = 1) then (1 : Int64) else 0)) ||| (bif decide ((μ.1 (18 + 8 * s) 5) = 2) then (2 : Int64) else 0)) ||| (bif decide ((μ.1 (18 + 8 * s) 7) = 0) then (0 : Int64) else 4)) ||| (bif decide ((μ.1 0 7) = 3) then (128 : Int64) else 0)) ||| (bif decide ((μ.1 0 7) = 2) then (32 : Int64) else 0) else (bif dr then (((0 ||| (bif decide ((μ.1 (18 + 8 * s) 5) = 1) then (1 : Int64) else 0)) ||| (bif decide ((μ.1 (18 + 8 * s) 5) = 2) then (2 : Int64) else 0)) ||| (bif decide ((μ.1 (18 + 8 * s) 7) = 0) then (0 : Int64) else 4)) ||| (bif decide ((μ.1 0 16) = 0) then (0 : Int64) else 64) else ((0 ||| (bif decide ((μ.1 (18 + 8 * s) 5) = 1) then (1 : Int64) else 0)) ||| (bif decide ((μ.1 (18 + 8 * s) 5) = 2) then (2 : Int64) else 0)) ||| (bif decide ((μ.1 (18 + 8 * s) 7) = 0) then (0 : Int64) else 4)) ||| (bif decide ((μ.1 0 7) = 3) then (128 : Int64) else 0)))) := by
  refine z_C_in (by decide) (by omega) (fun d' Z ed hc hr => ?_)
  have hH : zH mi_X6_toldForms zt_X6_toldForms 79 6 5 := hh_X6_toldForms
  refine z_rcs hc hH 3 (pc' := 3) (lv' := [(3, .long 0), (0, .ref 0), (1, .ref (18 + 8 * s)), (2, .int (nB dr))]) (st' := [.ref (18 + 8 * s)]) (μ' := μ) (by rfl) ?_
  refine zq_gfi hc hH (by rfl) (ci := 1) (f := 5) (by rfl) (sj (P := fun i => okf 79 1 5 (18 + 8 * i)) hs4 (by decide +kernel)) (by rfl) ?_
  refine z_rcs hc hH 1 (pc' := 7) (lv' := [(3, .long 0), (0, .ref 0), (1, .ref (18 + 8 * s)), (2, .int (nB dr))]) (st' := [.int 1, .int (μ.1 (18 + 8 * s) 5)]) (μ' := μ) (by rfl) ?_
  have hJ1 : Z 0 14 [(3, .long (0 ||| (bif decide ((μ.1 (18 + 8 * s) 5) = 1) then (1 : Int64) else 0))), (0, .ref 0), (1, .ref (18 + 8 * s)), (2, .int (nB dr))] [] μ := by
    refine z_rcs hc hH 1 (pc' := 15) (lv' := [(3, .long (0 ||| (bif decide ((μ.1 (18 + 8 * s) 5) = 1) then (1 : Int64) else 0))), (0, .ref 0), (1, .ref (18 + 8 * s)), (2, .int (nB dr))]) (st' := [.ref (18 + 8 * s)]) (μ' := μ) (by rfl) ?_
    refine zq_gfi hc hH (by rfl) (ci := 1) (f := 5) (by rfl) (sj (P := fun i => okf 79 1 5 (18 + 8 * i)) hs4 (by decide +kernel)) (by rfl) ?_
    refine z_rcs hc hH 1 (pc' := 19) (lv' := [(3, .long (0 ||| (bif decide ((μ.1 (18 + 8 * s) 5) = 1) then (1 : Int64) else 0))), (0, .ref 0), (1, .ref (18 + 8 * s)), (2, .int (nB dr))]) (st' := [.int 2, .int (μ.1 (18 + 8 * s) 5)]) (μ' := μ) (by rfl) ?_
    have hJ2 : Z 0 28 [(3, .long ((0 ||| (bif decide ((μ.1 (18 + 8 * s) 5) = 1) then (1 : Int64) else 0)) ||| (bif decide ((μ.1 (18 + 8 * s) 5) = 2) then (2 : Int64) else 0))), (0, .ref 0), (1, .ref (18 + 8 * s)), (2, .int (nB dr))] [] μ := by
      generalize hyy3 : ((0 ||| (bif decide ((μ.1 (18 + 8 * s) 5) = 1) then (1 : Int64) else 0)) ||| (bif decide ((μ.1 (18 + 8 * s) 5) = 2) then (2 : Int64) else 0) : Int64) = yy3
      refine z_rcs hc hH 1 (pc' := 29) (lv' := [(3, .long yy3), (0, .ref 0), (1, .ref (18 + 8 * s)), (2, .int (nB dr))]) (st' := [.ref (18 + 8 * s)]) (μ' := μ) (by rfl) ?_
      refine zq_gfi hc hH (by rfl) (ci := 1) (f := 7) (by rfl) (sj (P := fun i => okf 79 1 7 (18 + 8 * i)) hs4 (by decide +kernel)) (by rfl) ?_
      have hJ4 : Z 0 41 [(3, .long (yy3 ||| (bif decide ((μ.1 (18 + 8 * s) 7) = 0) then (0 : Int64) else 4))), (0, .ref 0), (1, .ref (18 + 8 * s)), (2, .int (nB dr))] [] μ := by
        generalize hyy5 : (yy3 ||| (bif decide ((μ.1 (18 + 8 * s) 7) = 0) then (0 : Int64) else 4) : Int64) = yy5
        refine z_rcs hc hH 1 (pc' := 42) (lv' := [(3, .long yy5), (0, .ref 0), (1, .ref (18 + 8 * s)), (2, .int (nB dr))]) (st' := [.int (nB dr)]) (μ' := μ) (by rfl) ?_
        have hJ6 : Z 0 58 [(3, .long (bif dr then yy5 ||| (bif decide ((μ.1 0 16) = 0) then (0 : Int64) else 64) else yy5)), (0, .ref 0), (1, .ref (18 + 8 * s)), (2, .int (nB dr))] [] μ := by
          generalize hyy7 : (bif dr then yy5 ||| (bif decide ((μ.1 0 16) = 0) then (0 : Int64) else 64) else yy5 : Int64) = yy7
          refine z_rcs hc hH 1 (pc' := 59) (lv' := [(3, .long yy7), (0, .ref 0), (1, .ref (18 + 8 * s)), (2, .int (nB dr))]) (st' := [.ref 0]) (μ' := μ) (by rfl) ?_
          refine zq_gfi hc hH (by rfl) (ci := 5) (f := 7) (by rfl) (by decide +kernel) (by rfl) ?_
          refine z_rcs hc hH 1 (pc' := 63) (lv' := [(3, .long yy7), (0, .ref 0), (1, .ref (18 + 8 * s)), (2, .int (nB dr))]) (st' := [.int 3, .int (μ.1 0 7)]) (μ' := μ) (by rfl) ?_
          have hJ8 : Z 0 72 [(3, .long (yy7 ||| (bif decide ((μ.1 0 7) = 3) then (128 : Int64) else 0))), (0, .ref 0), (1, .ref (18 + 8 * s)), (2, .int (nB dr))] [] μ := by
            refine z_rcs hc hH 1 (pc' := 73) (lv' := [(3, .long (yy7 ||| (bif decide ((μ.1 0 7) = 3) then (128 : Int64) else 0))), (0, .ref 0), (1, .ref (18 + 8 * s)), (2, .int (nB dr))]) (st' := [.ref 0]) (μ' := μ) (by rfl) ?_
            refine zq_gfr hc hH (by rfl) (ci := 5) (f := 1) (q := 2) (by rfl) (by decide +kernel) (by rfl) (by decide +kernel) ?_
            refine zq_call hc (z_cx_ok hH (by rfl)) (gc_left d' (by omega) μ) (by decide +kernel) (fun r9 μ9 hq => ?_)
            obtain ⟨hμ9, rfl⟩ := hq
            rw [hμ9]
            clear hμ9 μ9
            show Z 0 79 [(3, .long (yy7 ||| (bif decide ((μ.1 0 7) = 3) then (128 : Int64) else 0))), (0, .ref 0), (1, .ref (18 + 8 * s)), (2, .int (nB dr))] [.int (xLf μ)] μ
            have hJ9 : Z 0 96 [(3, .long (bif decide ((xLf μ) = 0) then (yy7 ||| (bif decide ((μ.1 0 7) = 3) then (128 : Int64) else 0)) ||| (bif decide ((μ.1 0 7) = 2) then (32 : Int64) else 0) else yy7 ||| (bif decide ((μ.1 0 7) = 3) then (128 : Int64) else 0))), (0, .ref 0), (1, .ref (18 + 8 * s)), (2, .int (nB dr))] [] μ := by
              generalize hyy10 : (bif decide ((xLf μ) = 0) then (yy7 ||| (bif decide ((μ.1 0 7) = 3) then (128 : Int64) else 0)) ||| (bif decide ((μ.1 0 7) = 2) then (32 : Int64) else 0) else yy7 ||| (bif decide ((μ.1 0 7) = 3) then (128 : Int64) else 0) : Int64) = yy10
              refine z_rcs hc hH 1 (pc' := 97) (lv' := [(3, .long yy10), (0, .ref 0), (1, .ref (18 + 8 * s)), (2, .int (nB dr))]) (st' := [.ref 0]) (μ' := μ) (by rfl) ?_
              refine zq_gfr hc hH (by rfl) (ci := 5) (f := 1) (q := 2) (by rfl) (by decide +kernel) (by rfl) (by decide +kernel) ?_
              refine zq_call hc (z_cx_ok hH (by rfl)) (gc_left d' (by omega) μ) (by decide +kernel) (fun r9 μ9 hq => ?_)
              obtain ⟨hμ9, rfl⟩ := hq
              rw [hμ9]
              clear hμ9 μ9
              show Z 0 103 [(3, .long yy10), (0, .ref 0), (1, .ref (18 + 8 * s)), (2, .int (nB dr))] [.int (xLf μ)] μ
              have hJ11 : Z 0 123 [(3, .long (bif decide ((xLf μ) = 0) then bif dr then yy10 ||| (bif decide ((μ.1 0 16) = 0) then (16 : Int64) else 0) else yy10 else yy10)), (0, .ref 0), (1, .ref (18 + 8 * s)), (2, .int (nB dr))] [] μ := by
                generalize hyy12 : (bif decide ((xLf μ) = 0) then bif dr then yy10 ||| (bif decide ((μ.1 0 16) = 0) then (16 : Int64) else 0) else yy10 else yy10 : Int64) = yy12
                refine z_rcs hc hH 1 (pc' := 124) (lv' := [(3, .long yy12), (0, .ref 0), (1, .ref (18 + 8 * s)), (2, .int (nB dr))]) (st' := [.long yy12]) (μ' := μ) (by rfl) ?_
                exact hr 0 124 _ _ _ (some (.long yy12)) (by decide +kernel) (z_rx_ok hH (by rfl)) (⟨rfl, (by subst hyy12; subst hyy10; subst hyy7; subst hyy5; subst hyy3; rfl)⟩)
              refine zq_if hc hH (by rfl) (tg := 123) (by rfl) (fun h13 => ?_) (fun h13 => ?_)
              · have h13 : (decide ((xLf μ) = 0)) = false := decide_eq_false (cm_ne.mp h13)
                exact zJ hJ11 (by first | with_reducible rfl | (simp only [h13, lb_f, Int64.or_zero, Int32.add_zero, nB_t, nB_f, Bool.not_true, Bool.not_false, Bool.and_true, Bool.true_and, Bool.false_and, Bool.and_false, Bool.or_true, Bool.true_or, Bool.false_or, Bool.or_false, cond_true, cond_false]; done) | rfl) rfl rfl
              · have h13 : (decide ((xLf μ) = 0)) = true := decide_eq_true (cn_ne.mp h13)
                refine z_rcs hc hH 1 (pc' := 107) (lv' := [(3, .long yy10), (0, .ref 0), (1, .ref (18 + 8 * s)), (2, .int (nB dr))]) (st' := [.int (nB dr)]) (μ' := μ) (by rfl) ?_
                refine zq_if hc hH (by rfl) (tg := 123) (by rfl) (fun h14 => ?_) (fun h14 => ?_)
                · have h14 : (dr) = false := nB_z.mp (cm_eq9.mp h14)
                  exact zJ hJ11 (by first | with_reducible rfl | (simp only [h13, h14, lb_f, Int64.or_zero, Int32.add_zero, nB_t, nB_f, Bool.not_true, Bool.not_false, Bool.and_true, Bool.true_and, Bool.false_and, Bool.and_false, Bool.or_true, Bool.true_or, Bool.false_or, Bool.or_false, cond_true, cond_false]; done) | rfl) rfl rfl
                · have h14 : (dr) = true := nB_n.mp (cn_eq.mp h14)
                  refine z_rcs hc hH 1 (pc' := 111) (lv' := [(3, .long yy10), (0, .ref 0), (1, .ref (18 + 8 * s)), (2, .int (nB dr))]) (st' := [.ref 0]) (μ' := μ) (by rfl) ?_
                  refine zq_gfi hc hH (by rfl) (ci := 5) (f := 16) (by rfl) (by decide +kernel) (by rfl) ?_
                  refine zq_if hc hH (by rfl) (tg := 123) (by rfl) (fun h15 => ?_) (fun h15 => ?_)
                  · have h15 : (decide ((μ.1 0 16) = 0)) = false := decide_eq_false (cm_ne.mp h15)
                    exact zJ hJ11 (by first | with_reducible rfl | (simp only [h13, h14, h15, lb_f, Int64.or_zero, Int32.add_zero, nB_t, nB_f, Bool.not_true, Bool.not_false, Bool.and_true, Bool.true_and, Bool.false_and, Bool.and_false, Bool.or_true, Bool.true_or, Bool.false_or, Bool.or_false, cond_true, cond_false]; done) | rfl) rfl rfl
                  · have h15 : (decide ((μ.1 0 16) = 0)) = true := decide_eq_true (cn_ne.mp h15)
                    refine z_rcs hc hH 4 (pc' := 123) (lv' := [(3, .long (yy10 ||| 16)), (0, .ref 0), (1, .ref (18 + 8 * s)), (2, .int (nB dr))]) (st' := []) (μ' := μ) (by rfl) ?_
                    exact zJ hJ11 (by first | with_reducible rfl | (simp only [h13, h14, h15, lb_f, Int64.or_zero, Int32.add_zero, nB_t, nB_f, Bool.not_true, Bool.not_false, Bool.and_true, Bool.true_and, Bool.false_and, Bool.and_false, Bool.or_true, Bool.true_or, Bool.false_or, Bool.or_false, cond_true, cond_false]; done) | rfl) rfl rfl
            refine zq_if hc hH (by rfl) (tg := 96) (by rfl) (fun h16 => ?_) (fun h16 => ?_)
            · have h16 : (decide ((xLf μ) = 0)) = false := decide_eq_false (cm_ne.mp h16)
              exact zJ hJ9 (by first | with_reducible rfl | (simp only [h16, lb_f, Int64.or_zero, Int32.add_zero, nB_t, nB_f, Bool.not_true, Bool.not_false, Bool.and_true, Bool.true_and, Bool.false_and, Bool.and_false, Bool.or_true, Bool.true_or, Bool.false_or, Bool.or_false, cond_true, cond_false]; done) | rfl) rfl rfl
            · have h16 : (decide ((xLf μ) = 0)) = true := decide_eq_true (cn_ne.mp h16)
              refine z_rcs hc hH 1 (pc' := 83) (lv' := [(3, .long (yy7 ||| (bif decide ((μ.1 0 7) = 3) then (128 : Int64) else 0))), (0, .ref 0), (1, .ref (18 + 8 * s)), (2, .int (nB dr))]) (st' := [.ref 0]) (μ' := μ) (by rfl) ?_
              refine zq_gfi hc hH (by rfl) (ci := 5) (f := 7) (by rfl) (by decide +kernel) (by rfl) ?_
              refine z_rcs hc hH 1 (pc' := 87) (lv' := [(3, .long (yy7 ||| (bif decide ((μ.1 0 7) = 3) then (128 : Int64) else 0))), (0, .ref 0), (1, .ref (18 + 8 * s)), (2, .int (nB dr))]) (st' := [.int 2, .int (μ.1 0 7)]) (μ' := μ) (by rfl) ?_
              refine zq_ic hc hH (by rfl) (tg := 96) (by rfl) (fun h17 => ?_) (fun h17 => ?_)
              · have h17 : (decide ((μ.1 0 7) = 2)) = false := decide_eq_false (cm_ne.mp h17)
                exact zJ hJ9 (by first | with_reducible rfl | (simp only [h16, h17, lb_f, Int64.or_zero, Int32.add_zero, nB_t, nB_f, Bool.not_true, Bool.not_false, Bool.and_true, Bool.true_and, Bool.false_and, Bool.and_false, Bool.or_true, Bool.true_or, Bool.false_or, Bool.or_false, cond_true, cond_false]; done) | rfl) rfl rfl
              · have h17 : (decide ((μ.1 0 7) = 2)) = true := decide_eq_true (cn_ne.mp h17)
                refine z_rcs hc hH 4 (pc' := 96) (lv' := [(3, .long ((yy7 ||| (bif decide ((μ.1 0 7) = 3) then (128 : Int64) else 0)) ||| 32)), (0, .ref 0), (1, .ref (18 + 8 * s)), (2, .int (nB dr))]) (st' := []) (μ' := μ) (by rfl) ?_
                exact zJ hJ9 (by first | with_reducible rfl | (simp only [h16, h17, lb_f, Int64.or_zero, Int32.add_zero, nB_t, nB_f, Bool.not_true, Bool.not_false, Bool.and_true, Bool.true_and, Bool.false_and, Bool.and_false, Bool.or_true, Bool.true_or, Bool.false_or, Bool.or_false, cond_true, cond_false]; done) | rfl) rfl rfl
          refine zq_ic hc hH (by rfl) (tg := 72) (by rfl) (fun h18 => ?_) (fun h18 => ?_)
          · have h18 : (decide ((μ.1 0 7) = 3)) = false := decide_eq_false (cm_ne.mp h18)
            exact zJ hJ8 (by first | with_reducible rfl | (simp only [h18, lb_f, Int64.or_zero, Int32.add_zero, nB_t, nB_f, Bool.not_true, Bool.not_false, Bool.and_true, Bool.true_and, Bool.false_and, Bool.and_false, Bool.or_true, Bool.true_or, Bool.false_or, Bool.or_false, cond_true, cond_false]; done) | rfl) rfl rfl
          · have h18 : (decide ((μ.1 0 7) = 3)) = true := decide_eq_true (cn_ne.mp h18)
            refine z_rcs hc hH 4 (pc' := 72) (lv' := [(3, .long (yy7 ||| 128)), (0, .ref 0), (1, .ref (18 + 8 * s)), (2, .int (nB dr))]) (st' := []) (μ' := μ) (by rfl) ?_
            exact zJ hJ8 (by first | with_reducible rfl | (simp only [h18, lb_f, Int64.or_zero, Int32.add_zero, nB_t, nB_f, Bool.not_true, Bool.not_false, Bool.and_true, Bool.true_and, Bool.false_and, Bool.and_false, Bool.or_true, Bool.true_or, Bool.false_or, Bool.or_false, cond_true, cond_false]; done) | rfl) rfl rfl
        refine zq_if hc hH (by rfl) (tg := 58) (by rfl) (fun h19 => ?_) (fun h19 => ?_)
        · have h19 : (dr) = false := nB_z.mp (cm_eq9.mp h19)
          exact zJ hJ6 (by first | with_reducible rfl | (simp only [h19, lb_f, Int64.or_zero, Int32.add_zero, nB_t, nB_f, Bool.not_true, Bool.not_false, Bool.and_true, Bool.true_and, Bool.false_and, Bool.and_false, Bool.or_true, Bool.true_or, Bool.false_or, Bool.or_false, cond_true, cond_false]; done) | rfl) rfl rfl
        · have h19 : (dr) = true := nB_n.mp (cn_eq.mp h19)
          refine z_rcs hc hH 1 (pc' := 46) (lv' := [(3, .long yy5), (0, .ref 0), (1, .ref (18 + 8 * s)), (2, .int (nB dr))]) (st' := [.ref 0]) (μ' := μ) (by rfl) ?_
          refine zq_gfi hc hH (by rfl) (ci := 5) (f := 16) (by rfl) (by decide +kernel) (by rfl) ?_
          refine zq_if hc hH (by rfl) (tg := 58) (by rfl) (fun h20 => ?_) (fun h20 => ?_)
          · have h20 : (decide ((μ.1 0 16) = 0)) = true := decide_eq_true (cm_eq9.mp h20)
            exact zJ hJ6 (by first | with_reducible rfl | (simp only [h19, h20, lb_f, Int64.or_zero, Int32.add_zero, nB_t, nB_f, Bool.not_true, Bool.not_false, Bool.and_true, Bool.true_and, Bool.false_and, Bool.and_false, Bool.or_true, Bool.true_or, Bool.false_or, Bool.or_false, cond_true, cond_false]; done) | rfl) rfl rfl
          · have h20 : (decide ((μ.1 0 16) = 0)) = false := decide_eq_false (cn_eq.mp h20)
            refine z_rcs hc hH 4 (pc' := 58) (lv' := [(3, .long (yy5 ||| 64)), (0, .ref 0), (1, .ref (18 + 8 * s)), (2, .int (nB dr))]) (st' := []) (μ' := μ) (by rfl) ?_
            exact zJ hJ6 (by first | with_reducible rfl | (simp only [h19, h20, lb_f, Int64.or_zero, Int32.add_zero, nB_t, nB_f, Bool.not_true, Bool.not_false, Bool.and_true, Bool.true_and, Bool.false_and, Bool.and_false, Bool.or_true, Bool.true_or, Bool.false_or, Bool.or_false, cond_true, cond_false]; done) | rfl) rfl rfl
      refine zq_if hc hH (by rfl) (tg := 41) (by rfl) (fun h21 => ?_) (fun h21 => ?_)
      · have h21 : (decide ((μ.1 (18 + 8 * s) 7) = 0)) = true := decide_eq_true (cm_eq9.mp h21)
        exact zJ hJ4 (by first | with_reducible rfl | (simp only [h21, lb_f, Int64.or_zero, Int32.add_zero, nB_t, nB_f, Bool.not_true, Bool.not_false, Bool.and_true, Bool.true_and, Bool.false_and, Bool.and_false, Bool.or_true, Bool.true_or, Bool.false_or, Bool.or_false, cond_true, cond_false]; done) | rfl) rfl rfl
      · have h21 : (decide ((μ.1 (18 + 8 * s) 7) = 0)) = false := decide_eq_false (cn_eq.mp h21)
        refine z_rcs hc hH 4 (pc' := 41) (lv' := [(3, .long (yy3 ||| 4)), (0, .ref 0), (1, .ref (18 + 8 * s)), (2, .int (nB dr))]) (st' := []) (μ' := μ) (by rfl) ?_
        exact zJ hJ4 (by first | with_reducible rfl | (simp only [h21, lb_f, Int64.or_zero, Int32.add_zero, nB_t, nB_f, Bool.not_true, Bool.not_false, Bool.and_true, Bool.true_and, Bool.false_and, Bool.and_false, Bool.or_true, Bool.true_or, Bool.false_or, Bool.or_false, cond_true, cond_false]; done) | rfl) rfl rfl
    refine zq_ic hc hH (by rfl) (tg := 28) (by rfl) (fun h22 => ?_) (fun h22 => ?_)
    · have h22 : (decide ((μ.1 (18 + 8 * s) 5) = 2)) = false := decide_eq_false (cm_ne.mp h22)
      exact zJ hJ2 (by first | with_reducible rfl | (simp only [h22, lb_f, Int64.or_zero, Int32.add_zero, nB_t, nB_f, Bool.not_true, Bool.not_false, Bool.and_true, Bool.true_and, Bool.false_and, Bool.and_false, Bool.or_true, Bool.true_or, Bool.false_or, Bool.or_false, cond_true, cond_false]; done) | rfl) rfl rfl
    · have h22 : (decide ((μ.1 (18 + 8 * s) 5) = 2)) = true := decide_eq_true (cn_ne.mp h22)
      refine z_rcs hc hH 4 (pc' := 28) (lv' := [(3, .long ((0 ||| (bif decide ((μ.1 (18 + 8 * s) 5) = 1) then (1 : Int64) else 0)) ||| 2)), (0, .ref 0), (1, .ref (18 + 8 * s)), (2, .int (nB dr))]) (st' := []) (μ' := μ) (by rfl) ?_
      exact zJ hJ2 (by first | with_reducible rfl | (simp only [h22, lb_f, Int64.or_zero, Int32.add_zero, nB_t, nB_f, Bool.not_true, Bool.not_false, Bool.and_true, Bool.true_and, Bool.false_and, Bool.and_false, Bool.or_true, Bool.true_or, Bool.false_or, Bool.or_false, cond_true, cond_false]; done) | rfl) rfl rfl
  refine zq_ic hc hH (by rfl) (tg := 14) (by rfl) (fun h23 => ?_) (fun h23 => ?_)
  · have h23 : (decide ((μ.1 (18 + 8 * s) 5) = 1)) = false := decide_eq_false (cm_ne.mp h23)
    exact zJ hJ1 (by first | with_reducible rfl | (simp only [h23, lb_f, Int64.or_zero, Int32.add_zero, nB_t, nB_f, Bool.not_true, Bool.not_false, Bool.and_true, Bool.true_and, Bool.false_and, Bool.and_false, Bool.or_true, Bool.true_or, Bool.false_or, Bool.or_false, cond_true, cond_false]; done) | rfl) rfl rfl
  · have h23 : (decide ((μ.1 (18 + 8 * s) 5) = 1)) = true := decide_eq_true (cn_ne.mp h23)
    refine z_rcs hc hH 4 (pc' := 14) (lv' := [(3, .long (0 ||| 1)), (0, .ref 0), (1, .ref (18 + 8 * s)), (2, .int (nB dr))]) (st' := []) (μ' := μ) (by rfl) ?_
    exact zJ hJ1 (by first | with_reducible rfl | (simp only [h23, lb_f, Int64.or_zero, Int32.add_zero, nB_t, nB_f, Bool.not_true, Bool.not_false, Bool.and_true, Bool.true_and, Bool.false_and, Bool.and_false, Bool.or_true, Bool.true_or, Bool.false_or, Bool.or_false, cond_true, cond_false]; done) | rfl) rfl rfl
theorem gc_firstDraw (d : Nat) (hd : 3 ≤ d) (μ : zM) (s : Nat) (hs4 : s < 4) (dr : Bool) : z_C d mi_X6_firstDraw [.ref 0, .int (nI s), .int (nB dr)] μ (zR μ (.long (bif dr then bif decide ((μ.1 0 17) = 0) then bif decide ((μ.1 (18 + 8 * s) 2) ≤ 0) then 1 <<< ((bif decide ((nI s) = (μ.1 0 9)) then (42 : Int32) else 43).toInt64 &&& 63) else 0 else 0 else 0))) := by
  refine z_C_in (by decide) (by omega) (fun d' Z ed hc hr => ?_)
  have hH : zH mi_X6_firstDraw zt_X6_firstDraw 79 6 3 := hh_X6_firstDraw
  refine z_rcs hc hH 1 (pc' := 1) (lv' := [(0, .ref 0), (1, .int (nI s)), (2, .int (nB dr))]) (st' := [.int (nB dr)]) (μ' := μ) (by rfl) ?_
  refine zq_if hc hH (by rfl) (tg := 22) (by rfl) (fun h1 => ?_) (fun h1 => ?_)
  · have h1 : (dr) = false := nB_z.mp (cm_eq9.mp h1)
    refine z_rcs hc hH 1 (pc' := 23) (lv' := [(0, .ref 0), (1, .int (nI s)), (2, .int (nB dr))]) (st' := [.long 0]) (μ' := μ) (by rfl) ?_
    exact hr 0 23 _ _ _ (some (.long 0)) (by decide +kernel) (z_rx_ok hH (by rfl)) (⟨rfl, (by simp only [h1, lb_f, Int64.or_zero, Int32.add_zero, nB_t, nB_f, Bool.not_true, Bool.not_false, Bool.and_true, Bool.true_and, Bool.false_and, Bool.and_false, Bool.or_true, Bool.true_or, Bool.false_or, Bool.or_false, cond_true, cond_false])⟩)
  · have h1 : (dr) = true := nB_n.mp (cn_eq.mp h1)
    refine z_rcs hc hH 1 (pc' := 5) (lv' := [(0, .ref 0), (1, .int (nI s)), (2, .int (nB dr))]) (st' := [.ref 0]) (μ' := μ) (by rfl) ?_
    refine zq_gfi hc hH (by rfl) (ci := 5) (f := 17) (by rfl) (by decide +kernel) (by rfl) ?_
    refine zq_if hc hH (by rfl) (tg := 22) (by rfl) (fun h2 => ?_) (fun h2 => ?_)
    · have h2 : (decide ((μ.1 0 17) = 0)) = false := decide_eq_false (cm_ne.mp h2)
      refine z_rcs hc hH 1 (pc' := 23) (lv' := [(0, .ref 0), (1, .int (nI s)), (2, .int (nB dr))]) (st' := [.long 0]) (μ' := μ) (by rfl) ?_
      exact hr 0 23 _ _ _ (some (.long 0)) (by decide +kernel) (z_rx_ok hH (by rfl)) (⟨rfl, (by simp only [h1, h2, lb_f, Int64.or_zero, Int32.add_zero, nB_t, nB_f, Bool.not_true, Bool.not_false, Bool.and_true, Bool.true_and, Bool.false_and, Bool.and_false, Bool.or_true, Bool.true_or, Bool.false_or, Bool.or_false, cond_true, cond_false])⟩)
    · have h2 : (decide ((μ.1 0 17) = 0)) = true := decide_eq_true (cn_ne.mp h2)
      refine z_rcs hc hH 2 (pc' := 13) (lv' := [(0, .ref 0), (1, .int (nI s)), (2, .int (nB dr))]) (st' := [.int (nI s), .ref 0]) (μ' := μ) (by rfl) ?_
      refine zq_call hc (z_cx_ok hH (by rfl)) (gc_at4 d' (by omega) μ s hs4) (by decide +kernel) (fun r9 μ9 hq => ?_)
      obtain ⟨hμ9, rfl⟩ := hq
      rw [hμ9]
      clear hμ9 μ9
      show Z 0 16 [(0, .ref 0), (1, .int (nI s)), (2, .int (nB dr))] [.ref (18 + 8 * s)] μ
      refine zq_gfi hc hH (by rfl) (ci := 1) (f := 2) (by rfl) (sj (P := fun i => okf 79 1 2 (18 + 8 * i)) hs4 (by decide +kernel)) (by rfl) ?_
      refine zq_if hc hH (by rfl) (tg := 24) (by rfl) (fun h3 => ?_) (fun h3 => ?_)
      · have h3 : (decide ((μ.1 (18 + 8 * s) 2) ≤ 0)) = true := decide_eq_true (cm_le.mp h3)
        refine z_rcs hc hH 3 (pc' := 27) (lv' := [(0, .ref 0), (1, .int (nI s)), (2, .int (nB dr))]) (st' := [.ref 0, .int (nI s), .long 1]) (μ' := μ) (by rfl) ?_
        refine zq_gfi hc hH (by rfl) (ci := 5) (f := 9) (by rfl) (by decide +kernel) (by rfl) ?_
        have hJ4 : Z 0 40 [(0, .ref 0), (1, .int (nI s)), (2, .int (nB dr))] [.int (bif decide ((nI s) = (μ.1 0 9)) then (42 : Int32) else 43), .long 1] μ := by
          refine z_rcs hc hH 1 (pc' := 41) (lv' := [(0, .ref 0), (1, .int (nI s)), (2, .int (nB dr))]) (st' := [.long (1 <<< ((bif decide ((nI s) = (μ.1 0 9)) then (42 : Int32) else 43).toInt64 &&& 63))]) (μ' := μ) (by rfl) ?_
          exact hr 0 41 _ _ _ (some (.long (1 <<< ((bif decide ((nI s) = (μ.1 0 9)) then (42 : Int32) else 43).toInt64 &&& 63)))) (by decide +kernel) (z_rx_ok hH (by rfl)) (⟨rfl, (by simp only [h1, h2, h3, lb_f, Int64.or_zero, Int32.add_zero, nB_t, nB_f, Bool.not_true, Bool.not_false, Bool.and_true, Bool.true_and, Bool.false_and, Bool.and_false, Bool.or_true, Bool.true_or, Bool.false_or, Bool.or_false, cond_true, cond_false])⟩)
        refine zq_ic hc hH (by rfl) (tg := 38) (by rfl) (fun h5 => ?_) (fun h5 => ?_)
        · have h5 : (decide ((nI s) = (μ.1 0 9))) = false := decide_eq_false (cm_ne.mp h5)
          refine z_rcs hc hH 1 (pc' := 40) (lv' := [(0, .ref 0), (1, .int (nI s)), (2, .int (nB dr))]) (st' := [.int 43, .long 1]) (μ' := μ) (by rfl) ?_
          exact zJ hJ4 rfl (by first | with_reducible rfl | (simp only [h5, lb_f, Int64.or_zero, Int32.add_zero, nB_t, nB_f, Bool.not_true, Bool.not_false, Bool.and_true, Bool.true_and, Bool.false_and, Bool.and_false, Bool.or_true, Bool.true_or, Bool.false_or, Bool.or_false, cond_true, cond_false]; done) | rfl) rfl
        · have h5 : (decide ((nI s) = (μ.1 0 9))) = true := decide_eq_true (cn_ne.mp h5)
          refine z_rcs hc hH 2 (pc' := 40) (lv' := [(0, .ref 0), (1, .int (nI s)), (2, .int (nB dr))]) (st' := [.int 42, .long 1]) (μ' := μ) (by rfl) ?_
          exact zJ hJ4 rfl (by first | with_reducible rfl | (simp only [h5, lb_f, Int64.or_zero, Int32.add_zero, nB_t, nB_f, Bool.not_true, Bool.not_false, Bool.and_true, Bool.true_and, Bool.false_and, Bool.and_false, Bool.or_true, Bool.true_or, Bool.false_or, Bool.or_false, cond_true, cond_false]; done) | rfl) rfl
      · have h3 : (decide ((μ.1 (18 + 8 * s) 2) ≤ 0)) = false := decide_eq_false (cn_le.mp h3)
        refine z_rcs hc hH 1 (pc' := 23) (lv' := [(0, .ref 0), (1, .int (nI s)), (2, .int (nB dr))]) (st' := [.long 0]) (μ' := μ) (by rfl) ?_
        exact hr 0 23 _ _ _ (some (.long 0)) (by decide +kernel) (z_rx_ok hH (by rfl)) (⟨rfl, (by simp only [h1, h2, h3, lb_f, Int64.or_zero, Int32.add_zero, nB_t, nB_f, Bool.not_true, Bool.not_false, Bool.and_true, Bool.true_and, Bool.false_and, Bool.and_false, Bool.or_true, Bool.true_or, Bool.false_or, Bool.or_false, cond_true, cond_false])⟩)
/-! the game: tiles and wall of the class, exactly -/
set_option maxRecDepth 8000
theorem inOf2 {x m : Int32} {n : Nat} (hm : m.toInt = (n : Int)) (h1 : decide (x < 0) = false) (h2 : decide (m ≤ x) = false) : vp_in x n := in_of hm (of_decide_eq_false h1) (of_decide_eq_false h2)
theorem gc_kindAt (d : Nat) (hd : 1 ≤ d) (μ : zM) (x : Int32) : z_C d mi_X4_kindAt [.ref 2, .int x] μ (zR μ (.int (bif decide ((μ.1 2 1) = 0) then (-1 : Int32) else bif decide (x < 0) then (-1 : Int32) else bif decide (136 ≤ x) then (-1 : Int32) else μ.1 3 x.toNatClampNeg))) := by
  refine z_C_in (by decide) (by omega) (fun d' Z ed hc hr => ?_)
  have hH : zH mi_X4_kindAt zt_X4_kindAt 79 4 2 := hh_X4_kindAt
  refine z_rcs hc hH 1 (pc' := 1) (lv' := [(0, .ref 2), (1, .int x)]) (st' := [.ref 2]) (μ' := μ) (by rfl) ?_
  refine zq_gfi hc hH (by rfl) (ci := 3) (f := 1) (by rfl) (by decide +kernel) (by rfl) ?_
  have hJ1 : Z 0 28 [(0, .ref 2), (1, .int x)] [.int (bif decide ((μ.1 2 1) = 0) then (-1 : Int32) else bif decide (x < 0) then (-1 : Int32) else bif decide (136 ≤ x) then (-1 : Int32) else μ.1 3 x.toNatClampNeg)] μ := by
    generalize hyy2 : (bif decide ((μ.1 2 1) = 0) then (-1 : Int32) else bif decide (x < 0) then (-1 : Int32) else bif decide (136 ≤ x) then (-1 : Int32) else μ.1 3 x.toNatClampNeg : Int32) = yy2
    exact hr 0 28 _ _ _ (some (.int yy2)) (by decide +kernel) (z_rx_ok hH (by rfl)) (⟨rfl, (by subst hyy2; rfl)⟩)
  refine zq_if hc hH (by rfl) (tg := 27) (by rfl) (fun h3 => ?_) (fun h3 => ?_)
  · have h3 : (decide ((μ.1 2 1) = 0)) = true := decide_eq_true (cm_eq9.mp h3)
    refine z_rcs hc hH 1 (pc' := 28) (lv' := [(0, .ref 2), (1, .int x)]) (st' := [.int (-1)]) (μ' := μ) (by rfl) ?_
    exact zJ hJ1 rfl (by first | with_reducible rfl | (simp only [h3, lb_f, Int64.or_zero, Int32.add_zero, nB_t, nB_f, Bool.not_true, Bool.not_false, Bool.and_true, Bool.true_and, Bool.false_and, Bool.and_false, Bool.or_true, Bool.true_or, Bool.false_or, Bool.or_false, cond_true, cond_false]; done) | rfl) rfl
  · have h3 : (decide ((μ.1 2 1) = 0)) = false := decide_eq_false (cn_eq.mp h3)
    refine z_rcs hc hH 1 (pc' := 8) (lv' := [(0, .ref 2), (1, .int x)]) (st' := [.int x]) (μ' := μ) (by rfl) ?_
    refine zq_if hc hH (by rfl) (tg := 27) (by rfl) (fun h4 => ?_) (fun h4 => ?_)
    · have h4 : (decide (x < 0)) = true := decide_eq_true (cm_lt.mp h4)
      refine z_rcs hc hH 1 (pc' := 28) (lv' := [(0, .ref 2), (1, .int x)]) (st' := [.int (-1)]) (μ' := μ) (by rfl) ?_
      exact zJ hJ1 rfl (by first | with_reducible rfl | (simp only [h3, h4, lb_f, Int64.or_zero, Int32.add_zero, nB_t, nB_f, Bool.not_true, Bool.not_false, Bool.and_true, Bool.true_and, Bool.false_and, Bool.and_false, Bool.or_true, Bool.true_or, Bool.false_or, Bool.or_false, cond_true, cond_false]; done) | rfl) rfl
    · have h4 : (decide (x < 0)) = false := decide_eq_false (cn_lt.mp h4)
      refine z_rcs hc hH 2 (pc' := 15) (lv' := [(0, .ref 2), (1, .int x)]) (st' := [.int 136, .int x]) (μ' := μ) (by rfl) ?_
      refine zq_ic hc hH (by rfl) (tg := 27) (by rfl) (fun h5 => ?_) (fun h5 => ?_)
      · have h5 : (decide (136 ≤ x)) = true := decide_eq_true (cm_ge.mp h5)
        refine z_rcs hc hH 1 (pc' := 28) (lv' := [(0, .ref 2), (1, .int x)]) (st' := [.int (-1)]) (μ' := μ) (by rfl) ?_
        exact zJ hJ1 rfl (by first | with_reducible rfl | (simp only [h3, h4, h5, lb_f, Int64.or_zero, Int32.add_zero, nB_t, nB_f, Bool.not_true, Bool.not_false, Bool.and_true, Bool.true_and, Bool.false_and, Bool.and_false, Bool.or_true, Bool.true_or, Bool.false_or, Bool.or_false, cond_true, cond_false]; done) | rfl) rfl
      · have h5 : (decide (136 ≤ x)) = false := decide_eq_false (cn_ge.mp h5)
        refine z_rcs hc hH 1 (pc' := 19) (lv' := [(0, .ref 2), (1, .int x)]) (st' := [.ref 2]) (μ' := μ) (by rfl) ?_
        refine zq_gfr hc hH (by rfl) (ci := 3) (f := 0) (q := 3) (by rfl) (by decide +kernel) (by rfl) (by decide +kernel) ?_
        refine z_rcs hc hH 1 (pc' := 23) (lv' := [(0, .ref 2), (1, .int x)]) (st' := [.int x, .ref 3]) (μ' := μ) (by rfl) ?_
        refine zq_iald hc hH (by rfl) 136 (oka_i (by decide +kernel)) (inOf2 (n := 136) rfl h4 h5) ?_
        refine z_rcs hc hH 1 (pc' := 28) (lv' := [(0, .ref 2), (1, .int x)]) (st' := [.int (μ.1 3 x.toNatClampNeg)]) (μ' := μ) (by rfl) ?_
        exact zJ hJ1 rfl (by first | with_reducible rfl | (simp only [h3, h4, h5, lb_f, Int64.or_zero, Int32.add_zero, nB_t, nB_f, Bool.not_true, Bool.not_false, Bool.and_true, Bool.true_and, Bool.false_and, Bool.and_false, Bool.or_true, Bool.true_or, Bool.false_or, Bool.or_false, cond_true, cond_false]; done) | rfl) rfl
theorem gc_kindAtN (d : Nat) (hd : 1 ≤ d) (μ : zM) (p : Nat) (hp : p < 136) (h1 : μ.1 2 1 = 1) : z_C d mi_X4_kindAt [.ref 2, .int (nI p)] μ (zR μ (.int (μ.1 3 p))) := by
  have z := gc_kindAt d hd μ (nI p)
  have e1 : (nI p).toInt = (p : Int) := nI_toInt (by omega)
  have a1 : decide (nI p < 0) = false := decide_eq_false (by rw [Int32.lt_iff_toInt_lt, e1, show (0 : Int32).toInt = 0 from rfl]; omega)
  have a2 : decide ((136 : Int32) ≤ nI p) = false := decide_eq_false (by rw [Int32.le_iff_toInt_le, e1, show (136 : Int32).toInt = 136 from rfl]; omega)
  have a3 : decide ((1 : Int32) = 0) = false := by decide
  have e2 : (nI p).toNatClampNeg = p := nI_clamp (by omega)
  rw [h1, a1, a2, a3, e2] at z
  exact z
theorem gc_isKindN (d : Nat) (hd : 1 ≤ d) (μ : zM) (k : Nat) (hk : k < 34) : z_C d mi_X6_isKind [.int (nI k)] μ (zR μ (.int 1)) := by
  refine z_C_mono (fc_X6_isKind d hd μ (nI k)) (fun r μ' z => ⟨z.1, ?_⟩)
  rcases z.2 with ⟨h, _⟩ | ⟨_, h⟩
  · exact h
  · exact absurd (vp_in_nI hk (by decide)) h
noncomputable def pS (μ : zM) (j k : Nat) (n : Int32) : zM := z_ui (z_ui (z_ui μ (20 + 8 * j) k ((μ.1 (20 + 8 * j) k) + n)) (21 + 8 * j) k ((μ.1 (21 + 8 * j) k) + n)) (19 + 8 * j) 5 ((μ.1 (19 + 8 * j) 5) + n)
theorem gc_put (d : Nat) (hd : 2 ≤ d) (μ : zM) (j : Nat) (hj : j < 4) (k : Nat) (hk : k < 34) (n : Int32) : z_C d mi_X3_put [.ref (19 + 8 * j), .int (nI k), .int n] μ (fun r μ' => r = none ∧ μ' = pS μ j k n) := by
  refine z_C_in (by decide) (by omega) (fun d' Z ed hc hr => ?_)
  have hH : zH mi_X3_put zt_X3_put 79 3 3 := hh_X3_put
  refine z_rcs hc hH 1 (pc' := 1) (lv' := [(0, .ref (19 + 8 * j)), (1, .int (nI k)), (2, .int n)]) (st' := [.int (nI k)]) (μ' := μ) (by rfl) ?_
  refine zq_call hc (z_cx_ok hH (by rfl)) (gc_isKindN d' (by omega) μ k hk) (by decide +kernel) (fun r9 μ9 hq => ?_)
  obtain ⟨hμ9, rfl⟩ := hq
  rw [hμ9]
  clear hμ9 μ9
  show Z 0 4 [(0, .ref (19 + 8 * j)), (1, .int (nI k)), (2, .int n)] [.int 1] μ
  refine z_rcs hc hH 2 (pc' := 8) (lv' := [(0, .ref (19 + 8 * j)), (1, .int (nI k)), (2, .int n)]) (st' := [.ref (19 + 8 * j)]) (μ' := μ) (by rfl) ?_
  refine zq_gfr hc hH (by rfl) (ci := 2) (f := 0) (q := 20 + 8 * j) (by rfl) (sj (P := fun i => okf 79 2 0 (19 + 8 * i)) hj (by decide +kernel)) (by rfl) (sj (P := fun i => Nat.beq (z_gr (19 + 8 * i) 0) (20 + 8 * i)) hj (by decide +kernel)) ?_
  refine z_rcs hc hH 2 (pc' := 13) (lv' := [(0, .ref (19 + 8 * j)), (1, .int (nI k)), (2, .int n)]) (st' := [.int (nI k), .ref (20 + 8 * j), .int (nI k), .ref (20 + 8 * j)]) (μ' := μ) (by rfl) ?_
  refine zq_iald hc hH (by rfl) 34 (oka_i (sj (P := fun i => oka 79 1 34 (20 + 8 * i)) hj (by decide +kernel))) (vp_in_nI (by omega) (by decide)) ?_
  rw [nI_clamp (by omega)]
  refine z_rcs hc hH 2 (pc' := 16) (lv' := [(0, .ref (19 + 8 * j)), (1, .int (nI k)), (2, .int n)]) (st' := [.int ((μ.1 (20 + 8 * j) k) + n), .int (nI k), .ref (20 + 8 * j)]) (μ' := μ) (by rfl) ?_
  refine zq_iast hc hH (by rfl) 34 (oka_i (sj (P := fun i => oka 79 1 34 (20 + 8 * i)) hj (by decide +kernel))).2 (vp_in_nI (by omega) (by decide)) ?_
  rw [nI_clamp (by omega)]
  show Z 0 17 [(0, .ref (19 + 8 * j)), (1, .int (nI k)), (2, .int n)] [] (z_ui μ (20 + 8 * j) k ((μ.1 (20 + 8 * j) k) + n))
  refine z_rcs0 hc hH 1 (pc' := 18) (lv' := [(0, .ref (19 + 8 * j)), (1, .int (nI k)), (2, .int n)]) (st' := [.ref (19 + 8 * j)]) (by rfl) ?_
  refine zq_gfr hc hH (by rfl) (ci := 2) (f := 1) (q := 21 + 8 * j) (by rfl) (sj (P := fun i => okf 79 2 1 (19 + 8 * i)) hj (by decide +kernel)) (by rfl) (sj (P := fun i => Nat.beq (z_gr (19 + 8 * i) 1) (21 + 8 * i)) hj (by decide +kernel)) ?_
  refine z_rcs0 hc hH 2 (pc' := 23) (lv' := [(0, .ref (19 + 8 * j)), (1, .int (nI k)), (2, .int n)]) (st' := [.int (nI k), .ref (21 + 8 * j), .int (nI k), .ref (21 + 8 * j)]) (by rfl) ?_
  refine zq_iald hc hH (by rfl) 34 (oka_i (sj (P := fun i => oka 79 1 34 (21 + 8 * i)) hj (by decide +kernel))) (vp_in_nI (by omega) (by decide)) ?_
  rw [nI_clamp (by omega)]
  refine zV1 (Z := Z) (ui_o (by first | decide | omega)) ?_
  refine z_rcs0 hc hH 2 (pc' := 26) (lv' := [(0, .ref (19 + 8 * j)), (1, .int (nI k)), (2, .int n)]) (st' := [.int ((μ.1 (21 + 8 * j) k) + n), .int (nI k), .ref (21 + 8 * j)]) (by rfl) ?_
  refine zq_iast hc hH (by rfl) 34 (oka_i (sj (P := fun i => oka 79 1 34 (21 + 8 * i)) hj (by decide +kernel))).2 (vp_in_nI (by omega) (by decide)) ?_
  rw [nI_clamp (by omega)]
  show Z 0 27 [(0, .ref (19 + 8 * j)), (1, .int (nI k)), (2, .int n)] [] (z_ui (z_ui μ (20 + 8 * j) k ((μ.1 (20 + 8 * j) k) + n)) (21 + 8 * j) k ((μ.1 (21 + 8 * j) k) + n))
  refine z_rcs0 hc hH 2 (pc' := 29) (lv' := [(0, .ref (19 + 8 * j)), (1, .int (nI k)), (2, .int n)]) (st' := [.ref (19 + 8 * j), .ref (19 + 8 * j)]) (by rfl) ?_
  refine zq_gfi hc hH (by rfl) (ci := 2) (f := 5) (by rfl) (sj (P := fun i => okf 79 2 5 (19 + 8 * i)) hj (by decide +kernel)) (by rfl) ?_
  refine zV1 (Z := Z) (Eq.trans (ui_o (by first | decide | omega)) (ui_o (by first | decide | omega))) ?_
  refine z_rcs0 hc hH 2 (pc' := 34) (lv' := [(0, .ref (19 + 8 * j)), (1, .int (nI k)), (2, .int n)]) (st' := [.int ((μ.1 (19 + 8 * j) 5) + n), .ref (19 + 8 * j)]) (by rfl) ?_
  refine zq_pfi hc hH (by rfl) (ci := 2) (f := 5) (by rfl) (sj (P := fun i => okf 79 2 5 (19 + 8 * i)) hj (by decide +kernel)) (by rfl) ?_
  show Z 0 37 [(0, .ref (19 + 8 * j)), (1, .int (nI k)), (2, .int n)] [] (z_ui (z_ui (z_ui μ (20 + 8 * j) k ((μ.1 (20 + 8 * j) k) + n)) (21 + 8 * j) k ((μ.1 (21 + 8 * j) k) + n)) (19 + 8 * j) 5 ((μ.1 (19 + 8 * j) 5) + n))
  exact hr 0 37 _ _ _ none (by decide +kernel) (by rfl) (⟨rfl, rfl⟩)
theorem gc_take (d : Nat) (hd : 3 ≤ d) (μ : zM) (j : Nat) (hj : j < 4) (k : Nat) (hk : k < 34) (n : Int32) : z_C d mi_X3_take [.ref (19 + 8 * j), .int (nI k), .int n] μ (fun r μ' => r = none ∧ μ' = pS μ j k (-n)) := by
  refine z_C_in (by decide) (by omega) (fun d' Z ed hc hr => ?_)
  have hH : zH mi_X3_take zt_X3_take 79 3 3 := hh_X3_take
  refine z_rcs hc hH 4 (pc' := 4) (lv' := [(0, .ref (19 + 8 * j)), (1, .int (nI k)), (2, .int n)]) (st' := [.int (-n), .int (nI k), .ref (19 + 8 * j)]) (μ' := μ) (by rfl) ?_
  refine zq_call hc (z_clv9 hH (by rfl) (by rfl) (by rfl) (by rfl) (sj (P := fun i => okr 79 2 (19 + 8 * i)) hj (by decide +kernel)) (by rfl) (by rfl)) (gc_put d' (by omega) μ j hj k hk (-n)) (by decide +kernel) (fun r9 μ9 hq => ?_)
  obtain ⟨rfl, rfl⟩ := hq
  show Z 0 7 [(0, .ref (19 + 8 * j)), (1, .int (nI k)), (2, .int n)] [] (pS μ j k (-n))
  exact hr 0 7 _ _ _ none (by decide +kernel) (by rfl) (⟨rfl, rfl⟩)
/-! the game: drawing, throwing, exactly -/
set_option maxRecDepth 8000
theorem pS_o {μ : zM} {j k r k' : Nat} {n : Int32} (h : r ≠ 19 + 8 * j ∧ r ≠ 20 + 8 * j ∧ r ≠ 21 + 8 * j) : (pS μ j k n).1 r k' = μ.1 r k' := by
  unfold pS
  rw [ui_o h.1, ui_o h.2.2, ui_o h.2.1]
theorem pS_j {μ : zM} {j k r k' : Nat} {n : Int32} : (pS μ j k n).2.1 r k' = μ.2.1 r k' := rfl
theorem nI_s1 (n : Nat) : nI n + 1 = nI (n + 1) := by rw [show (1 : Int32) = nI 1 from rfl, nI_add]
theorem nI_p1 (n : Nat) : nI (n + 1) - 1 = nI n := by rw [← nI_s1, Int32.add_sub_cancel]
theorem nI_122 (n : Nat) : 122 + nI n = nI (122 + n) := by rw [show (122 : Int32) = nI 122 from rfl, nI_add]
theorem gc_draw (d : Nat) (hd : 2 ≤ d) (μ : zM) (n : Nat) (hn2 : n < 136) (hn : μ.1 2 2 = nI n) (h1 : μ.1 2 1 = 1) : z_C d mi_X4_draw [.ref 2] μ (fun r μ' => r = some (.int (μ.1 3 n)) ∧ μ' = z_ui μ 2 2 (nI (n + 1))) := by
  refine z_C_in (by decide) (by omega) (fun d' Z ed hc hr => ?_)
  have hH : zH mi_X4_draw zt_X4_draw 79 4 1 := hh_X4_draw
  refine z_rcs hc hH 2 (pc' := 2) (lv' := [(0, .ref 2)]) (st' := [.ref 2, .ref 2]) (μ' := μ) (by rfl) ?_
  refine zq_gfi hc hH (by rfl) (ci := 3) (f := 2) (by rfl) (by decide +kernel) (by rfl) ?_
  rw [hn]
  refine z_rcs hc hH 2 (pc' := 7) (lv' := [(0, .ref 2)]) (st' := [.int ((nI n) + 1), .ref 2]) (μ' := μ) (by rfl) ?_
  rw [nI_s1]
  refine zq_pfi hc hH (by rfl) (ci := 3) (f := 2) (by rfl) (by decide +kernel) (by rfl) ?_
  show Z 0 10 [(0, .ref 2)] [] (z_ui μ 2 2 (nI (n + 1)))
  refine z_rcs0 hc hH 2 (pc' := 12) (lv' := [(0, .ref 2)]) (st' := [.ref 2, .ref 2]) (by rfl) ?_
  refine zq_gfi hc hH (by rfl) (ci := 3) (f := 2) (by rfl) (by decide +kernel) (by rfl) ?_
  rw [ui_s]
  refine z_rcs0 hc hH 2 (pc' := 17) (lv' := [(0, .ref 2)]) (st' := [.int ((nI (n + 1)) - 1), .ref 2]) (by rfl) ?_
  rw [nI_p1]
  refine zq_call hc (z_cx_ok hH (by rfl)) (gc_kindAtN d' (by omega) (z_ui μ 2 2 (nI (n + 1))) n (by omega) (by rw [ui_k (by first | decide | omega)]; exact h1)) (by decide +kernel) (fun r9 μ9 hq => ?_)
  obtain ⟨hμ9, rfl⟩ := hq
  rw [hμ9]
  clear hμ9 μ9
  rw [ui_o (by first | decide | omega)]
  show Z 0 20 [(0, .ref 2)] [.int (μ.1 3 n)] _
  exact hr 0 20 _ _ _ (some (.int (μ.1 3 n))) (by decide +kernel) (z_rx_ok hH (by rfl)) (⟨rfl, rfl⟩)
theorem gc_drawB (d : Nat) (hd : 2 ≤ d) (μ : zM) (n : Nat) (hn2 : n < 14) (hn : μ.1 2 3 = nI n) (h1 : μ.1 2 1 = 1) : z_C d mi_X4_drawBehindFour [.ref 2] μ (fun r μ' => r = some (.int (μ.1 3 (122 + n))) ∧ μ' = z_ui μ 2 3 (nI (n + 1))) := by
  refine z_C_in (by decide) (by omega) (fun d' Z ed hc hr => ?_)
  have hH : zH mi_X4_drawBehindFour zt_X4_drawBehindFour 79 4 1 := hh_X4_drawBehindFour
  refine z_rcs hc hH 2 (pc' := 2) (lv' := [(0, .ref 2)]) (st' := [.ref 2, .ref 2]) (μ' := μ) (by rfl) ?_
  refine zq_gfi hc hH (by rfl) (ci := 3) (f := 3) (by rfl) (by decide +kernel) (by rfl) ?_
  rw [hn]
  refine z_rcs hc hH 2 (pc' := 7) (lv' := [(0, .ref 2)]) (st' := [.int ((nI n) + 1), .ref 2]) (μ' := μ) (by rfl) ?_
  rw [nI_s1]
  refine zq_pfi hc hH (by rfl) (ci := 3) (f := 3) (by rfl) (by decide +kernel) (by rfl) ?_
  show Z 0 10 [(0, .ref 2)] [] (z_ui μ 2 3 (nI (n + 1)))
  refine z_rcs0 hc hH 3 (pc' := 14) (lv' := [(0, .ref 2)]) (st' := [.ref 2, .int 122, .ref 2]) (by rfl) ?_
  refine zq_gfi hc hH (by rfl) (ci := 3) (f := 3) (by rfl) (by decide +kernel) (by rfl) ?_
  rw [ui_s]
  refine z_rcs0 hc hH 1 (pc' := 18) (lv' := [(0, .ref 2)]) (st' := [.int (122 + (nI (n + 1))), .ref 2]) (by rfl) ?_
  rw [nI_122]
  refine z_rcs0 hc hH 2 (pc' := 20) (lv' := [(0, .ref 2)]) (st' := [.int ((nI (122 + (n + 1))) - 1), .ref 2]) (by rfl) ?_
  rw [show nI (122 + (n + 1)) - 1 = nI (122 + n) from nI_p1 (122 + n)]
  refine zq_call hc (z_cx_ok hH (by rfl)) (gc_kindAtN d' (by omega) (z_ui μ 2 3 (nI (n + 1))) (122 + n) (by omega) (by rw [ui_k (by first | decide | omega)]; exact h1)) (by decide +kernel) (fun r9 μ9 hq => ?_)
  obtain ⟨hμ9, rfl⟩ := hq
  rw [hμ9]
  clear hμ9 μ9
  rw [ui_o (by first | decide | omega)]
  show Z 0 23 [(0, .ref 2)] [.int (μ.1 3 (122 + n))] _
  exact hr 0 23 _ _ _ (some (.int (μ.1 3 (122 + n)))) (by decide +kernel) (z_rx_ok hH (by rfl)) (⟨rfl, rfl⟩)
noncomputable def bkH (μ : zM) : zM := z_ui (z_ui (z_ui (z_ui (z_ui μ 0 17 1) 18 7 0) 26 7 0) 34 7 0) 42 7 0
theorem gc_breakHand (d : Nat) (hd : 2 ≤ d) (μ : zM) : z_C d mi_X6_breakHand [.ref 0] μ (fun r μ' => r = none ∧ μ' = bkH μ ) := by
  refine z_C_in (by decide) (by omega) (fun d' Z ed hc hr => ?_)
  have hH : zH mi_X6_breakHand zt_X6_breakHand 79 6 2 := hh_X6_breakHand
  refine z_rcs hc hH 2 (pc' := 2) (lv' := [(0, .ref 0)]) (st' := [.int 1, .ref 0]) (μ' := μ) (by rfl) ?_
  refine zq_pfb hc hH (by rfl) (ci := 5) (f := 17) (by rfl) (by decide +kernel) (by rfl) (by decide) ?_
  show Z 0 5 [(0, .ref 0)] [] (z_ui μ 0 17 1)
  refine z_rcs hc hH 7 (pc' := 14) (lv' := [(1, .int 0), (0, .ref 0)]) (st' := [.int 0, .ref 0]) (μ' := z_ui μ 0 17 1) (by rfl) ?_
  refine zq_call hc (z_cx_ok hH (by rfl)) (gc_at d' (by omega) (z_ui μ 0 17 1) 0 (by decide)) (by decide +kernel) (fun r9 μ9 hq => ?_)
  obtain ⟨hμ9, rfl⟩ := hq
  rw [hμ9]
  clear hμ9 μ9
  show Z 0 17 [(1, .int 0), (0, .ref 0)] [.ref 18] (z_ui μ 0 17 1)
  refine z_rcs hc hH 1 (pc' := 18) (lv' := [(1, .int 0), (0, .ref 0)]) (st' := [.int 0, .ref 18]) (μ' := z_ui μ 0 17 1) (by rfl) ?_
  refine zq_pfb hc hH (by rfl) (ci := 1) (f := 7) (by rfl) (by decide +kernel) (by rfl) (by decide) ?_
  show Z 0 21 [(1, .int 0), (0, .ref 0)] [] (z_ui (z_ui μ 0 17 1) 18 7 0)
  refine z_rcs0 hc hH 7 (pc' := 14) (lv' := [(1, .int 1), (0, .ref 0)]) (st' := [.int 1, .ref 0]) (by rfl) ?_
  refine zq_call hc (z_cx_ok hH (by rfl)) (gc_at d' (by omega) (z_ui (z_ui μ 0 17 1) 18 7 0) 1 (by decide)) (by decide +kernel) (fun r9 μ9 hq => ?_)
  obtain ⟨hμ9, rfl⟩ := hq
  rw [hμ9]
  clear hμ9 μ9
  show Z 0 17 [(1, .int 1), (0, .ref 0)] [.ref 26] _
  refine z_rcs0 hc hH 1 (pc' := 18) (lv' := [(1, .int 1), (0, .ref 0)]) (st' := [.int 0, .ref 26]) (by rfl) ?_
  refine zq_pfb hc hH (by rfl) (ci := 1) (f := 7) (by rfl) (by decide +kernel) (by rfl) (by decide) ?_
  show Z 0 21 [(1, .int 1), (0, .ref 0)] [] (z_ui (z_ui (z_ui μ 0 17 1) 18 7 0) 26 7 0)
  refine z_rcs0 hc hH 7 (pc' := 14) (lv' := [(1, .int 2), (0, .ref 0)]) (st' := [.int 2, .ref 0]) (by rfl) ?_
  refine zq_call hc (z_cx_ok hH (by rfl)) (gc_at d' (by omega) (z_ui (z_ui (z_ui μ 0 17 1) 18 7 0) 26 7 0) 2 (by decide)) (by decide +kernel) (fun r9 μ9 hq => ?_)
  obtain ⟨hμ9, rfl⟩ := hq
  rw [hμ9]
  clear hμ9 μ9
  show Z 0 17 [(1, .int 2), (0, .ref 0)] [.ref 34] _
  refine z_rcs0 hc hH 1 (pc' := 18) (lv' := [(1, .int 2), (0, .ref 0)]) (st' := [.int 0, .ref 34]) (by rfl) ?_
  refine zq_pfb hc hH (by rfl) (ci := 1) (f := 7) (by rfl) (by decide +kernel) (by rfl) (by decide) ?_
  show Z 0 21 [(1, .int 2), (0, .ref 0)] [] (z_ui (z_ui (z_ui (z_ui μ 0 17 1) 18 7 0) 26 7 0) 34 7 0)
  refine z_rcs0 hc hH 7 (pc' := 14) (lv' := [(1, .int 3), (0, .ref 0)]) (st' := [.int 3, .ref 0]) (by rfl) ?_
  refine zq_call hc (z_cx_ok hH (by rfl)) (gc_at d' (by omega) (z_ui (z_ui (z_ui (z_ui μ 0 17 1) 18 7 0) 26 7 0) 34 7 0) 3 (by decide)) (by decide +kernel) (fun r9 μ9 hq => ?_)
  obtain ⟨hμ9, rfl⟩ := hq
  rw [hμ9]
  clear hμ9 μ9
  show Z 0 17 [(1, .int 3), (0, .ref 0)] [.ref 42] _
  refine z_rcs0 hc hH 1 (pc' := 18) (lv' := [(1, .int 3), (0, .ref 0)]) (st' := [.int 0, .ref 42]) (by rfl) ?_
  refine zq_pfb hc hH (by rfl) (ci := 1) (f := 7) (by rfl) (by decide +kernel) (by rfl) (by decide) ?_
  show Z 0 21 [(1, .int 3), (0, .ref 0)] [] (z_ui (z_ui (z_ui (z_ui (z_ui μ 0 17 1) 18 7 0) 26 7 0) 34 7 0) 42 7 0)
  refine z_rcs0 hc hH 5 (pc' := 27) (lv' := [(1, .int 4), (0, .ref 0)]) (st' := []) (by rfl) ?_
  exact hr 0 27 _ _ _ none (by decide +kernel) (by rfl) (⟨rfl, rfl⟩)
noncomputable def dT0 (μ : zM) (t n k : Nat) : zM := (bif decide ((μ.1 (18 + 8 * t) 5) = 0) then z_ui (pS (z_ui (z_ui (z_uj (z_ui (z_ui (z_ui μ 0 8 (nI t)) 0 7 1) 0 16 0) 0 18 0) 2 2 (nI (n + 1))) 0 15 (nI k)) t k 1) (18 + 8 * t) 8 0 else pS (z_ui (z_ui (z_uj (z_ui (z_ui (z_ui μ 0 8 (nI t)) 0 7 1) 0 16 0) 0 18 0) 2 2 (nI (n + 1))) 0 15 (nI k)) t k 1)
theorem gc_drawTile0 (d : Nat) (hd : 4 ≤ d) (μ : zM) (s t n k : Nat) (hs : s < 2147483648) (ht4 : t < 4) (hst : s % 4 = t) (hn2 : n < 136) (hn : μ.1 2 2 = nI n) (h1 : μ.1 2 1 = 1) (hk : k < 34) (hkk : μ.1 3 n = nI k) : z_C d mi_X6_drawTile [.ref 0, .int (nI s), .int 0] μ (fun r μ' => r = none ∧ μ' = dT0 μ t n k) := by
  refine z_C_in (by decide) (by omega) (fun d' Z ed hc hr => ?_)
  have hH : zH mi_X6_drawTile zt_X6_drawTile 79 6 4 := hh_X6_drawTile
  refine z_rcs hc hH 4 (pc' := 4) (lv' := [(0, .ref 0), (1, .int (nI s)), (2, .int 0)]) (st' := [.int ((nI s) &&& 3), .ref 0]) (μ' := μ) (by rfl) ?_
  rw [show nI s &&& 3 = nI t from by rw [and3 hs, hst]]
  refine zq_pfi hc hH (by rfl) (ci := 5) (f := 8) (by rfl) (by decide +kernel) (by rfl) ?_
  show Z 0 7 [(0, .ref 0), (1, .int (nI s)), (2, .int 0)] [] (z_ui μ 0 8 (nI t))
  refine z_rcs hc hH 2 (pc' := 9) (lv' := [(0, .ref 0), (1, .int (nI s)), (2, .int 0)]) (st' := [.int 1, .ref 0]) (μ' := z_ui μ 0 8 (nI t)) (by rfl) ?_
  refine zq_pfi hc hH (by rfl) (ci := 5) (f := 7) (by rfl) (by decide +kernel) (by rfl) ?_
  show Z 0 12 [(0, .ref 0), (1, .int (nI s)), (2, .int 0)] [] (z_ui (z_ui μ 0 8 (nI t)) 0 7 1)
  refine z_rcs0 hc hH 2 (pc' := 14) (lv' := [(0, .ref 0), (1, .int (nI s)), (2, .int 0)]) (st' := [.int 0, .ref 0]) (by rfl) ?_
  refine zq_pfb hc hH (by rfl) (ci := 5) (f := 16) (by rfl) (by decide +kernel) (by rfl) (by decide) ?_
  show Z 0 17 [(0, .ref 0), (1, .int (nI s)), (2, .int 0)] [] (z_ui (z_ui (z_ui μ 0 8 (nI t)) 0 7 1) 0 16 0)
  refine z_rcs0 hc hH 2 (pc' := 19) (lv' := [(0, .ref 0), (1, .int (nI s)), (2, .int 0)]) (st' := [.long 0, .ref 0]) (by rfl) ?_
  refine zq_pfl hc hH (by rfl) (ci := 5) (f := 18) (by rfl) (by decide +kernel) (by rfl) ?_
  show Z 0 22 [(0, .ref 0), (1, .int (nI s)), (2, .int 0)] [] (z_uj (z_ui (z_ui (z_ui μ 0 8 (nI t)) 0 7 1) 0 16 0) 0 18 0)
  refine z_rcs0 hc hH 4 (pc' := 38) (lv' := [(0, .ref 0), (1, .int (nI s)), (2, .int 0)]) (st' := [.ref 0, .ref 0]) (by rfl) ?_
  refine zq_gfr hc hH (by rfl) (ci := 5) (f := 1) (q := 2) (by rfl) (by decide +kernel) (by rfl) (by decide +kernel) ?_
  refine zq_call hc (z_cx_ok hH (by rfl)) (gc_draw d' (by omega) (z_uj (z_ui (z_ui (z_ui μ 0 8 (nI t)) 0 7 1) 0 16 0) 0 18 0) n hn2 (by rw [uj_i, ui_o (by first | decide | omega), ui_o (by first | decide | omega), ui_o (by first | decide | omega)]; exact hn) (by rw [uj_i, ui_o (by first | decide | omega), ui_o (by first | decide | omega), ui_o (by first | decide | omega)]; exact h1)) (by decide +kernel) (fun r9 μ9 hq => ?_)
  obtain ⟨rfl, rfl⟩ := hq
  rw [uj_i, ui_o (by first | decide | omega), ui_o (by first | decide | omega), ui_o (by first | decide | omega)]
  show Z 0 44 [(0, .ref 0), (1, .int (nI s)), (2, .int 0)] [.int (μ.1 3 n), .ref 0] (z_ui (z_uj (z_ui (z_ui (z_ui μ 0 8 (nI t)) 0 7 1) 0 16 0) 0 18 0) 2 2 (nI (n + 1)))
  rw [hkk]
  refine zq_pfi hc hH (by rfl) (ci := 5) (f := 15) (by rfl) (by decide +kernel) (by rfl) ?_
  show Z 0 47 [(0, .ref 0), (1, .int (nI s)), (2, .int 0)] [] (z_ui (z_ui (z_uj (z_ui (z_ui (z_ui μ 0 8 (nI t)) 0 7 1) 0 16 0) 0 18 0) 2 2 (nI (n + 1))) 0 15 (nI k))
  refine z_rcs0 hc hH 2 (pc' := 49) (lv' := [(0, .ref 0), (1, .int (nI s)), (2, .int 0)]) (st' := [.ref 0, .ref 0]) (by rfl) ?_
  refine zq_gfi hc hH (by rfl) (ci := 5) (f := 8) (by rfl) (by decide +kernel) (by rfl) ?_
  refine zV1 (Z := Z) (Eq.trans (ui_k (by first | decide | omega)) (Eq.trans (ui_o (by first | decide | omega)) (Eq.trans uj_i (Eq.trans (ui_k (by first | decide | omega)) (Eq.trans (ui_k (by first | decide | omega)) (ui_s)))))) ?_
  refine zq_call hc (z_cx_ok hH (by rfl)) (gc_at4 d' (by omega) (z_ui (z_ui (z_uj (z_ui (z_ui (z_ui μ 0 8 (nI t)) 0 7 1) 0 16 0) 0 18 0) 2 2 (nI (n + 1))) 0 15 (nI k)) t ht4) (by decide +kernel) (fun r9 μ9 hq => ?_)
  obtain ⟨hμ9, rfl⟩ := hq
  rw [hμ9]
  clear hμ9 μ9
  show Z 0 55 [(0, .ref 0), (1, .int (nI s)), (2, .int 0)] [.ref (18 + 8 * t)] _
  refine z_rcs0 hc hH 2 (pc' := 57) (lv' := [(3, .ref (18 + 8 * t)), (0, .ref 0), (1, .int (nI s)), (2, .int 0)]) (st' := [.ref (18 + 8 * t)]) (by rfl) ?_
  refine zq_gfr hc hH (by rfl) (ci := 1) (f := 0) (q := 19 + 8 * t) (by rfl) (sj (P := fun i => okf 79 1 0 (18 + 8 * i)) ht4 (by decide +kernel)) (by rfl) (sj (P := fun i => Nat.beq (z_gr (18 + 8 * i) 0) (19 + 8 * i)) ht4 (by decide +kernel)) ?_
  refine z_rcs0 hc hH 1 (pc' := 61) (lv' := [(3, .ref (18 + 8 * t)), (0, .ref 0), (1, .int (nI s)), (2, .int 0)]) (st' := [.ref 0, .ref (19 + 8 * t)]) (by rfl) ?_
  refine zq_gfi hc hH (by rfl) (ci := 5) (f := 15) (by rfl) (by decide +kernel) (by rfl) ?_
  rw [ui_s]
  refine z_rcs0 hc hH 1 (pc' := 65) (lv' := [(3, .ref (18 + 8 * t)), (0, .ref 0), (1, .int (nI s)), (2, .int 0)]) (st' := [.int 1, .int (nI k), .ref (19 + 8 * t)]) (by rfl) ?_
  refine zq_call hc (z_clv9 hH (by rfl) (by rfl) (by rfl) (by rfl) (sj (P := fun i => okr 79 2 (19 + 8 * i)) ht4 (by decide +kernel)) (by rfl) (by rfl)) (gc_put d' (by omega) (z_ui (z_ui (z_uj (z_ui (z_ui (z_ui μ 0 8 (nI t)) 0 7 1) 0 16 0) 0 18 0) 2 2 (nI (n + 1))) 0 15 (nI k)) t ht4 k hk 1) (by decide +kernel) (fun r9 μ9 hq => ?_)
  obtain ⟨rfl, rfl⟩ := hq
  show Z 0 68 [(3, .ref (18 + 8 * t)), (0, .ref 0), (1, .int (nI s)), (2, .int 0)] [] (pS (z_ui (z_ui (z_uj (z_ui (z_ui (z_ui μ 0 8 (nI t)) 0 7 1) 0 16 0) 0 18 0) 2 2 (nI (n + 1))) 0 15 (nI k)) t k 1)
  refine z_rcs0 hc hH 1 (pc' := 69) (lv' := [(3, .ref (18 + 8 * t)), (0, .ref 0), (1, .int (nI s)), (2, .int 0)]) (st' := [.ref (18 + 8 * t)]) (by rfl) ?_
  refine zq_gfi hc hH (by rfl) (ci := 1) (f := 5) (by rfl) (sj (P := fun i => okf 79 1 5 (18 + 8 * i)) ht4 (by decide +kernel)) (by rfl) ?_
  rw [pS_o (by omega), ui_o (by first | decide | omega), ui_o (by first | decide | omega), uj_i, ui_o (by first | decide | omega), ui_o (by first | decide | omega), ui_o (by first | decide | omega)]
  refine zq_if hc hH (by rfl) (tg := 80) (by rfl) (fun h1 => ?_) (fun h1 => ?_)
  · have h1 : (decide ((μ.1 (18 + 8 * t) 5) = 0)) = false := decide_eq_false (cm_ne.mp h1)
    exact hr 0 80 _ _ _ none (by decide +kernel) (by rfl) (⟨rfl, (by unfold dT0; simp only [h1, cond_true, cond_false])⟩)
  · have h1 : (decide ((μ.1 (18 + 8 * t) 5) = 0)) = true := decide_eq_true (cn_ne.mp h1)
    refine z_rcs0 hc hH 2 (pc' := 77) (lv' := [(3, .ref (18 + 8 * t)), (0, .ref 0), (1, .int (nI s)), (2, .int 0)]) (st' := [.int 0, .ref (18 + 8 * t)]) (by rfl) ?_
    refine zq_pfb hc hH (by rfl) (ci := 1) (f := 8) (by rfl) (sj (P := fun i => okf 79 1 8 (18 + 8 * i)) ht4 (by decide +kernel)) (by rfl) (by decide) ?_
    show Z 0 80 [(3, .ref (18 + 8 * t)), (0, .ref 0), (1, .int (nI s)), (2, .int 0)] [] (z_ui (pS (z_ui (z_ui (z_uj (z_ui (z_ui (z_ui μ 0 8 (nI t)) 0 7 1) 0 16 0) 0 18 0) 2 2 (nI (n + 1))) 0 15 (nI k)) t k 1) (18 + 8 * t) 8 0)
    exact hr 0 80 _ _ _ none (by decide +kernel) (by rfl) (⟨rfl, (by unfold dT0; simp only [h1, cond_true, cond_false])⟩)
noncomputable def dT1 (μ : zM) (t n k : Nat) : zM := (bif decide ((μ.1 (18 + 8 * t) 5) = 0) then z_ui (pS (z_ui (z_ui (z_uj (z_ui (z_ui (z_ui μ 0 8 (nI t)) 0 7 1) 0 16 1) 0 18 0) 2 3 (nI (n + 1))) 0 15 (nI k)) t k 1) (18 + 8 * t) 8 0 else pS (z_ui (z_ui (z_uj (z_ui (z_ui (z_ui μ 0 8 (nI t)) 0 7 1) 0 16 1) 0 18 0) 2 3 (nI (n + 1))) 0 15 (nI k)) t k 1)
theorem gc_drawTile1 (d : Nat) (hd : 4 ≤ d) (μ : zM) (s t n k : Nat) (hs : s < 2147483648) (ht4 : t < 4) (hst : s % 4 = t) (hn2 : n < 14) (hn : μ.1 2 3 = nI n) (h1 : μ.1 2 1 = 1) (hk : k < 34) (hkk : μ.1 3 (122 + n) = nI k) : z_C d mi_X6_drawTile [.ref 0, .int (nI s), .int 1] μ (fun r μ' => r = none ∧ μ' = dT1 μ t n k) := by
  refine z_C_in (by decide) (by omega) (fun d' Z ed hc hr => ?_)
  have hH : zH mi_X6_drawTile zt_X6_drawTile 79 6 4 := hh_X6_drawTile
  refine z_rcs hc hH 4 (pc' := 4) (lv' := [(0, .ref 0), (1, .int (nI s)), (2, .int 1)]) (st' := [.int ((nI s) &&& 3), .ref 0]) (μ' := μ) (by rfl) ?_
  rw [show nI s &&& 3 = nI t from by rw [and3 hs, hst]]
  refine zq_pfi hc hH (by rfl) (ci := 5) (f := 8) (by rfl) (by decide +kernel) (by rfl) ?_
  show Z 0 7 [(0, .ref 0), (1, .int (nI s)), (2, .int 1)] [] (z_ui μ 0 8 (nI t))
  refine z_rcs hc hH 2 (pc' := 9) (lv' := [(0, .ref 0), (1, .int (nI s)), (2, .int 1)]) (st' := [.int 1, .ref 0]) (μ' := z_ui μ 0 8 (nI t)) (by rfl) ?_
  refine zq_pfi hc hH (by rfl) (ci := 5) (f := 7) (by rfl) (by decide +kernel) (by rfl) ?_
  show Z 0 12 [(0, .ref 0), (1, .int (nI s)), (2, .int 1)] [] (z_ui (z_ui μ 0 8 (nI t)) 0 7 1)
  refine z_rcs0 hc hH 2 (pc' := 14) (lv' := [(0, .ref 0), (1, .int (nI s)), (2, .int 1)]) (st' := [.int 1, .ref 0]) (by rfl) ?_
  refine zq_pfb hc hH (by rfl) (ci := 5) (f := 16) (by rfl) (by decide +kernel) (by rfl) (by decide) ?_
  show Z 0 17 [(0, .ref 0), (1, .int (nI s)), (2, .int 1)] [] (z_ui (z_ui (z_ui μ 0 8 (nI t)) 0 7 1) 0 16 1)
  refine z_rcs0 hc hH 2 (pc' := 19) (lv' := [(0, .ref 0), (1, .int (nI s)), (2, .int 1)]) (st' := [.long 0, .ref 0]) (by rfl) ?_
  refine zq_pfl hc hH (by rfl) (ci := 5) (f := 18) (by rfl) (by decide +kernel) (by rfl) ?_
  show Z 0 22 [(0, .ref 0), (1, .int (nI s)), (2, .int 1)] [] (z_uj (z_ui (z_ui (z_ui μ 0 8 (nI t)) 0 7 1) 0 16 1) 0 18 0)
  refine z_rcs0 hc hH 4 (pc' := 28) (lv' := [(0, .ref 0), (1, .int (nI s)), (2, .int 1)]) (st' := [.ref 0, .ref 0]) (by rfl) ?_
  refine zq_gfr hc hH (by rfl) (ci := 5) (f := 1) (q := 2) (by rfl) (by decide +kernel) (by rfl) (by decide +kernel) ?_
  refine zq_call hc (z_cx_ok hH (by rfl)) (gc_drawB d' (by omega) (z_uj (z_ui (z_ui (z_ui μ 0 8 (nI t)) 0 7 1) 0 16 1) 0 18 0) n hn2 (by rw [uj_i, ui_o (by first | decide | omega), ui_o (by first | decide | omega), ui_o (by first | decide | omega)]; exact hn) (by rw [uj_i, ui_o (by first | decide | omega), ui_o (by first | decide | omega), ui_o (by first | decide | omega)]; exact h1)) (by decide +kernel) (fun r9 μ9 hq => ?_)
  obtain ⟨rfl, rfl⟩ := hq
  rw [uj_i, ui_o (by first | decide | omega), ui_o (by first | decide | omega), ui_o (by first | decide | omega)]
  show Z 0 34 [(0, .ref 0), (1, .int (nI s)), (2, .int 1)] [.int (μ.1 3 (122 + n)), .ref 0] (z_ui (z_uj (z_ui (z_ui (z_ui μ 0 8 (nI t)) 0 7 1) 0 16 1) 0 18 0) 2 3 (nI (n + 1)))
  rw [hkk]
  refine z_rcs0 hc hH 1 (pc' := 44) (lv' := [(0, .ref 0), (1, .int (nI s)), (2, .int 1)]) (st' := [.int (nI k), .ref 0]) (by rfl) ?_
  refine zq_pfi hc hH (by rfl) (ci := 5) (f := 15) (by rfl) (by decide +kernel) (by rfl) ?_
  show Z 0 47 [(0, .ref 0), (1, .int (nI s)), (2, .int 1)] [] (z_ui (z_ui (z_uj (z_ui (z_ui (z_ui μ 0 8 (nI t)) 0 7 1) 0 16 1) 0 18 0) 2 3 (nI (n + 1))) 0 15 (nI k))
  refine z_rcs0 hc hH 2 (pc' := 49) (lv' := [(0, .ref 0), (1, .int (nI s)), (2, .int 1)]) (st' := [.ref 0, .ref 0]) (by rfl) ?_
  refine zq_gfi hc hH (by rfl) (ci := 5) (f := 8) (by rfl) (by decide +kernel) (by rfl) ?_
  refine zV1 (Z := Z) (Eq.trans (ui_k (by first | decide | omega)) (Eq.trans (ui_o (by first | decide | omega)) (Eq.trans uj_i (Eq.trans (ui_k (by first | decide | omega)) (Eq.trans (ui_k (by first | decide | omega)) (ui_s)))))) ?_
  refine zq_call hc (z_cx_ok hH (by rfl)) (gc_at4 d' (by omega) (z_ui (z_ui (z_uj (z_ui (z_ui (z_ui μ 0 8 (nI t)) 0 7 1) 0 16 1) 0 18 0) 2 3 (nI (n + 1))) 0 15 (nI k)) t ht4) (by decide +kernel) (fun r9 μ9 hq => ?_)
  obtain ⟨hμ9, rfl⟩ := hq
  rw [hμ9]
  clear hμ9 μ9
  show Z 0 55 [(0, .ref 0), (1, .int (nI s)), (2, .int 1)] [.ref (18 + 8 * t)] _
  refine z_rcs0 hc hH 2 (pc' := 57) (lv' := [(3, .ref (18 + 8 * t)), (0, .ref 0), (1, .int (nI s)), (2, .int 1)]) (st' := [.ref (18 + 8 * t)]) (by rfl) ?_
  refine zq_gfr hc hH (by rfl) (ci := 1) (f := 0) (q := 19 + 8 * t) (by rfl) (sj (P := fun i => okf 79 1 0 (18 + 8 * i)) ht4 (by decide +kernel)) (by rfl) (sj (P := fun i => Nat.beq (z_gr (18 + 8 * i) 0) (19 + 8 * i)) ht4 (by decide +kernel)) ?_
  refine z_rcs0 hc hH 1 (pc' := 61) (lv' := [(3, .ref (18 + 8 * t)), (0, .ref 0), (1, .int (nI s)), (2, .int 1)]) (st' := [.ref 0, .ref (19 + 8 * t)]) (by rfl) ?_
  refine zq_gfi hc hH (by rfl) (ci := 5) (f := 15) (by rfl) (by decide +kernel) (by rfl) ?_
  rw [ui_s]
  refine z_rcs0 hc hH 1 (pc' := 65) (lv' := [(3, .ref (18 + 8 * t)), (0, .ref 0), (1, .int (nI s)), (2, .int 1)]) (st' := [.int 1, .int (nI k), .ref (19 + 8 * t)]) (by rfl) ?_
  refine zq_call hc (z_clv9 hH (by rfl) (by rfl) (by rfl) (by rfl) (sj (P := fun i => okr 79 2 (19 + 8 * i)) ht4 (by decide +kernel)) (by rfl) (by rfl)) (gc_put d' (by omega) (z_ui (z_ui (z_uj (z_ui (z_ui (z_ui μ 0 8 (nI t)) 0 7 1) 0 16 1) 0 18 0) 2 3 (nI (n + 1))) 0 15 (nI k)) t ht4 k hk 1) (by decide +kernel) (fun r9 μ9 hq => ?_)
  obtain ⟨rfl, rfl⟩ := hq
  show Z 0 68 [(3, .ref (18 + 8 * t)), (0, .ref 0), (1, .int (nI s)), (2, .int 1)] [] (pS (z_ui (z_ui (z_uj (z_ui (z_ui (z_ui μ 0 8 (nI t)) 0 7 1) 0 16 1) 0 18 0) 2 3 (nI (n + 1))) 0 15 (nI k)) t k 1)
  refine z_rcs0 hc hH 1 (pc' := 69) (lv' := [(3, .ref (18 + 8 * t)), (0, .ref 0), (1, .int (nI s)), (2, .int 1)]) (st' := [.ref (18 + 8 * t)]) (by rfl) ?_
  refine zq_gfi hc hH (by rfl) (ci := 1) (f := 5) (by rfl) (sj (P := fun i => okf 79 1 5 (18 + 8 * i)) ht4 (by decide +kernel)) (by rfl) ?_
  rw [pS_o (by omega), ui_o (by first | decide | omega), ui_o (by first | decide | omega), uj_i, ui_o (by first | decide | omega), ui_o (by first | decide | omega), ui_o (by first | decide | omega)]
  refine zq_if hc hH (by rfl) (tg := 80) (by rfl) (fun h1 => ?_) (fun h1 => ?_)
  · have h1 : (decide ((μ.1 (18 + 8 * t) 5) = 0)) = false := decide_eq_false (cm_ne.mp h1)
    exact hr 0 80 _ _ _ none (by decide +kernel) (by rfl) (⟨rfl, (by unfold dT1; simp only [h1, cond_true, cond_false])⟩)
  · have h1 : (decide ((μ.1 (18 + 8 * t) 5) = 0)) = true := decide_eq_true (cn_ne.mp h1)
    refine z_rcs0 hc hH 2 (pc' := 77) (lv' := [(3, .ref (18 + 8 * t)), (0, .ref 0), (1, .int (nI s)), (2, .int 1)]) (st' := [.int 0, .ref (18 + 8 * t)]) (by rfl) ?_
    refine zq_pfb hc hH (by rfl) (ci := 1) (f := 8) (by rfl) (sj (P := fun i => okf 79 1 8 (18 + 8 * i)) ht4 (by decide +kernel)) (by rfl) (by decide) ?_
    show Z 0 80 [(3, .ref (18 + 8 * t)), (0, .ref 0), (1, .int (nI s)), (2, .int 1)] [] (z_ui (pS (z_ui (z_ui (z_uj (z_ui (z_ui (z_ui μ 0 8 (nI t)) 0 7 1) 0 16 1) 0 18 0) 2 3 (nI (n + 1))) 0 15 (nI k)) t k 1) (18 + 8 * t) 8 0)
    exact hr 0 80 _ _ _ none (by decide +kernel) (by rfl) (⟨rfl, (by unfold dT1; simp only [h1, cond_true, cond_false])⟩)
/-! a seat's tiles: what is known of the desk's goes over -/
set_option maxRecDepth 8000
theorem z_tr_lng {f : Nat → Nat} {v : Value} {n : Int64} (h : z_tr f v = .long n) : v = .long n := by
  cases v <;> first | exact h | (exact absurd h (by simp [z_tr]))
theorem map_int {f : Nat → Nat} {r : Option Value} {n : Int32} (h : r.map (z_tr f) = some (.int n)) : r = some (.int n) := by
  cases r with
  | none => exact absurd h (by simp)
  | some v =>
    have h2 : some (z_tr f v) = some (Value.int n) := h
    injection h2 with h2
    exact congrArg some (z_tr_int h2)
theorem map_lng {f : Nat → Nat} {r : Option Value} {n : Int64} (h : r.map (z_tr f) = some (.long n)) : r = some (.long n) := by
  cases r with
  | none => exact absurd h (by simp)
  | some v =>
    have h2 : some (z_tr f v) = some (Value.long n) := h
    injection h2 with h2
    exact congrArg some (z_tr_lng h2)
theorem map_non {f : Nat → Nat} {r : Option Value} (h : r.map (z_tr f) = none) : r = none := by
  cases r with
  | none => rfl
  | some v => exact absurd h (by simp)
theorem at_Ri {j : Nat} (hj : j < 4) {μ : zM} {m d : Nat} (hm : m ∈ JX) {As As' : List Value} (hA : Sg (sgm j) As = As') {n : Int32} (h : z_C d m As (sMm j μ) (zR (sMm j μ) (.int n))) : z_C d m As' μ (zR μ (.int n)) := by
  rw [← hA]
  refine z_C_mono (at_seat hj hm h) (fun r μ' z => ⟨?_, map_int z.2⟩)
  rw [← sM_sM hj μ', z.1, sM_sM hj]
theorem at_Rl {j : Nat} (hj : j < 4) {μ : zM} {m d : Nat} (hm : m ∈ JX) {As As' : List Value} (hA : Sg (sgm j) As = As') {n : Int64} (h : z_C d m As (sMm j μ) (zR (sMm j μ) (.long n))) : z_C d m As' μ (zR μ (.long n)) := by
  rw [← hA]
  refine z_C_mono (at_seat hj hm h) (fun r μ' z => ⟨?_, map_lng z.2⟩)
  rw [← sM_sM hj μ', z.1, sM_sM hj]
theorem at_B {j : Nat} (hj : j < 4) {μ : zM} {m d : Nat} (hm : m ∈ JX) {As As' : List Value} (hA : Sg (sgm j) As = As') {p : Prop} (h : z_C d m As (sMm j μ) (zB (sMm j μ) p)) : z_C d m As' μ (zB μ p) := by
  rw [← hA]
  refine z_C_mono (at_seat hj hm h) (fun r μ' z => ⟨?_, ?_⟩)
  · rw [← sM_sM hj μ', z.1, sM_sM hj]
  · rcases z.2 with ⟨e, h⟩ | ⟨e, h⟩
    · exact Or.inl ⟨map_int e, h⟩
    · exact Or.inr ⟨map_int e, h⟩
theorem at_N {j : Nat} (hj : j < 4) {μ : zM} {m d : Nat} (hm : m ∈ JX) {As As' : List Value} (hA : Sg (sgm j) As = As') {Q : zM → Prop} (h : z_C d m As (sMm j μ) (fun r μ' => r = none ∧ Q μ')) : z_C d m As' μ (fun r μ' => r = none ∧ Q (sMm j μ')) := by
  rw [← hA]
  exact z_C_mono (at_seat hj hm h) (fun r μ' z => ⟨map_non z.1, z.2⟩)
theorem sg9 {j : Nat} (hj : j < 4) {l : List Value} (hl : Sg (sgm j) l = l) : Sg (sgm j) (.ref 9 :: l) = .ref (19 + 8 * j) :: l := by
  show Value.ref (sgm j 9) :: Sg (sgm j) l = _
  rw [(sgm_r j hj).1, hl]
theorem gc_isOpen (d : Nat) (hd : 1 ≤ d) (μ : zM) (j : Nat) (hj : j < 4) (q : Nat) (hq : q ≤ 4) (e4 : μ.1 (19 + 8 * j) 4 = nI q) : z_C d mi_X3_isOpen [.ref (19 + 8 * j)] μ (zR μ (.int (nB (xOr (μ.1 (22 + 8 * j)) q)))) := by
  have z := fx_X3_isOpen d hd (sMm j μ) q hq (by rw [sM9 hj]; exact e4)
  have e : (sMm j μ).1 12 = μ.1 (22 + 8 * j) := by funext k; exact sM12 hj μ k
  rw [e] at z
  exact at_Ri hj (by decide) (sg9 hj rfl) z
theorem gc_waiting (d : Nat) (hd : 7 ≤ d) (μ : zM) (j : Nat) (hj : j < 4) (w : Nat → Nat) (q : Nat) (hw : RW μ (20 + 8 * j) w) (h4 : ∀ k, k < 34 → w k ≤ 4) (hq : q ≤ 4) (e4 : μ.1 (19 + 8 * j) 4 = nI q) (h11 : q = 0 → RW μ (21 + 8 * j) w) : z_C d mi_X3_waiting [.ref (19 + 8 * j)] μ (zR μ (.long (kb (wb (WX (sMm j μ) w q)) 34))) := by
  refine at_Rl hj (by decide) (sg9 hj rfl) (fx_X3_waiting d hd (sMm j μ) w q ?_ h4 hq (by rw [sM9 hj]; exact e4) ?_)
  · intro k hk; rw [sM10 hj]; exact hw k hk
  · intro h0 k hk; rw [sM11 hj]; exact h11 h0 k hk
theorem gc_waitsFor (d : Nat) (hd : 6 ≤ d) (μ : zM) (j : Nat) (hj : j < 4) (w : Nat → Nat) (q c : Nat) (hw : RW μ (20 + 8 * j) w) (h4 : ∀ k, k < 34 → w k ≤ 4) (hq : q ≤ 4) (e4 : μ.1 (19 + 8 * j) 4 = nI q) (h11 : q = 0 → RW μ (21 + 8 * j) w) (hcc : c < 34) : z_C d mi_X3_waitsFor [.ref (19 + 8 * j), .int (nI c)] μ (zB μ (WX (sMm j μ) w q c)) := by
  refine at_B hj (by decide) (sg9 hj rfl) (fx_X3_waitsFor d hd (sMm j μ) w q c ?_ h4 hq (by rw [sM9 hj]; exact e4) ?_ hcc)
  · intro k hk; rw [sM10 hj]; exact hw k hk
  · intro h0 k hk; rw [sM11 hj]; exact h11 h0 k hk
theorem gc_layDown (d : Nat) (hd : 2 ≤ d) (μ : zM) (j : Nat) (hj : j < 4) (s : Int32) (a q : Nat) (ham : a + zl s ≤ 33) (hq3 : q ≤ 3) (e4 : μ.1 (19 + 8 * j) 4 = nI q) : z_C d mi_X3_layDown [.ref (19 + 8 * j), .int s, .int (nI a)] μ (fun r μ' => r = none ∧ zLD (sMm j μ) s a q (sMm j μ')) :=
  at_N hj (by decide) (sg9 hj rfl) (fc_X3_layDown d hd (sMm j μ) s a q ham hq3 (by rw [sM9 hj]; exact e4))
theorem gc_kinds (d : Nat) (hd : 1 ≤ d) (μ : zM) (j : Nat) (hj : j < 4) (w : Nat → Nat) (hw : RW μ (21 + 8 * j) w) : z_C d mi_X3_kinds [.ref (19 + 8 * j)] μ (zR μ (.long (kb (fun k => decide (0 < w k)) 34))) := by
  refine at_Rl hj (by decide) (sg9 hj rfl) (fc_X3_kinds d hd (sMm j μ) w ?_)
  intro k hk; rw [sM11 hj]; exact hw k hk
theorem gc_size (d : Nat) (hd : 1 ≤ d) (μ : zM) (j : Nat) (hj : j < 4) : z_C d mi_X3_size [.ref (19 + 8 * j)] μ (zR μ (.int (μ.1 (19 + 8 * j) 5 + 3 * μ.1 (19 + 8 * j) 4))) := by
  have z := fc_X3_size d hd (sMm j μ)
  rw [sM9 hj, sM9 hj] at z
  exact at_Ri hj (by decide) (sg9 hj rfl) z
theorem a_abs_sg : ∀ j, j < 4 → ∀ r, r < 79 → z_lk a_abs (sgm j r) = z_lk a_abs r := by decide +kernel
theorem a_bd_sg {j : Nat} (hj : j < 4) (r k : Nat) : a_bd (sgm j r) k = a_bd r k := by
  by_cases c : r < 79
  · unfold a_bd a_abd
    rw [(sgm_lo j hj r c).2, a_abs_sg j hj r c]
  · rw [sgm_hi j hj r (by omega)]
theorem a_H_sg {j : Nat} (hj : j < 4) {μ : zM} (h : a_H μ) : a_H (sMm j μ) := by
  intro r k
  have z := h (sgm j r) k
  rw [a_bd_sg hj] at z
  exact z
theorem gc_judge (d : Nat) (hd : 8 ≤ d) (μ : zM) (j : Nat) (hj : j < 4) (w aw : Nat → Nat) (q : Nat) (hq : q ≤ 4) (sL lL : Nat → Nat) (hLb : ∀ i, i < q → sL i ≤ 3 ∧ lL i < 34) (hw4 : ∀ k, k < 34 → w k ≤ 4) (w10 : RW μ (20 + 8 * j) w) (w11 : RW μ (21 + 8 * j) aw) (w110 : q = 0 → ∀ k, k < 34 → aw k = w k) (d4 : μ.1 (19 + 8 * j) 4 = nI q) (d5 : μ.1 (19 + 8 * j) 5 = nI (sn w 34)) (hL : ∀ i, i < q → μ.1 (22 + 8 * j) i = nI (sL i) ∧ μ.1 (23 + 8 * j) i = nI (lL i)) (hH0 : a_H μ) (k wi de : Int32) (dr : Bool) (told : Int64) : z_C d mi_X1_judge [.ref 4, .ref (19 + 8 * j), .int k, .int (nB dr), .long told, .int wi, .int de] μ (fun r μ' => r = none ∧ a_H (sMm j μ') ∧ a_Fz mdJJ (sMm j μ) (sMm j μ') ∧ ((¬ (sn w 34 + 3 * q = 14 ∧ vp_in k 34 ∧ 0 < w k.toNatClampNeg) ∧ bqC (sMm j μ') = (0, 0, 0, 0)) ∨ ((sn w 34 + 3 * q = 14 ∧ vp_in k 34 ∧ 0 < w k.toNatClampNeg) ∧ ∃ κ, KC κ w aw q sL lL k dr told (27 + (wi &&& 3)) (rw9 wi) de ∧ CI (SCl κ w q sL lL 34) 5000 (sMm j μ')))) := by
  refine at_N hj (by decide) (As := [.ref 14, .ref 9, .int k, .int (nB dr), .long told, .int wi, .int de]) ?_ (fb_X1_judge d hd (sMm j μ) w aw q hq sL lL hLb hw4 ?_ ?_ w110 (by rw [sM9 hj]; exact d4) (by rw [sM9 hj]; exact d5) ?_ (a_H_sg hj hH0) k wi de dr told)
  · show [Value.ref (sgm j 14), .ref (sgm j 9), .int k, .int (nB dr), .long told, .int wi, .int de] = _
    rw [(sgm_r j hj).1, (sgm_r j hj).2.2.2.2.2.1]
  · intro k hk; rw [sM10 hj]; exact w10 k hk
  · intro k hk; rw [sM11 hj]; exact w11 k hk
  · intro i hi; rw [sM12 hj, sM13 hj]; exact hL i hi
/-! the game: throwing, letting go -/
set_option maxRecDepth 8000
theorem kn_l0 {n : Nat} (h : n < 2147483648) : decide (nI n < 0) = false := decide_eq_false (by rw [Int32.lt_iff_toInt_lt, nI_toInt h, show (0 : Int32).toInt = 0 from rfl]; omega)
theorem kn_le {n m : Nat} {M : Int32} (hM : M.toInt = (m : Int)) (h : n < 2147483648) (hm : n < m) : decide (M ≤ nI n) = false := decide_eq_false (by rw [Int32.le_iff_toInt_le, nI_toInt h, hM]; omega)
theorem kn_lt {n m : Nat} {M : Int32} (hM : M.toInt = (m : Int)) (h : n < 2147483648) (hm : n < m) : decide (nI n < M) = true := decide_eq_true (by rw [Int32.lt_iff_toInt_lt, nI_toInt h, hM]; omega)
theorem gc_empty (d : Nat) (hd : 1 ≤ d) (μ : zM) (j : Nat) (hj : j < 4) : z_C d mi_X3_empty [.ref (19 + 8 * j)] μ (fun r μ' => r = none ∧ (∀ k, k < 34 → μ'.1 (20 + 8 * j) k = 0 ∧ μ'.1 (21 + 8 * j) k = 0) ∧ μ'.1 (19 + 8 * j) 4 = 0 ∧ μ'.1 (19 + 8 * j) 5 = 0 ∧ (∀ r k, r ≠ 20 + 8 * j → r ≠ 21 + 8 * j → ¬ (r = 19 + 8 * j ∧ (k = 4 ∨ k = 5)) → μ'.1 r k = μ.1 r k) ∧ μ'.2.1 = μ.2.1) := by
  refine z_C_mono (at_N hj (by decide) (sg9 hj rfl) (fc_X3_empty d hd (sMm j μ))) (fun r μ' z => ⟨z.1, ?_⟩)
  obtain ⟨-, h1, h2, h3, h4, h5⟩ := z
  have hs : ∀ r, sgm j (sgm j r) = r := fun r => (RN_sgm j hj).1 r
  have q := sgm_r j hj
  refine ⟨fun k hk => ?_, ?_, ?_, fun r k a1 a2 a3 => ?_, ?_⟩
  · have := h1 k hk; rw [sM10 hj, sM11 hj] at this; exact this
  · rw [sM9 hj] at h2; exact h2
  · rw [sM9 hj] at h3; exact h3
  · have e : (sMm j μ').1 (sgm j r) k = (sMm j μ).1 (sgm j r) k := by
      refine h4 (sgm j r) k (fun e => a1 ?_) (fun e => a2 ?_) (fun e => a3 ⟨?_, e.2⟩)
      · rw [← hs r, e, q.2.1]
      · rw [← hs r, e, q.2.2.1]
      · rw [← hs r, e.1, q.1]
    show μ'.1 r k = μ.1 r k
    have e2 : μ'.1 (sgm j (sgm j r)) k = μ.1 (sgm j (sgm j r)) k := e
    rw [hs r] at e2
    exact e2
  · have e : (sMm j μ').2.1 = (sMm j μ).2.1 := by rw [h5]
    funext r k
    have e2 : (sMm j μ').2.1 (sgm j r) k = (sMm j μ).2.1 (sgm j r) k := by rw [e]
    have e3 : μ'.2.1 (sgm j (sgm j r)) k = μ.2.1 (sgm j (sgm j r)) k := e2
    rw [hs r] at e3
    exact e3
noncomputable def tT (μ : zM) (j k q : Nat) : zM := z_uj (z_ui (z_ui μ (24 + 8 * j) q (nI k)) (18 + 8 * j) 2 (nI (q + 1))) (18 + 8 * j) 3 ((μ.2.1 (18 + 8 * j) 3) ||| (1 <<< ((nI k).toInt64 &&& 63)))
theorem gc_throwTile (d : Nat) (hd : 1 ≤ d) (μ : zM) (j : Nat) (hj : j < 4) (k q : Nat) (hk : k < 34) (hq : q < 86) (e2 : μ.1 (18 + 8 * j) 2 = nI q) : z_C d mi_X2_throwTile [.ref (18 + 8 * j), .int (nI k)] μ (fun r μ' => r = none ∧ μ' = tT μ j k q) := by
  refine z_C_in (by decide) (by omega) (fun d' Z ed hc hr => ?_)
  have hH : zH mi_X2_throwTile zt_X2_throwTile 79 2 2 := hh_X2_throwTile
  refine z_rcs hc hH 1 (pc' := 1) (lv' := [(0, .ref (18 + 8 * j)), (1, .int (nI k))]) (st' := [.ref (18 + 8 * j)]) (μ' := μ) (by rfl) ?_
  refine zq_gfi hc hH (by rfl) (ci := 1) (f := 2) (by rfl) (sj (P := fun i => okf 79 1 2 (18 + 8 * i)) hj (by decide +kernel)) (by rfl) ?_
  rw [e2]
  refine zq_if hc hH (by rfl) (tg := 16) (by rfl) (fun h1 => ?_) (fun h1 => ?_)
  · have h1 : (decide ((nI q) < 0)) = true := decide_eq_true (cm_lt.mp h1)
    exact absurd (Eq.trans (Eq.symm (kn_l0 (by omega))) h1) (by decide)
  · have h1 : (decide ((nI q) < 0)) = false := decide_eq_false (cn_lt.mp h1)
    refine z_rcs hc hH 1 (pc' := 8) (lv' := [(0, .ref (18 + 8 * j)), (1, .int (nI k))]) (st' := [.ref (18 + 8 * j)]) (μ' := μ) (by rfl) ?_
    refine zq_gfi hc hH (by rfl) (ci := 1) (f := 2) (by rfl) (sj (P := fun i => okf 79 1 2 (18 + 8 * i)) hj (by decide +kernel)) (by rfl) ?_
    rw [e2]
    refine z_rcs hc hH 1 (pc' := 13) (lv' := [(0, .ref (18 + 8 * j)), (1, .int (nI k))]) (st' := [.int 86, .int (nI q)]) (μ' := μ) (by rfl) ?_
    refine zq_ic hc hH (by rfl) (tg := 17) (by rfl) (fun h2 => ?_) (fun h2 => ?_)
    · have h2 : (decide ((nI q) < 86)) = true := decide_eq_true (cm_lt.mp h2)
      refine z_rcs hc hH 1 (pc' := 18) (lv' := [(0, .ref (18 + 8 * j)), (1, .int (nI k))]) (st' := [.ref (18 + 8 * j)]) (μ' := μ) (by rfl) ?_
      refine zq_gfr hc hH (by rfl) (ci := 1) (f := 1) (q := 24 + 8 * j) (by rfl) (sj (P := fun i => okf 79 1 1 (18 + 8 * i)) hj (by decide +kernel)) (by rfl) (sj (P := fun i => Nat.beq (z_gr (18 + 8 * i) 1) (24 + 8 * i)) hj (by decide +kernel)) ?_
      refine z_rcs hc hH 1 (pc' := 22) (lv' := [(0, .ref (18 + 8 * j)), (1, .int (nI k))]) (st' := [.ref (18 + 8 * j), .ref (24 + 8 * j)]) (μ' := μ) (by rfl) ?_
      refine zq_gfi hc hH (by rfl) (ci := 1) (f := 2) (by rfl) (sj (P := fun i => okf 79 1 2 (18 + 8 * i)) hj (by decide +kernel)) (by rfl) ?_
      rw [e2]
      refine z_rcs hc hH 1 (pc' := 26) (lv' := [(0, .ref (18 + 8 * j)), (1, .int (nI k))]) (st' := [.int (nI k), .int (nI q), .ref (24 + 8 * j)]) (μ' := μ) (by rfl) ?_
      refine zq_iast hc hH (by rfl) 86 (oka_i (sj (P := fun i => oka 79 1 86 (24 + 8 * i)) hj (by decide +kernel))).2 (vp_in_nI (by omega) (by decide)) ?_
      rw [nI_clamp (by omega)]
      show Z 0 27 [(0, .ref (18 + 8 * j)), (1, .int (nI k))] [] (z_ui μ (24 + 8 * j) q (nI k))
      refine z_rcs0 hc hH 2 (pc' := 29) (lv' := [(0, .ref (18 + 8 * j)), (1, .int (nI k))]) (st' := [.ref (18 + 8 * j), .ref (18 + 8 * j)]) (by rfl) ?_
      refine zq_gfi hc hH (by rfl) (ci := 1) (f := 2) (by rfl) (sj (P := fun i => okf 79 1 2 (18 + 8 * i)) hj (by decide +kernel)) (by rfl) ?_
      refine zV1 (Z := Z) (ui_o (by first | decide | omega)) ?_
      rw [e2]
      refine z_rcs0 hc hH 2 (pc' := 34) (lv' := [(0, .ref (18 + 8 * j)), (1, .int (nI k))]) (st' := [.int ((nI q) + 1), .ref (18 + 8 * j)]) (by rfl) ?_
      rw [nI_s1]
      refine zq_pfi hc hH (by rfl) (ci := 1) (f := 2) (by rfl) (sj (P := fun i => okf 79 1 2 (18 + 8 * i)) hj (by decide +kernel)) (by rfl) ?_
      show Z 0 37 [(0, .ref (18 + 8 * j)), (1, .int (nI k))] [] (z_ui (z_ui μ (24 + 8 * j) q (nI k)) (18 + 8 * j) 2 (nI (q + 1)))
      refine z_rcs0 hc hH 2 (pc' := 39) (lv' := [(0, .ref (18 + 8 * j)), (1, .int (nI k))]) (st' := [.ref (18 + 8 * j), .ref (18 + 8 * j)]) (by rfl) ?_
      refine zq_gfl hc hH (by rfl) (ci := 1) (f := 3) (by rfl) (sj (P := fun i => okf 79 1 3 (18 + 8 * i)) hj (by decide +kernel)) (by rfl) ?_
      rw [ui_j, ui_j]
      refine z_rcs0 hc hH 4 (pc' := 46) (lv' := [(0, .ref (18 + 8 * j)), (1, .int (nI k))]) (st' := [.long ((μ.2.1 (18 + 8 * j) 3) ||| (1 <<< ((nI k).toInt64 &&& 63))), .ref (18 + 8 * j)]) (by rfl) ?_
      refine zq_pfl hc hH (by rfl) (ci := 1) (f := 3) (by rfl) (sj (P := fun i => okf 79 1 3 (18 + 8 * i)) hj (by decide +kernel)) (by rfl) ?_
      show Z 0 49 [(0, .ref (18 + 8 * j)), (1, .int (nI k))] [] (z_uj (z_ui (z_ui μ (24 + 8 * j) q (nI k)) (18 + 8 * j) 2 (nI (q + 1))) (18 + 8 * j) 3 ((μ.2.1 (18 + 8 * j) 3) ||| (1 <<< ((nI k).toInt64 &&& 63))))
      exact hr 0 49 _ _ _ none (by decide +kernel) (by rfl) (⟨rfl, rfl⟩)
    · have h2 : (decide ((nI q) < 86)) = false := decide_eq_false (cn_lt.mp h2)
      exact absurd (Eq.trans (Eq.symm (kn_lt (m := 86) rfl (by omega) (by omega))) h2) (by decide)
theorem gc_mayBet (d : Nat) (hd : 8 ≤ d) (μ : zM) (t : Nat) (ht4 : t < 4) (q : Nat) (hq : q ≤ 4) (e4 : μ.1 (19 + 8 * t) 4 = nI q) (wt : Int64) (hwt : ∀ d, 7 ≤ d → z_C d mi_X3_waiting [.ref (19 + 8 * t)] μ (zR μ (.long wt))) : z_C d mi_X6_mayBet [.ref 0, .ref (18 + 8 * t)] μ (zR μ (.int (nB ((decide ((μ.1 (18 + 8 * t) 5) = 0)) && (!(xOr (μ.1 (22 + 8 * t)) q) && (!(decide ((μ.1 (18 + 8 * t) 4) < 1000)) && (!(decide ((xLf μ) < 4)) && (!(decide ((lg_cmp wt 0) = 0)))))))))) := by
  refine z_C_in (by decide) (by omega) (fun d' Z ed hc hr => ?_)
  have hH : zH mi_X6_mayBet zt_X6_mayBet 79 6 2 := hh_X6_mayBet
  refine z_rcs hc hH 1 (pc' := 1) (lv' := [(0, .ref 0), (1, .ref (18 + 8 * t))]) (st' := [.ref (18 + 8 * t)]) (μ' := μ) (by rfl) ?_
  refine zq_gfi hc hH (by rfl) (ci := 1) (f := 5) (by rfl) (sj (P := fun i => okf 79 1 5 (18 + 8 * i)) ht4 (by decide +kernel)) (by rfl) ?_
  have hJ1 : Z 0 55 [(0, .ref 0), (1, .ref (18 + 8 * t))] [.int (nB ((decide ((μ.1 (18 + 8 * t) 5) = 0)) && (!(xOr (μ.1 (22 + 8 * t)) q) && (!(decide ((μ.1 (18 + 8 * t) 4) < 1000)) && (!(decide ((xLf μ) < 4)) && (!(decide ((lg_cmp wt 0) = 0))))))))] μ := by
    generalize hee2 : ((decide ((μ.1 (18 + 8 * t) 5) = 0)) && (!(xOr (μ.1 (22 + 8 * t)) q) && (!(decide ((μ.1 (18 + 8 * t) 4) < 1000)) && (!(decide ((xLf μ) < 4)) && (!(decide ((lg_cmp wt 0) = 0))))))) = ee2
    exact hr 0 55 _ _ _ (some (.int (nB ee2))) (by decide +kernel) ((fun b : Bool => (by cases b <;> rfl : z_rn mi_X6_mayBet 55 [.int (nB b)] = some (some (.int (nB b))))) ee2) (⟨rfl, (by subst hee2; rfl)⟩)
  refine zq_if hc hH (by rfl) (tg := 54) (by rfl) (fun h3 => ?_) (fun h3 => ?_)
  · have h3 : (decide ((μ.1 (18 + 8 * t) 5) = 0)) = false := decide_eq_false (cm_ne.mp h3)
    refine z_rcs hc hH 1 (pc' := 55) (lv' := [(0, .ref 0), (1, .ref (18 + 8 * t))]) (st' := [.int 0]) (μ' := μ) (by rfl) ?_
    exact zJ hJ1 rfl (by first | with_reducible rfl | (simp only [h3, lb_f, Int64.or_zero, Int32.add_zero, nB_t, nB_f, Bool.not_true, Bool.not_false, Bool.and_true, Bool.true_and, Bool.false_and, Bool.and_false, Bool.or_true, Bool.true_or, Bool.false_or, Bool.or_false, cond_true, cond_false]; done) | rfl) rfl
  · have h3 : (decide ((μ.1 (18 + 8 * t) 5) = 0)) = true := decide_eq_true (cn_ne.mp h3)
    refine z_rcs hc hH 1 (pc' := 8) (lv' := [(0, .ref 0), (1, .ref (18 + 8 * t))]) (st' := [.ref (18 + 8 * t)]) (μ' := μ) (by rfl) ?_
    refine zq_gfr hc hH (by rfl) (ci := 1) (f := 0) (q := 19 + 8 * t) (by rfl) (sj (P := fun i => okf 79 1 0 (18 + 8 * i)) ht4 (by decide +kernel)) (by rfl) (sj (P := fun i => Nat.beq (z_gr (18 + 8 * i) 0) (19 + 8 * i)) ht4 (by decide +kernel)) ?_
    refine zq_call hc (z_clv9 hH (by rfl) (by rfl) (by rfl) (by rfl) (sj (P := fun i => okr 79 2 (19 + 8 * i)) ht4 (by decide +kernel)) (by rfl) (by rfl)) (gc_isOpen d' (by omega) μ t ht4 q hq e4) (by decide +kernel) (fun r9 μ9 hq => ?_)
    obtain ⟨hμ9, rfl⟩ := hq
    rw [hμ9]
    clear hμ9 μ9
    show Z 0 14 [(0, .ref 0), (1, .ref (18 + 8 * t))] [.int (nB (xOr (μ.1 (22 + 8 * t)) q))] μ
    refine zq_if hc hH (by rfl) (tg := 54) (by rfl) (fun h4 => ?_) (fun h4 => ?_)
    · have h4 : (xOr (μ.1 (22 + 8 * t)) q) = true := nB_n.mp (cm_ne.mp h4)
      refine z_rcs hc hH 1 (pc' := 55) (lv' := [(0, .ref 0), (1, .ref (18 + 8 * t))]) (st' := [.int 0]) (μ' := μ) (by rfl) ?_
      exact zJ hJ1 rfl (by first | with_reducible rfl | (simp only [h3, h4, lb_f, Int64.or_zero, Int32.add_zero, nB_t, nB_f, Bool.not_true, Bool.not_false, Bool.and_true, Bool.true_and, Bool.false_and, Bool.and_false, Bool.or_true, Bool.true_or, Bool.false_or, Bool.or_false, cond_true, cond_false]; done) | rfl) rfl
    · have h4 : (xOr (μ.1 (22 + 8 * t)) q) = false := nB_z.mp (cn_ne.mp h4)
      refine z_rcs hc hH 1 (pc' := 18) (lv' := [(0, .ref 0), (1, .ref (18 + 8 * t))]) (st' := [.ref (18 + 8 * t)]) (μ' := μ) (by rfl) ?_
      refine zq_gfi hc hH (by rfl) (ci := 1) (f := 4) (by rfl) (sj (P := fun i => okf 79 1 4 (18 + 8 * i)) ht4 (by decide +kernel)) (by rfl) ?_
      refine z_rcs hc hH 1 (pc' := 24) (lv' := [(0, .ref 0), (1, .ref (18 + 8 * t))]) (st' := [.int 1000, .int (μ.1 (18 + 8 * t) 4)]) (μ' := μ) (by rfl) ?_
      refine zq_ic hc hH (by rfl) (tg := 54) (by rfl) (fun h5 => ?_) (fun h5 => ?_)
      · have h5 : (decide ((μ.1 (18 + 8 * t) 4) < 1000)) = true := decide_eq_true (cm_lt.mp h5)
        refine z_rcs hc hH 1 (pc' := 55) (lv' := [(0, .ref 0), (1, .ref (18 + 8 * t))]) (st' := [.int 0]) (μ' := μ) (by rfl) ?_
        exact zJ hJ1 rfl (by first | with_reducible rfl | (simp only [h3, h4, h5, lb_f, Int64.or_zero, Int32.add_zero, nB_t, nB_f, Bool.not_true, Bool.not_false, Bool.and_true, Bool.true_and, Bool.false_and, Bool.and_false, Bool.or_true, Bool.true_or, Bool.false_or, Bool.or_false, cond_true, cond_false]; done) | rfl) rfl
      · have h5 : (decide ((μ.1 (18 + 8 * t) 4) < 1000)) = false := decide_eq_false (cn_lt.mp h5)
        refine z_rcs hc hH 1 (pc' := 28) (lv' := [(0, .ref 0), (1, .ref (18 + 8 * t))]) (st' := [.ref 0]) (μ' := μ) (by rfl) ?_
        refine zq_gfr hc hH (by rfl) (ci := 5) (f := 1) (q := 2) (by rfl) (by decide +kernel) (by rfl) (by decide +kernel) ?_
        refine zq_call hc (z_cx_ok hH (by rfl)) (gc_left d' (by omega) μ) (by decide +kernel) (fun r9 μ9 hq => ?_)
        obtain ⟨hμ9, rfl⟩ := hq
        rw [hμ9]
        clear hμ9 μ9
        show Z 0 34 [(0, .ref 0), (1, .ref (18 + 8 * t))] [.int (xLf μ)] μ
        refine z_rcs hc hH 1 (pc' := 35) (lv' := [(0, .ref 0), (1, .ref (18 + 8 * t))]) (st' := [.int 4, .int (xLf μ)]) (μ' := μ) (by rfl) ?_
        refine zq_ic hc hH (by rfl) (tg := 54) (by rfl) (fun h6 => ?_) (fun h6 => ?_)
        · have h6 : (decide ((xLf μ) < 4)) = true := decide_eq_true (cm_lt.mp h6)
          refine z_rcs hc hH 1 (pc' := 55) (lv' := [(0, .ref 0), (1, .ref (18 + 8 * t))]) (st' := [.int 0]) (μ' := μ) (by rfl) ?_
          exact zJ hJ1 rfl (by first | with_reducible rfl | (simp only [h3, h4, h5, h6, lb_f, Int64.or_zero, Int32.add_zero, nB_t, nB_f, Bool.not_true, Bool.not_false, Bool.and_true, Bool.true_and, Bool.false_and, Bool.and_false, Bool.or_true, Bool.true_or, Bool.false_or, Bool.or_false, cond_true, cond_false]; done) | rfl) rfl
        · have h6 : (decide ((xLf μ) < 4)) = false := decide_eq_false (cn_lt.mp h6)
          refine z_rcs hc hH 1 (pc' := 39) (lv' := [(0, .ref 0), (1, .ref (18 + 8 * t))]) (st' := [.ref (18 + 8 * t)]) (μ' := μ) (by rfl) ?_
          refine zq_gfr hc hH (by rfl) (ci := 1) (f := 0) (q := 19 + 8 * t) (by rfl) (sj (P := fun i => okf 79 1 0 (18 + 8 * i)) ht4 (by decide +kernel)) (by rfl) (sj (P := fun i => Nat.beq (z_gr (18 + 8 * i) 0) (19 + 8 * i)) ht4 (by decide +kernel)) ?_
          refine zq_call hc (z_clv9 hH (by rfl) (by rfl) (by rfl) (by rfl) (sj (P := fun i => okr 79 2 (19 + 8 * i)) ht4 (by decide +kernel)) (by rfl) (by rfl)) (hwt d' (by omega)) (by decide +kernel) (fun r9 μ9 hq => ?_)
          obtain ⟨hμ9, rfl⟩ := hq
          rw [hμ9]
          clear hμ9 μ9
          show Z 0 45 [(0, .ref 0), (1, .ref (18 + 8 * t))] [.long wt] μ
          refine z_rcs hc hH 2 (pc' := 47) (lv' := [(0, .ref 0), (1, .ref (18 + 8 * t))]) (st' := [.int (lg_cmp wt 0)]) (μ' := μ) (by rfl) ?_
          refine zq_if hc hH (by rfl) (tg := 54) (by rfl) (fun h7 => ?_) (fun h7 => ?_)
          · have h7 : (decide ((lg_cmp wt 0) = 0)) = true := decide_eq_true (cm_eq9.mp h7)
            refine z_rcs hc hH 1 (pc' := 55) (lv' := [(0, .ref 0), (1, .ref (18 + 8 * t))]) (st' := [.int 0]) (μ' := μ) (by rfl) ?_
            exact zJ hJ1 rfl (by first | with_reducible rfl | (simp only [h3, h4, h5, h6, h7, lb_f, Int64.or_zero, Int32.add_zero, nB_t, nB_f, Bool.not_true, Bool.not_false, Bool.and_true, Bool.true_and, Bool.false_and, Bool.and_false, Bool.or_true, Bool.true_or, Bool.false_or, Bool.or_false, cond_true, cond_false]; done) | rfl) rfl
          · have h7 : (decide ((lg_cmp wt 0) = 0)) = false := decide_eq_false (cn_eq.mp h7)
            refine z_rcs hc hH 2 (pc' := 55) (lv' := [(0, .ref 0), (1, .ref (18 + 8 * t))]) (st' := [.int 1]) (μ' := μ) (by rfl) ?_
            exact zJ hJ1 rfl (by first | with_reducible rfl | (simp only [h3, h4, h5, h6, h7, lb_f, Int64.or_zero, Int32.add_zero, nB_t, nB_f, Bool.not_true, Bool.not_false, Bool.and_true, Bool.true_and, Bool.false_and, Bool.and_false, Bool.or_true, Bool.true_or, Bool.false_or, Bool.or_false, cond_true, cond_false]; done) | rfl) rfl
/-! the game: letting go, exactly -/
set_option maxRecDepth 8000
/-- these seats' tiles are as before -/
noncomputable def TE (μ μ' : zM) : Prop := ∀ i, i < 4 → ∀ a, 19 ≤ a → a ≤ 23 → ∀ k, μ'.1 (a + 8 * i) k = μ.1 (a + 8 * i) k
theorem TE_rf (μ : zM) : TE μ μ := fun _ _ _ _ _ _ => rfl
theorem TE_tr {μ μ1 μ2 : zM} (h : TE μ μ1) (h2 : TE μ1 μ2) : TE μ μ2 := fun i hi a h1 h3 k => (h2 i hi a h1 h3 k).trans (h i hi a h1 h3 k)
theorem TE_ui {μ μ1 : zM} (h : TE μ μ1) {r k : Nat} {x : Int32} (hr : ∀ i a, i < 4 → 19 ≤ a → a ≤ 23 → a + 8 * i ≠ r) : TE μ (z_ui μ1 r k x) := fun i hi a h1 h2 k' => (ui_o (hr i a hi h1 h2)).trans (h i hi a h1 h2 k')
theorem TE_uj {μ μ1 : zM} (h : TE μ μ1) {r k : Nat} {x : Int64} : TE μ (z_uj μ1 r k x) := h
/-- a seat lets go -/
noncomputable def lgS (μ : zM) (u : Nat) (c : Bool) : zM := bif c then z_ui μ (18 + 8 * u) 8 1 else μ
theorem lgS_k {μ : zM} {u r k : Nat} {c : Bool} (h : k ≠ 8) : (lgS μ u c).1 r k = μ.1 r k := by
  unfold lgS; cases c
  · rfl
  · exact ui_k h
theorem lgS_o {μ : zM} {u r k : Nat} {c : Bool} (h : r ≠ 18 + 8 * u) : (lgS μ u c).1 r k = μ.1 r k := by
  unfold lgS; cases c
  · rfl
  · exact ui_o h
theorem lgS_j {μ : zM} {u r k : Nat} {c : Bool} : (lgS μ u c).2.1 r k = μ.2.1 r k := by unfold lgS; cases c <;> rfl
theorem TE_lg {μ μ1 : zM} (h : TE μ μ1) {u : Nat} {c : Bool} : TE μ (lgS μ1 u c) := by
  unfold lgS; cases c
  · exact h
  · exact TE_ui h (by intro i a hi h1 h2; omega)
noncomputable def lT (μ : zM) (t u1 u2 u3 : Nat) (c1 c2 c3 : Bool) : zM := (bif decide ((μ.1 (18 + 8 * t) 6) = 0) then lgS (lgS (lgS μ u1 c1) u2 c2) u3 c3 else z_ui (z_ui (z_ui (lgS (lgS (lgS μ u1 c1) u2 c2) u3 c3) (18 + 8 * t) 6 0) (18 + 8 * t) 4 ((μ.1 (18 + 8 * t) 4) - 1000)) 0 12 ((μ.1 0 12) + 1))
theorem gc_letTileGo (d : Nat) (hd : 7 ≤ d) (μ : zM) (t c u1 u2 u3 : Nat) (c1 c2 c3 : Bool) (ht4 : t < 4) (ht : μ.1 0 8 = nI t) (hc34 : c < 34) (hc15 : μ.1 0 15 = nI c) (hu1 : (t + 1) % 4 = u1) (hu14 : u1 < 4) (hw1 : ∀ μ1, TE μ μ1 → ∀ d, 6 ≤ d → z_C d mi_X3_waitsFor [.ref (19 + 8 * u1), .int (nI c)] μ1 (zR μ1 (.int (nB c1)))) (hu2 : (t + 2) % 4 = u2) (hu24 : u2 < 4) (hw2 : ∀ μ1, TE μ μ1 → ∀ d, 6 ≤ d → z_C d mi_X3_waitsFor [.ref (19 + 8 * u2), .int (nI c)] μ1 (zR μ1 (.int (nB c2)))) (hu3 : (t + 3) % 4 = u3) (hu34 : u3 < 4) (hw3 : ∀ μ1, TE μ μ1 → ∀ d, 6 ≤ d → z_C d mi_X3_waitsFor [.ref (19 + 8 * u3), .int (nI c)] μ1 (zR μ1 (.int (nB c3)))) : z_C d mi_X6_letTileGo [.ref 0] μ (fun r μ' => r = none ∧ μ' = lT μ t u1 u2 u3 c1 c2 c3) := by
  refine z_C_in (by decide) (by omega) (fun d' Z ed hc hr => ?_)
  have hH : zH mi_X6_letTileGo zt_X6_letTileGo 79 6 3 := hh_X6_letTileGo
  refine z_rcs hc hH 7 (pc' := 9) (lv' := [(1, .int 1), (0, .ref 0)]) (st' := [.ref 0, .ref 0]) (μ' := μ) (by rfl) ?_
  refine zq_gfi hc hH (by rfl) (ci := 5) (f := 8) (by rfl) (by decide +kernel) (by rfl) ?_
  rw [ht]
  refine z_rcs hc hH 2 (pc' := 14) (lv' := [(1, .int 1), (0, .ref 0)]) (st' := [.int ((nI t) + 1), .ref 0]) (μ' := μ) (by rfl) ?_
  rw [show nI t + 1 = nI (t + 1) from by rw [show (1 : Int32) = nI 1 from rfl, nI_add]]
  refine zq_call hc (z_cx_ok hH (by rfl)) (gc_atm d' (by omega) μ (t + 1) u1 (by omega) hu1) (by decide +kernel) (fun r9 μ9 hq => ?_)
  obtain ⟨hμ9, rfl⟩ := hq
  rw [hμ9]
  clear hμ9 μ9
  show Z 0 17 [(1, .int 1), (0, .ref 0)] [.ref (18 + 8 * u1)] μ
  refine z_rcs hc hH 2 (pc' := 19) (lv' := [(2, .ref (18 + 8 * u1)), (1, .int 1), (0, .ref 0)]) (st' := [.ref (18 + 8 * u1)]) (μ' := μ) (by rfl) ?_
  refine zq_gfr hc hH (by rfl) (ci := 1) (f := 0) (q := 19 + 8 * u1) (by rfl) (sj (P := fun i => okf 79 1 0 (18 + 8 * i)) hu14 (by decide +kernel)) (by rfl) (sj (P := fun i => Nat.beq (z_gr (18 + 8 * i) 0) (19 + 8 * i)) hu14 (by decide +kernel)) ?_
  refine z_rcs hc hH 1 (pc' := 23) (lv' := [(2, .ref (18 + 8 * u1)), (1, .int 1), (0, .ref 0)]) (st' := [.ref 0, .ref (19 + 8 * u1)]) (μ' := μ) (by rfl) ?_
  refine zq_gfi hc hH (by rfl) (ci := 5) (f := 15) (by rfl) (by decide +kernel) (by rfl) ?_
  rw [hc15]
  refine zq_call hc (z_clv9 hH (by rfl) (by rfl) (by rfl) (by rfl) (sj (P := fun i => okr 79 2 (19 + 8 * i)) hu14 (by decide +kernel)) (by rfl) (by rfl)) (hw1 _ (TE_rf _) d' (by omega)) (by decide +kernel) (fun r9 μ9 hq => ?_)
  obtain ⟨hμ9, rfl⟩ := hq
  rw [hμ9]
  clear hμ9 μ9
  show Z 0 29 [(2, .ref (18 + 8 * u1)), (1, .int 1), (0, .ref 0)] [.int (nB c1)] μ
  have hJ1 : Z 0 37 [(2, .ref (18 + 8 * u1)), (1, .int 1), (0, .ref 0)] [] (lgS μ u1 c1) := by
    refine z_rcs hc hH 7 (pc' := 9) (lv' := [(1, .int 2), (2, .ref (18 + 8 * u1)), (0, .ref 0)]) (st' := [.ref 0, .ref 0]) (μ' := lgS μ u1 c1) (by rfl) ?_
    refine zq_gfi hc hH (by rfl) (ci := 5) (f := 8) (by rfl) (by decide +kernel) (by rfl) ?_
    rw [lgS_o (by omega)]
    rw [ht]
    refine z_rcs hc hH 2 (pc' := 14) (lv' := [(1, .int 2), (2, .ref (18 + 8 * u1)), (0, .ref 0)]) (st' := [.int ((nI t) + 2), .ref 0]) (μ' := lgS μ u1 c1) (by rfl) ?_
    rw [show nI t + 2 = nI (t + 2) from by rw [show (2 : Int32) = nI 2 from rfl, nI_add]]
    refine zq_call hc (z_cx_ok hH (by rfl)) (gc_atm d' (by omega) (lgS μ u1 c1) (t + 2) u2 (by omega) hu2) (by decide +kernel) (fun r9 μ9 hq => ?_)
    obtain ⟨hμ9, rfl⟩ := hq
    rw [hμ9]
    clear hμ9 μ9
    show Z 0 17 [(1, .int 2), (2, .ref (18 + 8 * u1)), (0, .ref 0)] [.ref (18 + 8 * u2)] (lgS μ u1 c1)
    refine z_rcs hc hH 2 (pc' := 19) (lv' := [(2, .ref (18 + 8 * u2)), (1, .int 2), (0, .ref 0)]) (st' := [.ref (18 + 8 * u2)]) (μ' := lgS μ u1 c1) (by rfl) ?_
    refine zq_gfr hc hH (by rfl) (ci := 1) (f := 0) (q := 19 + 8 * u2) (by rfl) (sj (P := fun i => okf 79 1 0 (18 + 8 * i)) hu24 (by decide +kernel)) (by rfl) (sj (P := fun i => Nat.beq (z_gr (18 + 8 * i) 0) (19 + 8 * i)) hu24 (by decide +kernel)) ?_
    refine z_rcs hc hH 1 (pc' := 23) (lv' := [(2, .ref (18 + 8 * u2)), (1, .int 2), (0, .ref 0)]) (st' := [.ref 0, .ref (19 + 8 * u2)]) (μ' := lgS μ u1 c1) (by rfl) ?_
    refine zq_gfi hc hH (by rfl) (ci := 5) (f := 15) (by rfl) (by decide +kernel) (by rfl) ?_
    rw [lgS_k (by omega)]
    rw [hc15]
    refine zq_call hc (z_clv9 hH (by rfl) (by rfl) (by rfl) (by rfl) (sj (P := fun i => okr 79 2 (19 + 8 * i)) hu24 (by decide +kernel)) (by rfl) (by rfl)) (hw2 _ (TE_lg (TE_rf _)) d' (by omega)) (by decide +kernel) (fun r9 μ9 hq => ?_)
    obtain ⟨hμ9, rfl⟩ := hq
    rw [hμ9]
    clear hμ9 μ9
    show Z 0 29 [(2, .ref (18 + 8 * u2)), (1, .int 2), (0, .ref 0)] [.int (nB c2)] (lgS μ u1 c1)
    have hJ2 : Z 0 37 [(2, .ref (18 + 8 * u2)), (1, .int 2), (0, .ref 0)] [] (lgS (lgS μ u1 c1) u2 c2) := by
      refine z_rcs0 hc hH 7 (pc' := 9) (lv' := [(1, .int 3), (2, .ref (18 + 8 * u2)), (0, .ref 0)]) (st' := [.ref 0, .ref 0]) (by rfl) ?_
      refine zq_gfi hc hH (by rfl) (ci := 5) (f := 8) (by rfl) (by decide +kernel) (by rfl) ?_
      rw [lgS_o (by omega), lgS_o (by omega)]
      rw [ht]
      refine z_rcs0 hc hH 2 (pc' := 14) (lv' := [(1, .int 3), (2, .ref (18 + 8 * u2)), (0, .ref 0)]) (st' := [.int ((nI t) + 3), .ref 0]) (by rfl) ?_
      rw [show nI t + 3 = nI (t + 3) from by rw [show (3 : Int32) = nI 3 from rfl, nI_add]]
      refine zq_call hc (z_cx_ok hH (by rfl)) (gc_atm d' (by omega) (lgS (lgS μ u1 c1) u2 c2) (t + 3) u3 (by omega) hu3) (by decide +kernel) (fun r9 μ9 hq => ?_)
      obtain ⟨hμ9, rfl⟩ := hq
      rw [hμ9]
      clear hμ9 μ9
      show Z 0 17 [(1, .int 3), (2, .ref (18 + 8 * u2)), (0, .ref 0)] [.ref (18 + 8 * u3)] _
      refine z_rcs0 hc hH 2 (pc' := 19) (lv' := [(2, .ref (18 + 8 * u3)), (1, .int 3), (0, .ref 0)]) (st' := [.ref (18 + 8 * u3)]) (by rfl) ?_
      refine zq_gfr hc hH (by rfl) (ci := 1) (f := 0) (q := 19 + 8 * u3) (by rfl) (sj (P := fun i => okf 79 1 0 (18 + 8 * i)) hu34 (by decide +kernel)) (by rfl) (sj (P := fun i => Nat.beq (z_gr (18 + 8 * i) 0) (19 + 8 * i)) hu34 (by decide +kernel)) ?_
      refine z_rcs0 hc hH 1 (pc' := 23) (lv' := [(2, .ref (18 + 8 * u3)), (1, .int 3), (0, .ref 0)]) (st' := [.ref 0, .ref (19 + 8 * u3)]) (by rfl) ?_
      refine zq_gfi hc hH (by rfl) (ci := 5) (f := 15) (by rfl) (by decide +kernel) (by rfl) ?_
      rw [lgS_k (by omega), lgS_k (by omega)]
      rw [hc15]
      refine zq_call hc (z_clv9 hH (by rfl) (by rfl) (by rfl) (by rfl) (sj (P := fun i => okr 79 2 (19 + 8 * i)) hu34 (by decide +kernel)) (by rfl) (by rfl)) (hw3 _ (TE_lg (TE_lg (TE_rf _))) d' (by omega)) (by decide +kernel) (fun r9 μ9 hq => ?_)
      obtain ⟨hμ9, rfl⟩ := hq
      rw [hμ9]
      clear hμ9 μ9
      show Z 0 29 [(2, .ref (18 + 8 * u3)), (1, .int 3), (0, .ref 0)] [.int (nB c3)] _
      have hJ3 : Z 0 37 [(2, .ref (18 + 8 * u3)), (1, .int 3), (0, .ref 0)] [] (lgS (lgS (lgS μ u1 c1) u2 c2) u3 c3) := by
        refine z_rcs0 hc hH 7 (pc' := 45) (lv' := [(1, .int 4), (2, .ref (18 + 8 * u3)), (0, .ref 0)]) (st' := [.ref 0, .ref 0]) (by rfl) ?_
        refine zq_gfi hc hH (by rfl) (ci := 5) (f := 8) (by rfl) (by decide +kernel) (by rfl) ?_
        rw [lgS_o (by omega), lgS_o (by omega), lgS_o (by omega)]
        rw [ht]
        refine zq_call hc (z_cx_ok hH (by rfl)) (gc_at4 d' (by omega) (lgS (lgS (lgS μ u1 c1) u2 c2) u3 c3) t ht4) (by decide +kernel) (fun r9 μ9 hq => ?_)
        obtain ⟨hμ9, rfl⟩ := hq
        rw [hμ9]
        clear hμ9 μ9
        show Z 0 51 [(1, .int 4), (2, .ref (18 + 8 * u3)), (0, .ref 0)] [.ref (18 + 8 * t)] _
        refine z_rcs0 hc hH 2 (pc' := 53) (lv' := [(1, .ref (18 + 8 * t)), (2, .ref (18 + 8 * u3)), (0, .ref 0)]) (st' := [.ref (18 + 8 * t)]) (by rfl) ?_
        refine zq_gfi hc hH (by rfl) (ci := 1) (f := 6) (by rfl) (sj (P := fun i => okf 79 1 6 (18 + 8 * i)) ht4 (by decide +kernel)) (by rfl) ?_
        rw [lgS_k (by omega), lgS_k (by omega), lgS_k (by omega)]
        refine zq_if hc hH (by rfl) (tg := 86) (by rfl) (fun h4 => ?_) (fun h4 => ?_)
        · have h4 : (decide ((μ.1 (18 + 8 * t) 6) = 0)) = true := decide_eq_true (cm_eq9.mp h4)
          exact hr 0 86 _ _ _ none (by decide +kernel) (by rfl) (⟨rfl, (by unfold lT; simp only [h4, cond_true, cond_false])⟩)
        · have h4 : (decide ((μ.1 (18 + 8 * t) 6) = 0)) = false := decide_eq_false (cn_eq.mp h4)
          refine z_rcs0 hc hH 2 (pc' := 61) (lv' := [(1, .ref (18 + 8 * t)), (2, .ref (18 + 8 * u3)), (0, .ref 0)]) (st' := [.int 0, .ref (18 + 8 * t)]) (by rfl) ?_
          refine zq_pfb hc hH (by rfl) (ci := 1) (f := 6) (by rfl) (sj (P := fun i => okf 79 1 6 (18 + 8 * i)) ht4 (by decide +kernel)) (by rfl) (by decide) ?_
          show Z 0 64 [(1, .ref (18 + 8 * t)), (2, .ref (18 + 8 * u3)), (0, .ref 0)] [] (z_ui (lgS (lgS (lgS μ u1 c1) u2 c2) u3 c3) (18 + 8 * t) 6 0)
          refine z_rcs0 hc hH 2 (pc' := 66) (lv' := [(1, .ref (18 + 8 * t)), (2, .ref (18 + 8 * u3)), (0, .ref 0)]) (st' := [.ref (18 + 8 * t), .ref (18 + 8 * t)]) (by rfl) ?_
          refine zq_gfi hc hH (by rfl) (ci := 1) (f := 4) (by rfl) (sj (P := fun i => okf 79 1 4 (18 + 8 * i)) ht4 (by decide +kernel)) (by rfl) ?_
          rw [ui_k (by first | decide | omega), lgS_k (by omega), lgS_k (by omega), lgS_k (by omega)]
          refine z_rcs0 hc hH 2 (pc' := 73) (lv' := [(1, .ref (18 + 8 * t)), (2, .ref (18 + 8 * u3)), (0, .ref 0)]) (st' := [.int ((μ.1 (18 + 8 * t) 4) - 1000), .ref (18 + 8 * t)]) (by rfl) ?_
          refine zq_pfi hc hH (by rfl) (ci := 1) (f := 4) (by rfl) (sj (P := fun i => okf 79 1 4 (18 + 8 * i)) ht4 (by decide +kernel)) (by rfl) ?_
          show Z 0 76 [(1, .ref (18 + 8 * t)), (2, .ref (18 + 8 * u3)), (0, .ref 0)] [] (z_ui (z_ui (lgS (lgS (lgS μ u1 c1) u2 c2) u3 c3) (18 + 8 * t) 6 0) (18 + 8 * t) 4 ((μ.1 (18 + 8 * t) 4) - 1000))
          refine z_rcs0 hc hH 2 (pc' := 78) (lv' := [(1, .ref (18 + 8 * t)), (2, .ref (18 + 8 * u3)), (0, .ref 0)]) (st' := [.ref 0, .ref 0]) (by rfl) ?_
          refine zq_gfi hc hH (by rfl) (ci := 5) (f := 12) (by rfl) (by decide +kernel) (by rfl) ?_
          rw [ui_o (by first | decide | omega), ui_o (by first | decide | omega), lgS_k (by omega), lgS_k (by omega), lgS_k (by omega)]
          refine z_rcs0 hc hH 2 (pc' := 83) (lv' := [(1, .ref (18 + 8 * t)), (2, .ref (18 + 8 * u3)), (0, .ref 0)]) (st' := [.int ((μ.1 0 12) + 1), .ref 0]) (by rfl) ?_
          refine zq_pfi hc hH (by rfl) (ci := 5) (f := 12) (by rfl) (by decide +kernel) (by rfl) ?_
          show Z 0 86 [(1, .ref (18 + 8 * t)), (2, .ref (18 + 8 * u3)), (0, .ref 0)] [] (z_ui (z_ui (z_ui (lgS (lgS (lgS μ u1 c1) u2 c2) u3 c3) (18 + 8 * t) 6 0) (18 + 8 * t) 4 ((μ.1 (18 + 8 * t) 4) - 1000)) 0 12 ((μ.1 0 12) + 1))
          exact hr 0 86 _ _ _ none (by decide +kernel) (by rfl) (⟨rfl, (by unfold lT; simp only [h4, cond_true, cond_false])⟩)
      refine zq_if hc hH (by rfl) (tg := 37) (by rfl) (fun h5 => ?_) (fun h5 => ?_)
      · have h5 : (c3) = false := nB_z.mp (cm_eq9.mp h5)
        exact zJ hJ3 rfl rfl (by unfold lgS; rw [h5]; rfl)
      · have h5 : (c3) = true := nB_n.mp (cn_eq.mp h5)
        refine z_rcs hc hH 2 (pc' := 34) (lv' := [(2, .ref (18 + 8 * u3)), (1, .int 3), (0, .ref 0)]) (st' := [.int 1, .ref (18 + 8 * u3)]) (μ' := lgS (lgS μ u1 c1) u2 c2) (by rfl) ?_
        refine zq_pfb hc hH (by rfl) (ci := 1) (f := 8) (by rfl) (sj (P := fun i => okf 79 1 8 (18 + 8 * i)) hu34 (by decide +kernel)) (by rfl) (by decide) ?_
        show Z 0 37 [(2, .ref (18 + 8 * u3)), (1, .int 3), (0, .ref 0)] [] (z_ui (lgS (lgS μ u1 c1) u2 c2) (18 + 8 * u3) 8 1)
        exact zJ hJ3 rfl rfl (by unfold lgS; rw [h5]; rfl)
    refine zq_if hc hH (by rfl) (tg := 37) (by rfl) (fun h6 => ?_) (fun h6 => ?_)
    · have h6 : (c2) = false := nB_z.mp (cm_eq9.mp h6)
      exact zJ hJ2 rfl rfl (by unfold lgS; rw [h6]; rfl)
    · have h6 : (c2) = true := nB_n.mp (cn_eq.mp h6)
      refine z_rcs hc hH 2 (pc' := 34) (lv' := [(2, .ref (18 + 8 * u2)), (1, .int 2), (0, .ref 0)]) (st' := [.int 1, .ref (18 + 8 * u2)]) (μ' := lgS μ u1 c1) (by rfl) ?_
      refine zq_pfb hc hH (by rfl) (ci := 1) (f := 8) (by rfl) (sj (P := fun i => okf 79 1 8 (18 + 8 * i)) hu24 (by decide +kernel)) (by rfl) (by decide) ?_
      show Z 0 37 [(2, .ref (18 + 8 * u2)), (1, .int 2), (0, .ref 0)] [] (z_ui (lgS μ u1 c1) (18 + 8 * u2) 8 1)
      exact zJ hJ2 rfl rfl (by unfold lgS; rw [h6]; rfl)
  refine zq_if hc hH (by rfl) (tg := 37) (by rfl) (fun h7 => ?_) (fun h7 => ?_)
  · have h7 : (c1) = false := nB_z.mp (cm_eq9.mp h7)
    exact zJ hJ1 rfl rfl (by unfold lgS; rw [h7]; rfl)
  · have h7 : (c1) = true := nB_n.mp (cn_eq.mp h7)
    refine z_rcs hc hH 2 (pc' := 34) (lv' := [(2, .ref (18 + 8 * u1)), (1, .int 1), (0, .ref 0)]) (st' := [.int 1, .ref (18 + 8 * u1)]) (μ' := μ) (by rfl) ?_
    refine zq_pfb hc hH (by rfl) (ci := 1) (f := 8) (by rfl) (sj (P := fun i => okf 79 1 8 (18 + 8 * i)) hu14 (by decide +kernel)) (by rfl) (by decide) ?_
    show Z 0 37 [(2, .ref (18 + 8 * u1)), (1, .int 1), (0, .ref 0)] [] (z_ui μ (18 + 8 * u1) 8 1)
    exact zJ hJ1 rfl rfl (by unfold lgS; rw [h7]; rfl)

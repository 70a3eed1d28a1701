/-! the game: questions of the class -/
set_option maxRecDepth 8000
theorem gc_at4 (d : Nat) (hd : 1 ≤ d) (μ : zM) (s : Nat) (hs : s < 4) : z_C d mi_X6_at [.ref 0, .int (nI s)] μ (zR μ (.ref (18 + 8 * s))) := by
  have z := gc_at d hd μ s (by omega)
  rw [Nat.mod_eq_of_lt hs] at z
  exact z
theorem gc_atm (d : Nat) (hd : 1 ≤ d) (μ : zM) (s u : Nat) (hs : s < 2147483648) (hu : s % 4 = u) : z_C d mi_X6_at [.ref 0, .int (nI s)] μ (zR μ (.ref (18 + 8 * u))) := by
  have z := gc_at d hd μ s (by omega)
  rw [hu] at z
  exact z
def fr (μ : zM) (r : Nat) (k : Int32) : Int32 := bif z_in k 34 then μ.1 r k.toNatClampNeg else 0
theorem gc_free (d : Nat) (hd : 2 ≤ d) (μ : zM) (j : Nat) (hj : j < 4) (k : Int32) : z_C d mi_X3_free [.ref (19 + 8 * j), .int k] μ (zR μ (.int (fr μ (20 + 8 * j) k))) := by
  refine z_C_mono (ts_free hj μ d hd k) (fun r μ' z => ⟨z.1, ?_⟩)
  rcases z.2 with ⟨h1, h2⟩ | ⟨h1, h2⟩
  · rw [h2]; unfold fr; rw [z_in_iff.mpr h1]; rfl
  · rw [h2]; unfold fr
    have e : z_in k 34 = false := by cases e : z_in k 34 with | false => rfl | true => exact absurd (z_in_iff.mp e) h1
    rw [e]; rfl
abbrev sI (x : Int32) : Bool := !(decide (x < 0)) && (!(decide (4 ≤ x)))
abbrev xLf (μ : zM) : Int32 := bif decide ((μ.1 2 1) = 0) then (0 : Int32) else (122 - (μ.1 2 3)) - (μ.1 2 2)
abbrev xSg (μ : zM) : Int32 := bif decide ((μ.1 2 1) = 0) then (0 : Int32) else 1 + (μ.1 2 3)
abbrev srB (x : Int32) : Bool := !(decide (x < 0)) && (!(decide (27 ≤ x)) && (!(decide (6 < (x - x / 9 * 9)))))
theorem gc_startsRun (d : Nat) (hd : 1 ≤ d) (μ : zM) (x : Int32) : z_C d mi_X6_startsRun [.int x] μ (zR μ (.int (nB (!(decide (x < 0)) && (!(decide (27 ≤ x)) && (!(decide (6 < (x - x / 9 * 9))))))))) := by
  refine z_C_in (by decide) (by omega) (fun d' Z ed hc hr => ?_)
  have hH : zH mi_X6_startsRun zc_X6_startsRun 79 6 1 := ⟨by rfl, by rfl, by rfl, by rfl⟩
  refine z_rcs hc hH 1 (pc' := 1) (lv' := [(0, .int x)]) (st' := [.int x]) (μ' := μ) (by rfl) ?_
  have hJ1 : Z 0 24 [(0, .int x)] [.int (nB (!(decide (x < 0)) && (!(decide (27 ≤ x)) && (!(decide (6 < (x - x / 9 * 9)))))))] μ := by
    generalize hee2 : (!(decide (x < 0)) && (!(decide (27 ≤ x)) && (!(decide (6 < (x - x / 9 * 9)))))) = ee2
    exact hr 0 24 _ _ _ (some (.int (nB ee2))) (by decide +kernel) ((fun b : Bool => (by cases b <;> rfl : z_rn mi_X6_startsRun 24 [.int (nB b)] = some (some (.int (nB b))))) ee2) (⟨rfl, (by subst hee2; rfl)⟩)
  refine zq_if hc hH (by rfl) (tg := 23) (by rfl) (fun h3 => ?_) (fun h3 => ?_)
  · have h3 : (decide (x < 0)) = true := decide_eq_true (cm_lt.mp h3)
    refine z_rcs hc hH 1 (pc' := 24) (lv' := [(0, .int x)]) (st' := [.int 0]) (μ' := μ) (by rfl) ?_
    exact zJ hJ1 rfl (by first | rfl | simp only [h3, lb_f, Int64.or_zero, Int32.add_zero, nB_t, nB_f, Bool.not_true, Bool.not_false, Bool.and_true, Bool.true_and, Bool.false_and, Bool.and_false, Bool.or_true, Bool.true_or, Bool.false_or, Bool.or_false, cond_true, cond_false]) rfl
  · have h3 : (decide (x < 0)) = false := decide_eq_false (cn_lt.mp h3)
    refine z_rcs hc hH 2 (pc' := 7) (lv' := [(0, .int x)]) (st' := [.int 27, .int x]) (μ' := μ) (by rfl) ?_
    refine zq_ic hc hH (by rfl) (tg := 23) (by rfl) (fun h4 => ?_) (fun h4 => ?_)
    · have h4 : (decide (27 ≤ x)) = true := decide_eq_true (cm_ge.mp h4)
      refine z_rcs hc hH 1 (pc' := 24) (lv' := [(0, .int x)]) (st' := [.int 0]) (μ' := μ) (by rfl) ?_
      exact zJ hJ1 rfl (by first | rfl | simp only [h3, h4, lb_f, Int64.or_zero, Int32.add_zero, nB_t, nB_f, Bool.not_true, Bool.not_false, Bool.and_true, Bool.true_and, Bool.false_and, Bool.and_false, Bool.or_true, Bool.true_or, Bool.false_or, Bool.or_false, cond_true, cond_false]) rfl
    · have h4 : (decide (27 ≤ x)) = false := decide_eq_false (cn_ge.mp h4)
      refine z_rcs hc hH 4 (pc' := 16) (lv' := [(0, .int x)]) (st' := [.int 6, .int (x - x / 9 * 9)]) (μ' := μ) (by rfl) ?_
      refine zq_ic hc hH (by rfl) (tg := 23) (by rfl) (fun h5 => ?_) (fun h5 => ?_)
      · have h5 : (decide (6 < (x - x / 9 * 9))) = true := decide_eq_true (cm_gt.mp h5)
        refine z_rcs hc hH 1 (pc' := 24) (lv' := [(0, .int x)]) (st' := [.int 0]) (μ' := μ) (by rfl) ?_
        exact zJ hJ1 rfl (by first | rfl | simp only [h3, h4, h5, lb_f, Int64.or_zero, Int32.add_zero, nB_t, nB_f, Bool.not_true, Bool.not_false, Bool.and_true, Bool.true_and, Bool.false_and, Bool.and_false, Bool.or_true, Bool.true_or, Bool.false_or, Bool.or_false, cond_true, cond_false]) rfl
      · have h5 : (decide (6 < (x - x / 9 * 9))) = false := decide_eq_false (cn_gt.mp h5)
        refine z_rcs hc hH 2 (pc' := 24) (lv' := [(0, .int x)]) (st' := [.int 1]) (μ' := μ) (by rfl) ?_
        exact zJ hJ1 rfl (by first | rfl | simp only [h3, h4, h5, lb_f, Int64.or_zero, Int32.add_zero, nB_t, nB_f, Bool.not_true, Bool.not_false, Bool.and_true, Bool.true_and, Bool.false_and, Bool.and_false, Bool.or_true, Bool.true_or, Bool.false_or, Bool.or_false, cond_true, cond_false]) rfl
abbrev xAny (μ : zM) : Bool := !(decide ((μ.1 18 9) = 0)) || (!(decide ((μ.1 26 9) = 0)) || (!(decide ((μ.1 34 9) = 0)) || (!(decide ((μ.1 42 9) = 0)))))
theorem gc_someoneSays (d : Nat) (hd : 2 ≤ d) (μ : zM) : z_C d mi_X6_someoneSays [.ref 0] μ (zR μ (.int (nB (!(decide ((μ.1 18 9) = 0)) || (!(decide ((μ.1 26 9) = 0)) || (!(decide ((μ.1 34 9) = 0)) || (!(decide ((μ.1 42 9) = 0))))))))) := by
  refine z_C_in (by decide) (by omega) (fun d' Z ed hc hr => ?_)
  have hH : zH mi_X6_someoneSays zc_X6_someoneSays 79 6 2 := ⟨by rfl, by rfl, by rfl, by rfl⟩
  refine z_rcs hc hH 7 (pc' := 9) (lv' := [(1, .int 0), (0, .ref 0)]) (st' := [.int 0, .ref 0]) (μ' := μ) (by rfl) ?_
  refine zq_call hc (by rfl) (gc_at d' (by omega) μ 0 (by decide)) (by decide +kernel) (fun r9 μ9 hq => ?_)
  obtain ⟨hμ9, rfl⟩ := hq
  rw [hμ9]
  clear hμ9 μ9
  show Z 0 12 [(1, .int 0), (0, .ref 0)] [.ref 18] μ
  refine zq_gfi hc hH (by rfl) (ci := 1) (f := 9) (by rfl) (by decide +kernel) (by rfl) ?_
  refine zq_if hc hH (by rfl) (tg := 20) (by rfl) (fun h1 => ?_) (fun h1 => ?_)
  · have h1 : (decide ((μ.1 18 9) = 0)) = true := decide_eq_true (cm_eq9.mp h1)
    refine z_rcs hc hH 7 (pc' := 9) (lv' := [(1, .int 1), (0, .ref 0)]) (st' := [.int 1, .ref 0]) (μ' := μ) (by rfl) ?_
    refine zq_call hc (by rfl) (gc_at d' (by omega) μ 1 (by decide)) (by decide +kernel) (fun r9 μ9 hq => ?_)
    obtain ⟨hμ9, rfl⟩ := hq
    rw [hμ9]
    clear hμ9 μ9
    show Z 0 12 [(1, .int 1), (0, .ref 0)] [.ref 26] μ
    refine zq_gfi hc hH (by rfl) (ci := 1) (f := 9) (by rfl) (by decide +kernel) (by rfl) ?_
    refine zq_if hc hH (by rfl) (tg := 20) (by rfl) (fun h2 => ?_) (fun h2 => ?_)
    · have h2 : (decide ((μ.1 26 9) = 0)) = true := decide_eq_true (cm_eq9.mp h2)
      refine z_rcs hc hH 7 (pc' := 9) (lv' := [(1, .int 2), (0, .ref 0)]) (st' := [.int 2, .ref 0]) (μ' := μ) (by rfl) ?_
      refine zq_call hc (by rfl) (gc_at d' (by omega) μ 2 (by decide)) (by decide +kernel) (fun r9 μ9 hq => ?_)
      obtain ⟨hμ9, rfl⟩ := hq
      rw [hμ9]
      clear hμ9 μ9
      show Z 0 12 [(1, .int 2), (0, .ref 0)] [.ref 34] μ
      refine zq_gfi hc hH (by rfl) (ci := 1) (f := 9) (by rfl) (by decide +kernel) (by rfl) ?_
      refine zq_if hc hH (by rfl) (tg := 20) (by rfl) (fun h3 => ?_) (fun h3 => ?_)
      · have h3 : (decide ((μ.1 34 9) = 0)) = true := decide_eq_true (cm_eq9.mp h3)
        refine z_rcs hc hH 7 (pc' := 9) (lv' := [(1, .int 3), (0, .ref 0)]) (st' := [.int 3, .ref 0]) (μ' := μ) (by rfl) ?_
        refine zq_call hc (by rfl) (gc_at d' (by omega) μ 3 (by decide)) (by decide +kernel) (fun r9 μ9 hq => ?_)
        obtain ⟨hμ9, rfl⟩ := hq
        rw [hμ9]
        clear hμ9 μ9
        show Z 0 12 [(1, .int 3), (0, .ref 0)] [.ref 42] μ
        refine zq_gfi hc hH (by rfl) (ci := 1) (f := 9) (by rfl) (by decide +kernel) (by rfl) ?_
        refine zq_if hc hH (by rfl) (tg := 20) (by rfl) (fun h4 => ?_) (fun h4 => ?_)
        · have h4 : (decide ((μ.1 42 9) = 0)) = true := decide_eq_true (cm_eq9.mp h4)
          refine z_rcs hc hH 6 (pc' := 27) (lv' := [(1, .int 4), (0, .ref 0)]) (st' := [.int 0]) (μ' := μ) (by rfl) ?_
          exact hr 0 27 _ _ _ (some (.int 0)) (by decide +kernel) (by rfl) (⟨rfl, (by simp only [h1, h2, h3, h4, lb_f, Int64.or_zero, Int32.add_zero, nB_t, nB_f, Bool.not_true, Bool.not_false, Bool.and_true, Bool.true_and, Bool.false_and, Bool.and_false, Bool.or_true, Bool.true_or, Bool.false_or, Bool.or_false, cond_true, cond_false])⟩)
        · have h4 : (decide ((μ.1 42 9) = 0)) = false := decide_eq_false (cn_eq.mp h4)
          refine z_rcs hc hH 1 (pc' := 19) (lv' := [(1, .int 3), (0, .ref 0)]) (st' := [.int 1]) (μ' := μ) (by rfl) ?_
          exact hr 0 19 _ _ _ (some (.int 1)) (by decide +kernel) (by rfl) (⟨rfl, (by simp only [h1, h2, h3, h4, lb_f, Int64.or_zero, Int32.add_zero, nB_t, nB_f, Bool.not_true, Bool.not_false, Bool.and_true, Bool.true_and, Bool.false_and, Bool.and_false, Bool.or_true, Bool.true_or, Bool.false_or, Bool.or_false, cond_true, cond_false])⟩)
      · have h3 : (decide ((μ.1 34 9) = 0)) = false := decide_eq_false (cn_eq.mp h3)
        refine z_rcs hc hH 1 (pc' := 19) (lv' := [(1, .int 2), (0, .ref 0)]) (st' := [.int 1]) (μ' := μ) (by rfl) ?_
        exact hr 0 19 _ _ _ (some (.int 1)) (by decide +kernel) (by rfl) (⟨rfl, (by simp only [h1, h2, h3, lb_f, Int64.or_zero, Int32.add_zero, nB_t, nB_f, Bool.not_true, Bool.not_false, Bool.and_true, Bool.true_and, Bool.false_and, Bool.and_false, Bool.or_true, Bool.true_or, Bool.false_or, Bool.or_false, cond_true, cond_false])⟩)
    · have h2 : (decide ((μ.1 26 9) = 0)) = false := decide_eq_false (cn_eq.mp h2)
      refine z_rcs hc hH 1 (pc' := 19) (lv' := [(1, .int 1), (0, .ref 0)]) (st' := [.int 1]) (μ' := μ) (by rfl) ?_
      exact hr 0 19 _ _ _ (some (.int 1)) (by decide +kernel) (by rfl) (⟨rfl, (by simp only [h1, h2, lb_f, Int64.or_zero, Int32.add_zero, nB_t, nB_f, Bool.not_true, Bool.not_false, Bool.and_true, Bool.true_and, Bool.false_and, Bool.and_false, Bool.or_true, Bool.true_or, Bool.false_or, Bool.or_false, cond_true, cond_false])⟩)
  · have h1 : (decide ((μ.1 18 9) = 0)) = false := decide_eq_false (cn_eq.mp h1)
    refine z_rcs hc hH 1 (pc' := 19) (lv' := [(1, .int 0), (0, .ref 0)]) (st' := [.int 1]) (μ' := μ) (by rfl) ?_
    exact hr 0 19 _ _ _ (some (.int 1)) (by decide +kernel) (by rfl) (⟨rfl, (by simp only [h1, lb_f, Int64.or_zero, Int32.add_zero, nB_t, nB_f, Bool.not_true, Bool.not_false, Bool.and_true, Bool.true_and, Bool.false_and, Bool.and_false, Bool.or_true, Bool.true_or, Bool.false_or, Bool.or_false, cond_true, cond_false])⟩)
abbrev xIw (μ : zM) (x : Int32) : Bool := !(decide (x < 0)) && (!(decide ((μ.1 0 6) ≤ x)) && (!(decide (4 ≤ x))))
theorem gc_isWin (d : Nat) (hd : 2 ≤ d) (μ : zM) (x : Int32) : z_C d mi_X6_isWin [.ref 0, .int x] μ (zR μ (.int (nB (!(decide (x < 0)) && (!(decide ((μ.1 0 6) ≤ x)) && (!(decide (4 ≤ x)))))))) := by
  refine z_C_in (by decide) (by omega) (fun d' Z ed hc hr => ?_)
  have hH : zH mi_X6_isWin zc_X6_isWin 79 6 2 := ⟨by rfl, by rfl, by rfl, by rfl⟩
  refine z_rcs hc hH 1 (pc' := 1) (lv' := [(0, .ref 0), (1, .int x)]) (st' := [.int x]) (μ' := μ) (by rfl) ?_
  have hJ1 : Z 0 22 [(0, .ref 0), (1, .int x)] [.int (nB (!(decide (x < 0)) && (!(decide ((μ.1 0 6) ≤ x)) && (!(decide (4 ≤ x))))))] μ := by
    generalize hee2 : (!(decide (x < 0)) && (!(decide ((μ.1 0 6) ≤ x)) && (!(decide (4 ≤ x))))) = ee2
    exact hr 0 22 _ _ _ (some (.int (nB ee2))) (by decide +kernel) ((fun b : Bool => (by cases b <;> rfl : z_rn mi_X6_isWin 22 [.int (nB b)] = some (some (.int (nB b))))) ee2) (⟨rfl, (by subst hee2; rfl)⟩)
  refine zq_if hc hH (by rfl) (tg := 21) (by rfl) (fun h3 => ?_) (fun h3 => ?_)
  · have h3 : (decide (x < 0)) = true := decide_eq_true (cm_lt.mp h3)
    refine z_rcs hc hH 1 (pc' := 22) (lv' := [(0, .ref 0), (1, .int x)]) (st' := [.int 0]) (μ' := μ) (by rfl) ?_
    exact zJ hJ1 rfl (by first | rfl | simp only [h3, lb_f, Int64.or_zero, Int32.add_zero, nB_t, nB_f, Bool.not_true, Bool.not_false, Bool.and_true, Bool.true_and, Bool.false_and, Bool.and_false, Bool.or_true, Bool.true_or, Bool.false_or, Bool.or_false, cond_true, cond_false]) rfl
  · have h3 : (decide (x < 0)) = false := decide_eq_false (cn_lt.mp h3)
    refine z_rcs hc hH 2 (pc' := 6) (lv' := [(0, .ref 0), (1, .int x)]) (st' := [.ref 0, .int x]) (μ' := μ) (by rfl) ?_
    refine zq_gfi hc hH (by rfl) (ci := 5) (f := 6) (by rfl) (by decide +kernel) (by rfl) ?_
    refine zq_ic hc hH (by rfl) (tg := 21) (by rfl) (fun h4 => ?_) (fun h4 => ?_)
    · have h4 : (decide ((μ.1 0 6) ≤ x)) = true := decide_eq_true (cm_ge.mp h4)
      refine z_rcs hc hH 1 (pc' := 22) (lv' := [(0, .ref 0), (1, .int x)]) (st' := [.int 0]) (μ' := μ) (by rfl) ?_
      exact zJ hJ1 rfl (by first | rfl | simp only [h3, h4, lb_f, Int64.or_zero, Int32.add_zero, nB_t, nB_f, Bool.not_true, Bool.not_false, Bool.and_true, Bool.true_and, Bool.false_and, Bool.and_false, Bool.or_true, Bool.true_or, Bool.false_or, Bool.or_false, cond_true, cond_false]) rfl
    · have h4 : (decide ((μ.1 0 6) ≤ x)) = false := decide_eq_false (cn_ge.mp h4)
      refine z_rcs hc hH 2 (pc' := 14) (lv' := [(0, .ref 0), (1, .int x)]) (st' := [.int 4, .int x]) (μ' := μ) (by rfl) ?_
      refine zq_ic hc hH (by rfl) (tg := 21) (by rfl) (fun h5 => ?_) (fun h5 => ?_)
      · have h5 : (decide (4 ≤ x)) = true := decide_eq_true (cm_ge.mp h5)
        refine z_rcs hc hH 1 (pc' := 22) (lv' := [(0, .ref 0), (1, .int x)]) (st' := [.int 0]) (μ' := μ) (by rfl) ?_
        exact zJ hJ1 rfl (by first | rfl | simp only [h3, h4, h5, lb_f, Int64.or_zero, Int32.add_zero, nB_t, nB_f, Bool.not_true, Bool.not_false, Bool.and_true, Bool.true_and, Bool.false_and, Bool.and_false, Bool.or_true, Bool.true_or, Bool.false_or, Bool.or_false, cond_true, cond_false]) rfl
      · have h5 : (decide (4 ≤ x)) = false := decide_eq_false (cn_ge.mp h5)
        refine z_rcs hc hH 2 (pc' := 22) (lv' := [(0, .ref 0), (1, .int x)]) (st' := [.int 1]) (μ' := μ) (by rfl) ?_
        exact zJ hJ1 rfl (by first | rfl | simp only [h3, h4, h5, lb_f, Int64.or_zero, Int32.add_zero, nB_t, nB_f, Bool.not_true, Bool.not_false, Bool.and_true, Bool.true_and, Bool.false_and, Bool.and_false, Bool.or_true, Bool.true_or, Bool.false_or, Bool.or_false, cond_true, cond_false]) rfl
theorem gc_mayMakeFour (d : Nat) (hd : 3 ≤ d) (μ : zM) (t : Nat) (ht4 : t < 4) (ht : μ.1 0 8 = nI t) : z_C d mi_X6_mayMakeFour [.ref 0] μ (zR μ (.int (nB ((decide ((μ.1 0 7) = 1)) && (!(decide ((μ.1 0 15) = (-1))) && ((decide ((μ.1 (18 + 8 * t) 5) = 0)) && (!(decide ((xLf μ) ≤ 0)) && (!(decide (4 ≤ (μ.1 2 3))))))))))) := by
  refine z_C_in (by decide) (by omega) (fun d' Z ed hc hr => ?_)
  have hH : zH mi_X6_mayMakeFour zc_X6_mayMakeFour 79 6 1 := ⟨by rfl, by rfl, by rfl, by rfl⟩
  refine z_rcs hc hH 1 (pc' := 1) (lv' := [(0, .ref 0)]) (st' := [.ref 0]) (μ' := μ) (by rfl) ?_
  refine zq_gfi hc hH (by rfl) (ci := 5) (f := 7) (by rfl) (by decide +kernel) (by rfl) ?_
  refine z_rcs hc hH 1 (pc' := 5) (lv' := [(0, .ref 0)]) (st' := [.int 1, .int (μ.1 0 7)]) (μ' := μ) (by rfl) ?_
  have hJ1 : Z 0 56 [(0, .ref 0)] [.int (nB ((decide ((μ.1 0 7) = 1)) && (!(decide ((μ.1 0 15) = (-1))) && ((decide ((μ.1 (18 + 8 * t) 5) = 0)) && (!(decide ((xLf μ) ≤ 0)) && (!(decide (4 ≤ (μ.1 2 3)))))))))] μ := by
    generalize hee2 : ((decide ((μ.1 0 7) = 1)) && (!(decide ((μ.1 0 15) = (-1))) && ((decide ((μ.1 (18 + 8 * t) 5) = 0)) && (!(decide ((xLf μ) ≤ 0)) && (!(decide (4 ≤ (μ.1 2 3)))))))) = ee2
    exact hr 0 56 _ _ _ (some (.int (nB ee2))) (by decide +kernel) ((fun b : Bool => (by cases b <;> rfl : z_rn mi_X6_mayMakeFour 56 [.int (nB b)] = some (some (.int (nB b))))) ee2) (⟨rfl, (by subst hee2; rfl)⟩)
  refine zq_ic hc hH (by rfl) (tg := 55) (by rfl) (fun h3 => ?_) (fun h3 => ?_)
  · have h3 : (decide ((μ.1 0 7) = 1)) = false := decide_eq_false (cm_ne.mp h3)
    refine z_rcs hc hH 1 (pc' := 56) (lv' := [(0, .ref 0)]) (st' := [.int 0]) (μ' := μ) (by rfl) ?_
    exact zJ hJ1 rfl (by first | rfl | simp only [h3, lb_f, Int64.or_zero, Int32.add_zero, nB_t, nB_f, Bool.not_true, Bool.not_false, Bool.and_true, Bool.true_and, Bool.false_and, Bool.and_false, Bool.or_true, Bool.true_or, Bool.false_or, Bool.or_false, cond_true, cond_false]) rfl
  · have h3 : (decide ((μ.1 0 7) = 1)) = true := decide_eq_true (cn_ne.mp h3)
    refine z_rcs hc hH 1 (pc' := 9) (lv' := [(0, .ref 0)]) (st' := [.ref 0]) (μ' := μ) (by rfl) ?_
    refine zq_gfi hc hH (by rfl) (ci := 5) (f := 15) (by rfl) (by decide +kernel) (by rfl) ?_
    refine z_rcs hc hH 1 (pc' := 13) (lv' := [(0, .ref 0)]) (st' := [.int (-1), .int (μ.1 0 15)]) (μ' := μ) (by rfl) ?_
    refine zq_ic hc hH (by rfl) (tg := 55) (by rfl) (fun h4 => ?_) (fun h4 => ?_)
    · have h4 : (decide ((μ.1 0 15) = (-1))) = true := decide_eq_true (cm_eq9.mp h4)
      refine z_rcs hc hH 1 (pc' := 56) (lv' := [(0, .ref 0)]) (st' := [.int 0]) (μ' := μ) (by rfl) ?_
      exact zJ hJ1 rfl (by first | rfl | simp only [h3, h4, lb_f, Int64.or_zero, Int32.add_zero, nB_t, nB_f, Bool.not_true, Bool.not_false, Bool.and_true, Bool.true_and, Bool.false_and, Bool.and_false, Bool.or_true, Bool.true_or, Bool.false_or, Bool.or_false, cond_true, cond_false]) rfl
    · have h4 : (decide ((μ.1 0 15) = (-1))) = false := decide_eq_false (cn_eq.mp h4)
      refine z_rcs hc hH 2 (pc' := 18) (lv' := [(0, .ref 0)]) (st' := [.ref 0, .ref 0]) (μ' := μ) (by rfl) ?_
      refine zq_gfi hc hH (by rfl) (ci := 5) (f := 8) (by rfl) (by decide +kernel) (by rfl) ?_
      rw [ht]
      refine zq_call hc (by rfl) (gc_at4 d' (by omega) μ t ht4) (by decide +kernel) (fun r9 μ9 hq => ?_)
      obtain ⟨hμ9, rfl⟩ := hq
      rw [hμ9]
      clear hμ9 μ9
      show Z 0 24 [(0, .ref 0)] [.ref (18 + 8 * t)] μ
      refine zq_gfi hc hH (by rfl) (ci := 1) (f := 5) (by rfl) (sj (P := fun i => okf 79 1 5 (18 + 8 * i)) ht4 (by decide +kernel)) (by rfl) ?_
      refine zq_if hc hH (by rfl) (tg := 55) (by rfl) (fun h5 => ?_) (fun h5 => ?_)
      · have h5 : (decide ((μ.1 (18 + 8 * t) 5) = 0)) = false := decide_eq_false (cm_ne.mp h5)
        refine z_rcs hc hH 1 (pc' := 56) (lv' := [(0, .ref 0)]) (st' := [.int 0]) (μ' := μ) (by rfl) ?_
        exact zJ hJ1 rfl (by first | rfl | simp only [h3, h4, h5, lb_f, Int64.or_zero, Int32.add_zero, nB_t, nB_f, Bool.not_true, Bool.not_false, Bool.and_true, Bool.true_and, Bool.false_and, Bool.and_false, Bool.or_true, Bool.true_or, Bool.false_or, Bool.or_false, cond_true, cond_false]) rfl
      · have h5 : (decide ((μ.1 (18 + 8 * t) 5) = 0)) = true := decide_eq_true (cn_ne.mp h5)
        refine z_rcs hc hH 1 (pc' := 31) (lv' := [(0, .ref 0)]) (st' := [.ref 0]) (μ' := μ) (by rfl) ?_
        refine zq_gfr hc hH (by rfl) (ci := 5) (f := 1) (q := 2) (by rfl) (by decide +kernel) (by rfl) (by decide +kernel) ?_
        refine zq_call hc (by rfl) (gc_left d' (by omega) μ) (by decide +kernel) (fun r9 μ9 hq => ?_)
        obtain ⟨hμ9, rfl⟩ := hq
        rw [hμ9]
        clear hμ9 μ9
        show Z 0 37 [(0, .ref 0)] [.int (xLf μ)] μ
        refine zq_if hc hH (by rfl) (tg := 55) (by rfl) (fun h6 => ?_) (fun h6 => ?_)
        · have h6 : (decide ((xLf μ) ≤ 0)) = true := decide_eq_true (cm_le.mp h6)
          refine z_rcs hc hH 1 (pc' := 56) (lv' := [(0, .ref 0)]) (st' := [.int 0]) (μ' := μ) (by rfl) ?_
          exact zJ hJ1 rfl (by first | rfl | simp only [h3, h4, h5, h6, lb_f, Int64.or_zero, Int32.add_zero, nB_t, nB_f, Bool.not_true, Bool.not_false, Bool.and_true, Bool.true_and, Bool.false_and, Bool.and_false, Bool.or_true, Bool.true_or, Bool.false_or, Bool.or_false, cond_true, cond_false]) rfl
        · have h6 : (decide ((xLf μ) ≤ 0)) = false := decide_eq_false (cn_le.mp h6)
          refine z_rcs hc hH 1 (pc' := 41) (lv' := [(0, .ref 0)]) (st' := [.ref 0]) (μ' := μ) (by rfl) ?_
          refine zq_gfr hc hH (by rfl) (ci := 5) (f := 1) (q := 2) (by rfl) (by decide +kernel) (by rfl) (by decide +kernel) ?_
          refine zq_gfi hc hH (by rfl) (ci := 3) (f := 3) (by rfl) (by decide +kernel) (by rfl) ?_
          refine z_rcs hc hH 1 (pc' := 48) (lv' := [(0, .ref 0)]) (st' := [.int 4, .int (μ.1 2 3)]) (μ' := μ) (by rfl) ?_
          refine zq_ic hc hH (by rfl) (tg := 55) (by rfl) (fun h7 => ?_) (fun h7 => ?_)
          · have h7 : (decide (4 ≤ (μ.1 2 3))) = true := decide_eq_true (cm_ge.mp h7)
            refine z_rcs hc hH 1 (pc' := 56) (lv' := [(0, .ref 0)]) (st' := [.int 0]) (μ' := μ) (by rfl) ?_
            exact zJ hJ1 rfl (by first | rfl | simp only [h3, h4, h5, h6, h7, lb_f, Int64.or_zero, Int32.add_zero, nB_t, nB_f, Bool.not_true, Bool.not_false, Bool.and_true, Bool.true_and, Bool.false_and, Bool.and_false, Bool.or_true, Bool.true_or, Bool.false_or, Bool.or_false, cond_true, cond_false]) rfl
          · have h7 : (decide (4 ≤ (μ.1 2 3))) = false := decide_eq_false (cn_ge.mp h7)
            refine z_rcs hc hH 2 (pc' := 56) (lv' := [(0, .ref 0)]) (st' := [.int 1]) (μ' := μ) (by rfl) ?_
            exact zJ hJ1 rfl (by first | rfl | simp only [h3, h4, h5, h6, h7, lb_f, Int64.or_zero, Int32.add_zero, nB_t, nB_f, Bool.not_true, Bool.not_false, Bool.and_true, Bool.true_and, Bool.false_and, Bool.and_false, Bool.or_true, Bool.true_or, Bool.false_or, Bool.or_false, cond_true, cond_false]) rfl
theorem gc_mayThrow (d : Nat) (hd : 3 ≤ d) (μ : zM) (t : Nat) (ht4 : t < 4) (ht : μ.1 0 8 = nI t) (x : Int32) : z_C d mi_X6_mayThrow [.ref 0, .int x] μ (zR μ (.int (nB (!(decide ((fr μ (20 + 8 * t) x) = 0)) && (!(xHd (μ.2.1 0 18) x) && ((decide ((μ.1 (18 + 8 * t) 5) = 0)) || (decide (x = (μ.1 0 15))))))))) := by
  refine z_C_in (by decide) (by omega) (fun d' Z ed hc hr => ?_)
  have hH : zH mi_X6_mayThrow zc_X6_mayThrow 79 6 3 := ⟨by rfl, by rfl, by rfl, by rfl⟩
  refine z_rcs hc hH 2 (pc' := 2) (lv' := [(0, .ref 0), (1, .int x)]) (st' := [.ref 0, .ref 0]) (μ' := μ) (by rfl) ?_
  refine zq_gfi hc hH (by rfl) (ci := 5) (f := 8) (by rfl) (by decide +kernel) (by rfl) ?_
  rw [ht]
  refine zq_call hc (by rfl) (gc_at4 d' (by omega) μ t ht4) (by decide +kernel) (fun r9 μ9 hq => ?_)
  obtain ⟨hμ9, rfl⟩ := hq
  rw [hμ9]
  clear hμ9 μ9
  show Z 0 8 [(0, .ref 0), (1, .int x)] [.ref (18 + 8 * t)] μ
  refine z_rcs hc hH 2 (pc' := 10) (lv' := [(2, .ref (18 + 8 * t)), (0, .ref 0), (1, .int x)]) (st' := [.ref (18 + 8 * t)]) (μ' := μ) (by rfl) ?_
  refine zq_gfr hc hH (by rfl) (ci := 1) (f := 0) (q := 19 + 8 * t) (by rfl) (sj (P := fun i => okf 79 1 0 (18 + 8 * i)) ht4 (by decide +kernel)) (by rfl) (sj (P := fun i => Nat.beq (z_gr (18 + 8 * i) 0) (19 + 8 * i)) ht4 (by decide +kernel)) ?_
  refine z_rcs hc hH 1 (pc' := 14) (lv' := [(2, .ref (18 + 8 * t)), (0, .ref 0), (1, .int x)]) (st' := [.int x, .ref (19 + 8 * t)]) (μ' := μ) (by rfl) ?_
  refine zq_call hc (z_clv (by rfl) (by rfl) (by rfl) (by rfl) (by rfl) (by rfl) (sj (P := fun i => okr 79 2 (19 + 8 * i)) ht4 (by decide +kernel)) (by rfl) (by rfl)) (gc_free d' (by omega) μ t ht4 x) (by decide +kernel) (fun r9 μ9 hq => ?_)
  obtain ⟨hμ9, rfl⟩ := hq
  rw [hμ9]
  clear hμ9 μ9
  show Z 0 17 [(2, .ref (18 + 8 * t)), (0, .ref 0), (1, .int x)] [.int (fr μ (20 + 8 * t) x)] μ
  refine zq_if hc hH (by rfl) (tg := 31) (by rfl) (fun h1 => ?_) (fun h1 => ?_)
  · have h1 : (decide ((fr μ (20 + 8 * t) x) = 0)) = true := decide_eq_true (cm_eq9.mp h1)
    refine z_rcs hc hH 1 (pc' := 32) (lv' := [(2, .ref (18 + 8 * t)), (0, .ref 0), (1, .int x)]) (st' := [.int 0]) (μ' := μ) (by rfl) ?_
    exact hr 0 32 _ _ _ (some (.int 0)) (by decide +kernel) (by rfl) (⟨rfl, (by simp only [h1, lb_f, Int64.or_zero, Int32.add_zero, nB_t, nB_f, Bool.not_true, Bool.not_false, Bool.and_true, Bool.true_and, Bool.false_and, Bool.and_false, Bool.or_true, Bool.true_or, Bool.false_or, Bool.or_false, cond_true, cond_false])⟩)
  · have h1 : (decide ((fr μ (20 + 8 * t) x) = 0)) = false := decide_eq_false (cn_eq.mp h1)
    refine z_rcs hc hH 1 (pc' := 21) (lv' := [(2, .ref (18 + 8 * t)), (0, .ref 0), (1, .int x)]) (st' := [.ref 0]) (μ' := μ) (by rfl) ?_
    refine zq_gfl hc hH (by rfl) (ci := 5) (f := 18) (by rfl) (by decide +kernel) (by rfl) ?_
    refine z_rcs hc hH 1 (pc' := 25) (lv' := [(2, .ref (18 + 8 * t)), (0, .ref 0), (1, .int x)]) (st' := [.int x, .long (μ.2.1 0 18)]) (μ' := μ) (by rfl) ?_
    refine zq_call hc (by rfl) (fb_X6_holds d' (by omega) μ (μ.2.1 0 18) x) (by decide +kernel) (fun r9 μ9 hq => ?_)
    obtain ⟨hμ9, rfl⟩ := hq
    rw [hμ9]
    clear hμ9 μ9
    show Z 0 28 [(2, .ref (18 + 8 * t)), (0, .ref 0), (1, .int x)] [.int (nB (xHd (μ.2.1 0 18) x))] μ
    generalize hee2 : (xHd (μ.2.1 0 18) x) = ee2
    refine zq_if hc hH (by rfl) (tg := 33) (by rfl) (fun h3 => ?_) (fun h3 => ?_)
    · have h3 : (ee2) = false := nB_z.mp (cm_eq9.mp h3)
      refine z_rcs hc hH 1 (pc' := 34) (lv' := [(2, .ref (18 + 8 * t)), (0, .ref 0), (1, .int x)]) (st' := [.ref (18 + 8 * t)]) (μ' := μ) (by rfl) ?_
      refine zq_gfi hc hH (by rfl) (ci := 1) (f := 5) (by rfl) (sj (P := fun i => okf 79 1 5 (18 + 8 * i)) ht4 (by decide +kernel)) (by rfl) ?_
      have hJ4 : Z 0 53 [(2, .ref (18 + 8 * t)), (0, .ref 0), (1, .int x)] [.int (nB ((decide ((μ.1 (18 + 8 * t) 5) = 0)) || (decide (x = (μ.1 0 15)))))] μ := by
        exact hr 0 53 _ _ _ (some (.int (nB ((decide ((μ.1 (18 + 8 * t) 5) = 0)) || (decide (x = (μ.1 0 15))))))) (by decide +kernel) ((fun b : Bool => (by cases b <;> rfl : z_rn mi_X6_mayThrow 53 [.int (nB b)] = some (some (.int (nB b))))) ((decide ((μ.1 (18 + 8 * t) 5) = 0)) || (decide (x = (μ.1 0 15))))) (⟨rfl, (by try rw [hee2]; simp only [h1, h3, lb_f, Int64.or_zero, Int32.add_zero, nB_t, nB_f, Bool.not_true, Bool.not_false, Bool.and_true, Bool.true_and, Bool.false_and, Bool.and_false, Bool.or_true, Bool.true_or, Bool.false_or, Bool.or_false, cond_true, cond_false])⟩)
      refine zq_if hc hH (by rfl) (tg := 48) (by rfl) (fun h5 => ?_) (fun h5 => ?_)
      · have h5 : (decide ((μ.1 (18 + 8 * t) 5) = 0)) = true := decide_eq_true (cm_eq9.mp h5)
        refine z_rcs hc hH 2 (pc' := 53) (lv' := [(2, .ref (18 + 8 * t)), (0, .ref 0), (1, .int x)]) (st' := [.int 1]) (μ' := μ) (by rfl) ?_
        exact zJ hJ4 rfl (by first | rfl | simp only [h5, lb_f, Int64.or_zero, Int32.add_zero, nB_t, nB_f, Bool.not_true, Bool.not_false, Bool.and_true, Bool.true_and, Bool.false_and, Bool.and_false, Bool.or_true, Bool.true_or, Bool.false_or, Bool.or_false, cond_true, cond_false]) rfl
      · have h5 : (decide ((μ.1 (18 + 8 * t) 5) = 0)) = false := decide_eq_false (cn_eq.mp h5)
        refine z_rcs hc hH 2 (pc' := 42) (lv' := [(2, .ref (18 + 8 * t)), (0, .ref 0), (1, .int x)]) (st' := [.ref 0, .int x]) (μ' := μ) (by rfl) ?_
        refine zq_gfi hc hH (by rfl) (ci := 5) (f := 15) (by rfl) (by decide +kernel) (by rfl) ?_
        refine zq_ic hc hH (by rfl) (tg := 52) (by rfl) (fun h6 => ?_) (fun h6 => ?_)
        · have h6 : (decide (x = (μ.1 0 15))) = false := decide_eq_false (cm_ne.mp h6)
          refine z_rcs hc hH 1 (pc' := 53) (lv' := [(2, .ref (18 + 8 * t)), (0, .ref 0), (1, .int x)]) (st' := [.int 0]) (μ' := μ) (by rfl) ?_
          exact zJ hJ4 rfl (by first | rfl | simp only [h5, h6, lb_f, Int64.or_zero, Int32.add_zero, nB_t, nB_f, Bool.not_true, Bool.not_false, Bool.and_true, Bool.true_and, Bool.false_and, Bool.and_false, Bool.or_true, Bool.true_or, Bool.false_or, Bool.or_false, cond_true, cond_false]) rfl
        · have h6 : (decide (x = (μ.1 0 15))) = true := decide_eq_true (cn_ne.mp h6)
          refine z_rcs hc hH 2 (pc' := 53) (lv' := [(2, .ref (18 + 8 * t)), (0, .ref 0), (1, .int x)]) (st' := [.int 1]) (μ' := μ) (by rfl) ?_
          exact zJ hJ4 rfl (by first | rfl | simp only [h5, h6, lb_f, Int64.or_zero, Int32.add_zero, nB_t, nB_f, Bool.not_true, Bool.not_false, Bool.and_true, Bool.true_and, Bool.false_and, Bool.and_false, Bool.or_true, Bool.true_or, Bool.false_or, Bool.or_false, cond_true, cond_false]) rfl
    · have h3 : (ee2) = true := nB_n.mp (cn_eq.mp h3)
      refine z_rcs hc hH 1 (pc' := 32) (lv' := [(2, .ref (18 + 8 * t)), (0, .ref 0), (1, .int x)]) (st' := [.int 0]) (μ' := μ) (by rfl) ?_
      exact hr 0 32 _ _ _ (some (.int 0)) (by decide +kernel) (by rfl) (⟨rfl, (by try rw [hee2]; simp only [h1, h3, lb_f, Int64.or_zero, Int32.add_zero, nB_t, nB_f, Bool.not_true, Bool.not_false, Bool.and_true, Bool.true_and, Bool.false_and, Bool.and_false, Bool.or_true, Bool.true_or, Bool.false_or, Bool.or_false, cond_true, cond_false])⟩)
theorem gc_mayClaimSet (d : Nat) (hd : 3 ≤ d) (μ : zM) (s : Nat) (hs4 : s < 4) : z_C d mi_X6_mayClaimSet [.ref 0, .int (nI s)] μ (zR μ (.int (nB ((decide ((μ.1 0 7) = 2)) && ((sI (nI s)) && (!(decide ((nI s) = (μ.1 0 8))) && ((decide ((μ.1 (18 + 8 * s) 5) = 0)) && (!(decide ((xLf μ) ≤ 0)) && (!(xAny μ)))))))))) := by
  refine z_C_in (by decide) (by omega) (fun d' Z ed hc hr => ?_)
  have hH : zH mi_X6_mayClaimSet zc_X6_mayClaimSet 79 6 2 := ⟨by rfl, by rfl, by rfl, by rfl⟩
  refine z_rcs hc hH 1 (pc' := 1) (lv' := [(0, .ref 0), (1, .int (nI s))]) (st' := [.ref 0]) (μ' := μ) (by rfl) ?_
  refine zq_gfi hc hH (by rfl) (ci := 5) (f := 7) (by rfl) (by decide +kernel) (by rfl) ?_
  refine z_rcs hc hH 1 (pc' := 5) (lv' := [(0, .ref 0), (1, .int (nI s))]) (st' := [.int 2, .int (μ.1 0 7)]) (μ' := μ) (by rfl) ?_
  have hJ1 : Z 0 56 [(0, .ref 0), (1, .int (nI s))] [.int (nB ((decide ((μ.1 0 7) = 2)) && ((sI (nI s)) && (!(decide ((nI s) = (μ.1 0 8))) && ((decide ((μ.1 (18 + 8 * s) 5) = 0)) && (!(decide ((xLf μ) ≤ 0)) && (!(xAny μ))))))))] μ := by
    generalize hee2 : ((decide ((μ.1 0 7) = 2)) && ((sI (nI s)) && (!(decide ((nI s) = (μ.1 0 8))) && ((decide ((μ.1 (18 + 8 * s) 5) = 0)) && (!(decide ((xLf μ) ≤ 0)) && (!(xAny μ))))))) = ee2
    exact hr 0 56 _ _ _ (some (.int (nB ee2))) (by decide +kernel) ((fun b : Bool => (by cases b <;> rfl : z_rn mi_X6_mayClaimSet 56 [.int (nB b)] = some (some (.int (nB b))))) ee2) (⟨rfl, (by subst hee2; rfl)⟩)
  refine zq_ic hc hH (by rfl) (tg := 55) (by rfl) (fun h3 => ?_) (fun h3 => ?_)
  · have h3 : (decide ((μ.1 0 7) = 2)) = false := decide_eq_false (cm_ne.mp h3)
    refine z_rcs hc hH 1 (pc' := 56) (lv' := [(0, .ref 0), (1, .int (nI s))]) (st' := [.int 0]) (μ' := μ) (by rfl) ?_
    exact zJ hJ1 rfl (by first | rfl | simp only [h3, lb_f, Int64.or_zero, Int32.add_zero, nB_t, nB_f, Bool.not_true, Bool.not_false, Bool.and_true, Bool.true_and, Bool.false_and, Bool.and_false, Bool.or_true, Bool.true_or, Bool.false_or, Bool.or_false, cond_true, cond_false]) rfl
  · have h3 : (decide ((μ.1 0 7) = 2)) = true := decide_eq_true (cn_ne.mp h3)
    refine z_rcs hc hH 1 (pc' := 9) (lv' := [(0, .ref 0), (1, .int (nI s))]) (st' := [.int (nI s)]) (μ' := μ) (by rfl) ?_
    refine zq_call hc (by rfl) (gc_isSeat d' (by omega) μ (nI s)) (by decide +kernel) (fun r9 μ9 hq => ?_)
    obtain ⟨hμ9, rfl⟩ := hq
    rw [hμ9]
    clear hμ9 μ9
    show Z 0 12 [(0, .ref 0), (1, .int (nI s))] [.int (nB (sI (nI s)))] μ
    refine zq_if hc hH (by rfl) (tg := 55) (by rfl) (fun h4 => ?_) (fun h4 => ?_)
    · have h4 : (sI (nI s)) = false := nB_z.mp (cm_eq9.mp h4)
      refine z_rcs hc hH 1 (pc' := 56) (lv' := [(0, .ref 0), (1, .int (nI s))]) (st' := [.int 0]) (μ' := μ) (by rfl) ?_
      exact zJ hJ1 rfl (by first | rfl | simp only [h3, h4, lb_f, Int64.or_zero, Int32.add_zero, nB_t, nB_f, Bool.not_true, Bool.not_false, Bool.and_true, Bool.true_and, Bool.false_and, Bool.and_false, Bool.or_true, Bool.true_or, Bool.false_or, Bool.or_false, cond_true, cond_false]) rfl
    · have h4 : (sI (nI s)) = true := nB_n.mp (cn_eq.mp h4)
      refine z_rcs hc hH 2 (pc' := 17) (lv' := [(0, .ref 0), (1, .int (nI s))]) (st' := [.ref 0, .int (nI s)]) (μ' := μ) (by rfl) ?_
      refine zq_gfi hc hH (by rfl) (ci := 5) (f := 8) (by rfl) (by decide +kernel) (by rfl) ?_
      refine zq_ic hc hH (by rfl) (tg := 55) (by rfl) (fun h5 => ?_) (fun h5 => ?_)
      · have h5 : (decide ((nI s) = (μ.1 0 8))) = true := decide_eq_true (cm_eq9.mp h5)
        refine z_rcs hc hH 1 (pc' := 56) (lv' := [(0, .ref 0), (1, .int (nI s))]) (st' := [.int 0]) (μ' := μ) (by rfl) ?_
        exact zJ hJ1 rfl (by first | rfl | simp only [h3, h4, h5, lb_f, Int64.or_zero, Int32.add_zero, nB_t, nB_f, Bool.not_true, Bool.not_false, Bool.and_true, Bool.true_and, Bool.false_and, Bool.and_false, Bool.or_true, Bool.true_or, Bool.false_or, Bool.or_false, cond_true, cond_false]) rfl
      · have h5 : (decide ((nI s) = (μ.1 0 8))) = false := decide_eq_false (cn_eq.mp h5)
        refine z_rcs hc hH 2 (pc' := 25) (lv' := [(0, .ref 0), (1, .int (nI s))]) (st' := [.int (nI s), .ref 0]) (μ' := μ) (by rfl) ?_
        refine zq_call hc (by rfl) (gc_at4 d' (by omega) μ s hs4) (by decide +kernel) (fun r9 μ9 hq => ?_)
        obtain ⟨hμ9, rfl⟩ := hq
        rw [hμ9]
        clear hμ9 μ9
        show Z 0 28 [(0, .ref 0), (1, .int (nI s))] [.ref (18 + 8 * s)] μ
        refine zq_gfi hc hH (by rfl) (ci := 1) (f := 5) (by rfl) (sj (P := fun i => okf 79 1 5 (18 + 8 * i)) hs4 (by decide +kernel)) (by rfl) ?_
        refine zq_if hc hH (by rfl) (tg := 55) (by rfl) (fun h6 => ?_) (fun h6 => ?_)
        · have h6 : (decide ((μ.1 (18 + 8 * s) 5) = 0)) = false := decide_eq_false (cm_ne.mp h6)
          refine z_rcs hc hH 1 (pc' := 56) (lv' := [(0, .ref 0), (1, .int (nI s))]) (st' := [.int 0]) (μ' := μ) (by rfl) ?_
          exact zJ hJ1 rfl (by first | rfl | simp only [h3, h4, h5, h6, lb_f, Int64.or_zero, Int32.add_zero, nB_t, nB_f, Bool.not_true, Bool.not_false, Bool.and_true, Bool.true_and, Bool.false_and, Bool.and_false, Bool.or_true, Bool.true_or, Bool.false_or, Bool.or_false, cond_true, cond_false]) rfl
        · have h6 : (decide ((μ.1 (18 + 8 * s) 5) = 0)) = true := decide_eq_true (cn_ne.mp h6)
          refine z_rcs hc hH 1 (pc' := 35) (lv' := [(0, .ref 0), (1, .int (nI s))]) (st' := [.ref 0]) (μ' := μ) (by rfl) ?_
          refine zq_gfr hc hH (by rfl) (ci := 5) (f := 1) (q := 2) (by rfl) (by decide +kernel) (by rfl) (by decide +kernel) ?_
          refine zq_call hc (by rfl) (gc_left d' (by omega) μ) (by decide +kernel) (fun r9 μ9 hq => ?_)
          obtain ⟨hμ9, rfl⟩ := hq
          rw [hμ9]
          clear hμ9 μ9
          show Z 0 41 [(0, .ref 0), (1, .int (nI s))] [.int (xLf μ)] μ
          refine zq_if hc hH (by rfl) (tg := 55) (by rfl) (fun h7 => ?_) (fun h7 => ?_)
          · have h7 : (decide ((xLf μ) ≤ 0)) = true := decide_eq_true (cm_le.mp h7)
            refine z_rcs hc hH 1 (pc' := 56) (lv' := [(0, .ref 0), (1, .int (nI s))]) (st' := [.int 0]) (μ' := μ) (by rfl) ?_
            exact zJ hJ1 rfl (by first | rfl | simp only [h3, h4, h5, h6, h7, lb_f, Int64.or_zero, Int32.add_zero, nB_t, nB_f, Bool.not_true, Bool.not_false, Bool.and_true, Bool.true_and, Bool.false_and, Bool.and_false, Bool.or_true, Bool.true_or, Bool.false_or, Bool.or_false, cond_true, cond_false]) rfl
          · have h7 : (decide ((xLf μ) ≤ 0)) = false := decide_eq_false (cn_le.mp h7)
            refine z_rcs hc hH 1 (pc' := 45) (lv' := [(0, .ref 0), (1, .int (nI s))]) (st' := [.ref 0]) (μ' := μ) (by rfl) ?_
            refine zq_call hc (by rfl) (gc_someoneSays d' (by omega) μ) (by decide +kernel) (fun r9 μ9 hq => ?_)
            obtain ⟨hμ9, rfl⟩ := hq
            rw [hμ9]
            clear hμ9 μ9
            show Z 0 48 [(0, .ref 0), (1, .int (nI s))] [.int (nB (xAny μ))] μ
            refine zq_if hc hH (by rfl) (tg := 55) (by rfl) (fun h8 => ?_) (fun h8 => ?_)
            · have h8 : (xAny μ) = true := nB_n.mp (cm_ne.mp h8)
              refine z_rcs hc hH 1 (pc' := 56) (lv' := [(0, .ref 0), (1, .int (nI s))]) (st' := [.int 0]) (μ' := μ) (by rfl) ?_
              exact zJ hJ1 rfl (by first | rfl | simp only [h3, h4, h5, h6, h7, h8, lb_f, Int64.or_zero, Int32.add_zero, nB_t, nB_f, Bool.not_true, Bool.not_false, Bool.and_true, Bool.true_and, Bool.false_and, Bool.and_false, Bool.or_true, Bool.true_or, Bool.false_or, Bool.or_false, cond_true, cond_false]) rfl
            · have h8 : (xAny μ) = false := nB_z.mp (cn_ne.mp h8)
              refine z_rcs hc hH 2 (pc' := 56) (lv' := [(0, .ref 0), (1, .int (nI s))]) (st' := [.int 1]) (μ' := μ) (by rfl) ?_
              exact zJ hJ1 rfl (by first | rfl | simp only [h3, h4, h5, h6, h7, h8, lb_f, Int64.or_zero, Int32.add_zero, nB_t, nB_f, Bool.not_true, Bool.not_false, Bool.and_true, Bool.true_and, Bool.false_and, Bool.and_false, Bool.or_true, Bool.true_or, Bool.false_or, Bool.or_false, cond_true, cond_false]) rfl
theorem gc_otherEnd (d : Nat) (hd : 2 ≤ d) (μ : zM) (x : Int32) : z_C d mi_X6_otherEnd [.ref 0, .int x] μ (zR μ (.long (bif decide ((μ.1 0 15) = x) then bif srB (x + 1) then 1 <<< ((x + 3).toInt64 &&& 63) else bif decide ((μ.1 0 15) = (x + 2)) then bif decide (x ≤ 0) then (0 : Int64) else bif srB (x - 1) then 1 <<< ((x - 1).toInt64 &&& 63) else 0 else 0 else bif decide ((μ.1 0 15) = (x + 2)) then bif decide (x ≤ 0) then (0 : Int64) else bif srB (x - 1) then 1 <<< ((x - 1).toInt64 &&& 63) else 0 else 0))) := by
  refine z_C_in (by decide) (by omega) (fun d' Z ed hc hr => ?_)
  have hH : zH mi_X6_otherEnd zc_X6_otherEnd 79 6 2 := ⟨by rfl, by rfl, by rfl, by rfl⟩
  refine z_rcs hc hH 1 (pc' := 1) (lv' := [(0, .ref 0), (1, .int x)]) (st' := [.ref 0]) (μ' := μ) (by rfl) ?_
  refine zq_gfi hc hH (by rfl) (ci := 5) (f := 15) (by rfl) (by decide +kernel) (by rfl) ?_
  refine z_rcs hc hH 1 (pc' := 5) (lv' := [(0, .ref 0), (1, .int x)]) (st' := [.int x, .int (μ.1 0 15)]) (μ' := μ) (by rfl) ?_
  refine zq_ic hc hH (by rfl) (tg := 23) (by rfl) (fun h1 => ?_) (fun h1 => ?_)
  · have h1 : (decide ((μ.1 0 15) = x)) = false := decide_eq_false (cm_ne.mp h1)
    refine z_rcs hc hH 1 (pc' := 24) (lv' := [(0, .ref 0), (1, .int x)]) (st' := [.ref 0]) (μ' := μ) (by rfl) ?_
    refine zq_gfi hc hH (by rfl) (ci := 5) (f := 15) (by rfl) (by decide +kernel) (by rfl) ?_
    refine z_rcs hc hH 3 (pc' := 30) (lv' := [(0, .ref 0), (1, .int x)]) (st' := [.int (x + 2), .int (μ.1 0 15)]) (μ' := μ) (by rfl) ?_
    refine zq_ic hc hH (by rfl) (tg := 52) (by rfl) (fun h2 => ?_) (fun h2 => ?_)
    · have h2 : (decide ((μ.1 0 15) = (x + 2))) = false := decide_eq_false (cm_ne.mp h2)
      refine z_rcs hc hH 1 (pc' := 53) (lv' := [(0, .ref 0), (1, .int x)]) (st' := [.long 0]) (μ' := μ) (by rfl) ?_
      exact hr 0 53 _ _ _ (some (.long 0)) (by decide +kernel) (by rfl) (⟨rfl, (by simp only [h1, h2, lb_f, Int64.or_zero, Int32.add_zero, nB_t, nB_f, Bool.not_true, Bool.not_false, Bool.and_true, Bool.true_and, Bool.false_and, Bool.and_false, Bool.or_true, Bool.true_or, Bool.false_or, Bool.or_false, cond_true, cond_false])⟩)
    · have h2 : (decide ((μ.1 0 15) = (x + 2))) = true := decide_eq_true (cn_ne.mp h2)
      refine z_rcs hc hH 1 (pc' := 34) (lv' := [(0, .ref 0), (1, .int x)]) (st' := [.int x]) (μ' := μ) (by rfl) ?_
      refine zq_if hc hH (by rfl) (tg := 52) (by rfl) (fun h3 => ?_) (fun h3 => ?_)
      · have h3 : (decide (x ≤ 0)) = true := decide_eq_true (cm_le.mp h3)
        refine z_rcs hc hH 1 (pc' := 53) (lv' := [(0, .ref 0), (1, .int x)]) (st' := [.long 0]) (μ' := μ) (by rfl) ?_
        exact hr 0 53 _ _ _ (some (.long 0)) (by decide +kernel) (by rfl) (⟨rfl, (by simp only [h1, h2, h3, lb_f, Int64.or_zero, Int32.add_zero, nB_t, nB_f, Bool.not_true, Bool.not_false, Bool.and_true, Bool.true_and, Bool.false_and, Bool.and_false, Bool.or_true, Bool.true_or, Bool.false_or, Bool.or_false, cond_true, cond_false])⟩)
      · have h3 : (decide (x ≤ 0)) = false := decide_eq_false (cn_le.mp h3)
        refine z_rcs hc hH 3 (pc' := 40) (lv' := [(0, .ref 0), (1, .int x)]) (st' := [.int (x - 1)]) (μ' := μ) (by rfl) ?_
        refine zq_call hc (by rfl) (gc_startsRun d' (by omega) μ (x - 1)) (by decide +kernel) (fun r9 μ9 hq => ?_)
        obtain ⟨hμ9, rfl⟩ := hq
        rw [hμ9]
        clear hμ9 μ9
        show Z 0 43 [(0, .ref 0), (1, .int x)] [.int (nB (srB (x - 1)))] μ
        generalize hee4 : (srB (x - 1)) = ee4
        refine zq_if hc hH (by rfl) (tg := 52) (by rfl) (fun h5 => ?_) (fun h5 => ?_)
        · have h5 : (ee4) = false := nB_z.mp (cm_eq9.mp h5)
          refine z_rcs hc hH 1 (pc' := 53) (lv' := [(0, .ref 0), (1, .int x)]) (st' := [.long 0]) (μ' := μ) (by rfl) ?_
          exact hr 0 53 _ _ _ (some (.long 0)) (by decide +kernel) (by rfl) (⟨rfl, (by try rw [hee4]; simp only [h1, h2, h3, h5, lb_f, Int64.or_zero, Int32.add_zero, nB_t, nB_f, Bool.not_true, Bool.not_false, Bool.and_true, Bool.true_and, Bool.false_and, Bool.and_false, Bool.or_true, Bool.true_or, Bool.false_or, Bool.or_false, cond_true, cond_false])⟩)
        · have h5 : (ee4) = true := nB_n.mp (cn_eq.mp h5)
          refine z_rcs hc hH 5 (pc' := 51) (lv' := [(0, .ref 0), (1, .int x)]) (st' := [.long (1 <<< ((x - 1).toInt64 &&& 63))]) (μ' := μ) (by rfl) ?_
          exact hr 0 51 _ _ _ (some (.long (1 <<< ((x - 1).toInt64 &&& 63)))) (by decide +kernel) (by rfl) (⟨rfl, (by try rw [hee4]; simp only [h1, h2, h3, h5, lb_f, Int64.or_zero, Int32.add_zero, nB_t, nB_f, Bool.not_true, Bool.not_false, Bool.and_true, Bool.true_and, Bool.false_and, Bool.and_false, Bool.or_true, Bool.true_or, Bool.false_or, Bool.or_false, cond_true, cond_false])⟩)
  · have h1 : (decide ((μ.1 0 15) = x)) = true := decide_eq_true (cn_ne.mp h1)
    refine z_rcs hc hH 3 (pc' := 11) (lv' := [(0, .ref 0), (1, .int x)]) (st' := [.int (x + 1)]) (μ' := μ) (by rfl) ?_
    refine zq_call hc (by rfl) (gc_startsRun d' (by omega) μ (x + 1)) (by decide +kernel) (fun r9 μ9 hq => ?_)
    obtain ⟨hμ9, rfl⟩ := hq
    rw [hμ9]
    clear hμ9 μ9
    show Z 0 14 [(0, .ref 0), (1, .int x)] [.int (nB (srB (x + 1)))] μ
    generalize hee6 : (srB (x + 1)) = ee6
    refine zq_if hc hH (by rfl) (tg := 23) (by rfl) (fun h7 => ?_) (fun h7 => ?_)
    · have h7 : (ee6) = false := nB_z.mp (cm_eq9.mp h7)
      refine z_rcs hc hH 1 (pc' := 24) (lv' := [(0, .ref 0), (1, .int x)]) (st' := [.ref 0]) (μ' := μ) (by rfl) ?_
      refine zq_gfi hc hH (by rfl) (ci := 5) (f := 15) (by rfl) (by decide +kernel) (by rfl) ?_
      refine z_rcs hc hH 3 (pc' := 30) (lv' := [(0, .ref 0), (1, .int x)]) (st' := [.int (x + 2), .int (μ.1 0 15)]) (μ' := μ) (by rfl) ?_
      refine zq_ic hc hH (by rfl) (tg := 52) (by rfl) (fun h8 => ?_) (fun h8 => ?_)
      · have h8 : (decide ((μ.1 0 15) = (x + 2))) = false := decide_eq_false (cm_ne.mp h8)
        refine z_rcs hc hH 1 (pc' := 53) (lv' := [(0, .ref 0), (1, .int x)]) (st' := [.long 0]) (μ' := μ) (by rfl) ?_
        exact hr 0 53 _ _ _ (some (.long 0)) (by decide +kernel) (by rfl) (⟨rfl, (by try rw [hee6]; simp only [h1, h7, h8, lb_f, Int64.or_zero, Int32.add_zero, nB_t, nB_f, Bool.not_true, Bool.not_false, Bool.and_true, Bool.true_and, Bool.false_and, Bool.and_false, Bool.or_true, Bool.true_or, Bool.false_or, Bool.or_false, cond_true, cond_false])⟩)
      · have h8 : (decide ((μ.1 0 15) = (x + 2))) = true := decide_eq_true (cn_ne.mp h8)
        refine z_rcs hc hH 1 (pc' := 34) (lv' := [(0, .ref 0), (1, .int x)]) (st' := [.int x]) (μ' := μ) (by rfl) ?_
        refine zq_if hc hH (by rfl) (tg := 52) (by rfl) (fun h9 => ?_) (fun h9 => ?_)
        · have h9 : (decide (x ≤ 0)) = true := decide_eq_true (cm_le.mp h9)
          refine z_rcs hc hH 1 (pc' := 53) (lv' := [(0, .ref 0), (1, .int x)]) (st' := [.long 0]) (μ' := μ) (by rfl) ?_
          exact hr 0 53 _ _ _ (some (.long 0)) (by decide +kernel) (by rfl) (⟨rfl, (by try rw [hee6]; simp only [h1, h7, h8, h9, lb_f, Int64.or_zero, Int32.add_zero, nB_t, nB_f, Bool.not_true, Bool.not_false, Bool.and_true, Bool.true_and, Bool.false_and, Bool.and_false, Bool.or_true, Bool.true_or, Bool.false_or, Bool.or_false, cond_true, cond_false])⟩)
        · have h9 : (decide (x ≤ 0)) = false := decide_eq_false (cn_le.mp h9)
          refine z_rcs hc hH 3 (pc' := 40) (lv' := [(0, .ref 0), (1, .int x)]) (st' := [.int (x - 1)]) (μ' := μ) (by rfl) ?_
          refine zq_call hc (by rfl) (gc_startsRun d' (by omega) μ (x - 1)) (by decide +kernel) (fun r9 μ9 hq => ?_)
          obtain ⟨hμ9, rfl⟩ := hq
          rw [hμ9]
          clear hμ9 μ9
          show Z 0 43 [(0, .ref 0), (1, .int x)] [.int (nB (srB (x - 1)))] μ
          generalize hee10 : (srB (x - 1)) = ee10
          refine zq_if hc hH (by rfl) (tg := 52) (by rfl) (fun h11 => ?_) (fun h11 => ?_)
          · have h11 : (ee10) = false := nB_z.mp (cm_eq9.mp h11)
            refine z_rcs hc hH 1 (pc' := 53) (lv' := [(0, .ref 0), (1, .int x)]) (st' := [.long 0]) (μ' := μ) (by rfl) ?_
            exact hr 0 53 _ _ _ (some (.long 0)) (by decide +kernel) (by rfl) (⟨rfl, (by try rw [hee6]; try rw [hee10]; simp only [h1, h7, h8, h9, h11, lb_f, Int64.or_zero, Int32.add_zero, nB_t, nB_f, Bool.not_true, Bool.not_false, Bool.and_true, Bool.true_and, Bool.false_and, Bool.and_false, Bool.or_true, Bool.true_or, Bool.false_or, Bool.or_false, cond_true, cond_false])⟩)
          · have h11 : (ee10) = true := nB_n.mp (cn_eq.mp h11)
            refine z_rcs hc hH 5 (pc' := 51) (lv' := [(0, .ref 0), (1, .int x)]) (st' := [.long (1 <<< ((x - 1).toInt64 &&& 63))]) (μ' := μ) (by rfl) ?_
            exact hr 0 51 _ _ _ (some (.long (1 <<< ((x - 1).toInt64 &&& 63)))) (by decide +kernel) (by rfl) (⟨rfl, (by try rw [hee6]; try rw [hee10]; simp only [h1, h7, h8, h9, h11, lb_f, Int64.or_zero, Int32.add_zero, nB_t, nB_f, Bool.not_true, Bool.not_false, Bool.and_true, Bool.true_and, Bool.false_and, Bool.and_false, Bool.or_true, Bool.true_or, Bool.false_or, Bool.or_false, cond_true, cond_false])⟩)
    · have h7 : (ee6) = true := nB_n.mp (cn_eq.mp h7)
      refine z_rcs hc hH 5 (pc' := 22) (lv' := [(0, .ref 0), (1, .int x)]) (st' := [.long (1 <<< ((x + 3).toInt64 &&& 63))]) (μ' := μ) (by rfl) ?_
      exact hr 0 22 _ _ _ (some (.long (1 <<< ((x + 3).toInt64 &&& 63)))) (by decide +kernel) (by rfl) (⟨rfl, (by try rw [hee6]; simp only [h1, h7, lb_f, Int64.or_zero, Int32.add_zero, nB_t, nB_f, Bool.not_true, Bool.not_false, Bool.and_true, Bool.true_and, Bool.false_and, Bool.and_false, Bool.or_true, Bool.true_or, Bool.false_or, Bool.or_false, cond_true, cond_false])⟩)
theorem gc_toldForms (d : Nat) (hd : 3 ≤ d) (μ : zM) (s : Nat) (hs4 : s < 4) (dr : Bool) : z_C d mi_X6_toldForms [.ref 0, .ref (18 + 8 * s), .int (nB dr)] μ (zR μ (.long (bif decide ((xLf μ) = 0) then bif dr then (bif decide ((xLf μ) = 0) then ((bif dr then (((0 ||| (bif decide ((μ.1 (18 + 8 * s) 5) = 1) then (1 : Int64) else 0)) ||| (bif decide ((μ.1 (18 + 8 * s) 5) = 2) then (2 : Int64) else 0)) ||| (bif decide ((μ.1 (18 + 8 * s) 7) = 0) then (0 : Int64) else 4)) ||| (bif decide ((μ.1 0 16) = 0) then (0 : Int64) else 64) else ((0 ||| (bif decide ((μ.1 (18 + 8 * s) 5) = 1) then (1 : Int64) else 0)) ||| (bif decide ((μ.1 (18 + 8 * s) 5) = 2) then (2 : Int64) else 0)) ||| (bif decide ((μ.1 (18 + 8 * s) 7) = 0) then (0 : Int64) else 4)) ||| (bif decide ((μ.1 0 7) = 3) then (128 : Int64) else 0)) ||| (bif decide ((μ.1 0 7) = 2) then (32 : Int64) else 0) else (bif dr then (((0 ||| (bif decide ((μ.1 (18 + 8 * s) 5) = 1) then (1 : Int64) else 0)) ||| (bif decide ((μ.1 (18 + 8 * s) 5) = 2) then (2 : Int64) else 0)) ||| (bif decide ((μ.1 (18 + 8 * s) 7) = 0) then (0 : Int64) else 4)) ||| (bif decide ((μ.1 0 16) = 0) then (0 : Int64) else 64) else ((0 ||| (bif decide ((μ.1 (18 + 8 * s) 5) = 1) then (1 : Int64) else 0)) ||| (bif decide ((μ.1 (18 + 8 * s) 5) = 2) then (2 : Int64) else 0)) ||| (bif decide ((μ.1 (18 + 8 * s) 7) = 0) then (0 : Int64) else 4)) ||| (bif decide ((μ.1 0 7) = 3) then (128 : Int64) else 0)) ||| (bif decide ((μ.1 0 16) = 0) then (16 : Int64) else 0) else bif decide ((xLf μ) = 0) then ((bif dr then (((0 ||| (bif decide ((μ.1 (18 + 8 * s) 5) = 1) then (1 : Int64) else 0)) ||| (bif decide ((μ.1 (18 + 8 * s) 5) = 2) then (2 : Int64) else 0)) ||| (bif decide ((μ.1 (18 + 8 * s) 7) = 0) then (0 : Int64) else 4)) ||| (bif decide ((μ.1 0 16) = 0) then (0 : Int64) else 64) else ((0 ||| (bif decide ((μ.1 (18 + 8 * s) 5) = 1) then (1 : Int64) else 0)) ||| (bif decide ((μ.1 (18 + 8 * s) 5) = 2) then (2 : Int64) else 0)) ||| (bif decide ((μ.1 (18 + 8 * s) 7) = 0) then (0 : Int64) else 4)) ||| (bif decide ((μ.1 0 7) = 3) then (128 : Int64) else 0)) ||| (bif decide ((μ.1 0 7) = 2) then (32 : Int64) else 0) else (bif dr then (((0 ||| (bif decide ((μ.1 (18 + 8 * s) 5) = 1) then (1 : Int64) else 0)) ||| (bif decide ((μ.1 (18 + 8 * s) 5) = 2) then (2 : Int64) else 0)) ||| (bif decide ((μ.1 (18 + 8 * s) 7) = 0) then (0 : Int64) else 4)) ||| (bif decide ((μ.1 0 16) = 0) then (0 : Int64) else 64) else ((0 ||| (bif decide ((μ.1 (18 + 8 * s) 5) = 1) then (1 : Int64) else 0)) ||| (bif decide ((μ.1 (18 + 8 * s) 5) = 2) then (2 : Int64) else 0)) ||| (bif decide ((μ.1 (18 + 8 * s) 7) = 0) then (0 : Int64) else 4)) ||| (bif decide ((μ.1 0 7) = 3) then (128 : Int64) else 0) else bif decide ((xLf μ) = 0) then ((bif dr then (((0 ||| (bif decide ((μ.1 (18 + 8 * s) 5) = 1) then (1 : Int64) else 0)) ||| (bif decide ((μ.1 (18 + 8 * s) 5) = 2) then (2 : Int64) else 0)) ||| (bif decide ((μ.1 (18 + 8 * s) 7) = 0) then (0 : Int64) else 4)) ||| (bif decide ((μ.1 0 16) = 0) then (0 : Int64) else 64) else ((0 ||| (bif decide ((μ.1 (18 + 8 * s) 5) = 1) then (1 : Int64) else 0)) ||| (bif decide ((μ.1 (18 + 8 * s) 5) = 2) then (2 : Int64) else 0)) ||| (bif decide ((μ.1 (18 + 8 * s) 7) = 0) then (0 : Int64) else 4)) ||| (bif decide ((μ.1 0 7) = 3) then (128 : Int64) else 0)) ||| (bif decide ((μ.1 0 7) = 2) then (32 : Int64) else 0) else (bif dr then (((0 ||| (bif decide ((μ.1 (18 + 8 * s) 5) = 1) then (1 : Int64) else 0)) ||| (bif decide ((μ.1 (18 + 8 * s) 5) = 2) then (2 : Int64) else 0)) ||| (bif decide ((μ.1 (18 + 8 * s) 7) = 0) then (0 : Int64) else 4)) ||| (bif decide ((μ.1 0 16) = 0) then (0 : Int64) else 64) else ((0 ||| (bif decide ((μ.1 (18 + 8 * s) 5) = 1) then (1 : Int64) else 0)) ||| (bif decide ((μ.1 (18 + 8 * s) 5) = 2) then (2 : Int64) else 0)) ||| (bif decide ((μ.1 (18 + 8 * s) 7) = 0) then (0 : Int64) else 4)) ||| (bif decide ((μ.1 0 7) = 3) then (128 : Int64) else 0)))) := by
  refine z_C_in (by decide) (by omega) (fun d' Z ed hc hr => ?_)
  have hH : zH mi_X6_toldForms zc_X6_toldForms 79 6 5 := ⟨by rfl, by rfl, by rfl, by rfl⟩
  refine z_rcs hc hH 3 (pc' := 3) (lv' := [(3, .long 0), (0, .ref 0), (1, .ref (18 + 8 * s)), (2, .int (nB dr))]) (st' := [.ref (18 + 8 * s)]) (μ' := μ) (by rfl) ?_
  refine zq_gfi hc hH (by rfl) (ci := 1) (f := 5) (by rfl) (sj (P := fun i => okf 79 1 5 (18 + 8 * i)) hs4 (by decide +kernel)) (by rfl) ?_
  refine z_rcs hc hH 1 (pc' := 7) (lv' := [(3, .long 0), (0, .ref 0), (1, .ref (18 + 8 * s)), (2, .int (nB dr))]) (st' := [.int 1, .int (μ.1 (18 + 8 * s) 5)]) (μ' := μ) (by rfl) ?_
  have hJ1 : Z 0 14 [(3, .long (0 ||| (bif decide ((μ.1 (18 + 8 * s) 5) = 1) then (1 : Int64) else 0))), (0, .ref 0), (1, .ref (18 + 8 * s)), (2, .int (nB dr))] [] μ := by
    refine z_rcs hc hH 1 (pc' := 15) (lv' := [(3, .long (0 ||| (bif decide ((μ.1 (18 + 8 * s) 5) = 1) then (1 : Int64) else 0))), (0, .ref 0), (1, .ref (18 + 8 * s)), (2, .int (nB dr))]) (st' := [.ref (18 + 8 * s)]) (μ' := μ) (by rfl) ?_
    refine zq_gfi hc hH (by rfl) (ci := 1) (f := 5) (by rfl) (sj (P := fun i => okf 79 1 5 (18 + 8 * i)) hs4 (by decide +kernel)) (by rfl) ?_
    refine z_rcs hc hH 1 (pc' := 19) (lv' := [(3, .long (0 ||| (bif decide ((μ.1 (18 + 8 * s) 5) = 1) then (1 : Int64) else 0))), (0, .ref 0), (1, .ref (18 + 8 * s)), (2, .int (nB dr))]) (st' := [.int 2, .int (μ.1 (18 + 8 * s) 5)]) (μ' := μ) (by rfl) ?_
    have hJ2 : Z 0 28 [(3, .long ((0 ||| (bif decide ((μ.1 (18 + 8 * s) 5) = 1) then (1 : Int64) else 0)) ||| (bif decide ((μ.1 (18 + 8 * s) 5) = 2) then (2 : Int64) else 0))), (0, .ref 0), (1, .ref (18 + 8 * s)), (2, .int (nB dr))] [] μ := by
      generalize hyy3 : ((0 ||| (bif decide ((μ.1 (18 + 8 * s) 5) = 1) then (1 : Int64) else 0)) ||| (bif decide ((μ.1 (18 + 8 * s) 5) = 2) then (2 : Int64) else 0) : Int64) = yy3
      refine z_rcs hc hH 1 (pc' := 29) (lv' := [(3, .long yy3), (0, .ref 0), (1, .ref (18 + 8 * s)), (2, .int (nB dr))]) (st' := [.ref (18 + 8 * s)]) (μ' := μ) (by rfl) ?_
      refine zq_gfi hc hH (by rfl) (ci := 1) (f := 7) (by rfl) (sj (P := fun i => okf 79 1 7 (18 + 8 * i)) hs4 (by decide +kernel)) (by rfl) ?_
      have hJ4 : Z 0 41 [(3, .long (yy3 ||| (bif decide ((μ.1 (18 + 8 * s) 7) = 0) then (0 : Int64) else 4))), (0, .ref 0), (1, .ref (18 + 8 * s)), (2, .int (nB dr))] [] μ := by
        generalize hyy5 : (yy3 ||| (bif decide ((μ.1 (18 + 8 * s) 7) = 0) then (0 : Int64) else 4) : Int64) = yy5
        refine z_rcs hc hH 1 (pc' := 42) (lv' := [(3, .long yy5), (0, .ref 0), (1, .ref (18 + 8 * s)), (2, .int (nB dr))]) (st' := [.int (nB dr)]) (μ' := μ) (by rfl) ?_
        have hJ6 : Z 0 58 [(3, .long (bif dr then yy5 ||| (bif decide ((μ.1 0 16) = 0) then (0 : Int64) else 64) else yy5)), (0, .ref 0), (1, .ref (18 + 8 * s)), (2, .int (nB dr))] [] μ := by
          generalize hyy7 : (bif dr then yy5 ||| (bif decide ((μ.1 0 16) = 0) then (0 : Int64) else 64) else yy5 : Int64) = yy7
          refine z_rcs hc hH 1 (pc' := 59) (lv' := [(3, .long yy7), (0, .ref 0), (1, .ref (18 + 8 * s)), (2, .int (nB dr))]) (st' := [.ref 0]) (μ' := μ) (by rfl) ?_
          refine zq_gfi hc hH (by rfl) (ci := 5) (f := 7) (by rfl) (by decide +kernel) (by rfl) ?_
          refine z_rcs hc hH 1 (pc' := 63) (lv' := [(3, .long yy7), (0, .ref 0), (1, .ref (18 + 8 * s)), (2, .int (nB dr))]) (st' := [.int 3, .int (μ.1 0 7)]) (μ' := μ) (by rfl) ?_
          have hJ8 : Z 0 72 [(3, .long (yy7 ||| (bif decide ((μ.1 0 7) = 3) then (128 : Int64) else 0))), (0, .ref 0), (1, .ref (18 + 8 * s)), (2, .int (nB dr))] [] μ := by
            refine z_rcs hc hH 1 (pc' := 73) (lv' := [(3, .long (yy7 ||| (bif decide ((μ.1 0 7) = 3) then (128 : Int64) else 0))), (0, .ref 0), (1, .ref (18 + 8 * s)), (2, .int (nB dr))]) (st' := [.ref 0]) (μ' := μ) (by rfl) ?_
            refine zq_gfr hc hH (by rfl) (ci := 5) (f := 1) (q := 2) (by rfl) (by decide +kernel) (by rfl) (by decide +kernel) ?_
            refine zq_call hc (by rfl) (gc_left d' (by omega) μ) (by decide +kernel) (fun r9 μ9 hq => ?_)
            obtain ⟨hμ9, rfl⟩ := hq
            rw [hμ9]
            clear hμ9 μ9
            show Z 0 79 [(3, .long (yy7 ||| (bif decide ((μ.1 0 7) = 3) then (128 : Int64) else 0))), (0, .ref 0), (1, .ref (18 + 8 * s)), (2, .int (nB dr))] [.int (xLf μ)] μ
            have hJ9 : Z 0 96 [(3, .long (bif decide ((xLf μ) = 0) then (yy7 ||| (bif decide ((μ.1 0 7) = 3) then (128 : Int64) else 0)) ||| (bif decide ((μ.1 0 7) = 2) then (32 : Int64) else 0) else yy7 ||| (bif decide ((μ.1 0 7) = 3) then (128 : Int64) else 0))), (0, .ref 0), (1, .ref (18 + 8 * s)), (2, .int (nB dr))] [] μ := by
              generalize hyy10 : (bif decide ((xLf μ) = 0) then (yy7 ||| (bif decide ((μ.1 0 7) = 3) then (128 : Int64) else 0)) ||| (bif decide ((μ.1 0 7) = 2) then (32 : Int64) else 0) else yy7 ||| (bif decide ((μ.1 0 7) = 3) then (128 : Int64) else 0) : Int64) = yy10
              refine z_rcs hc hH 1 (pc' := 97) (lv' := [(3, .long yy10), (0, .ref 0), (1, .ref (18 + 8 * s)), (2, .int (nB dr))]) (st' := [.ref 0]) (μ' := μ) (by rfl) ?_
              refine zq_gfr hc hH (by rfl) (ci := 5) (f := 1) (q := 2) (by rfl) (by decide +kernel) (by rfl) (by decide +kernel) ?_
              refine zq_call hc (by rfl) (gc_left d' (by omega) μ) (by decide +kernel) (fun r9 μ9 hq => ?_)
              obtain ⟨hμ9, rfl⟩ := hq
              rw [hμ9]
              clear hμ9 μ9
              show Z 0 103 [(3, .long yy10), (0, .ref 0), (1, .ref (18 + 8 * s)), (2, .int (nB dr))] [.int (xLf μ)] μ
              have hJ11 : Z 0 123 [(3, .long (bif decide ((xLf μ) = 0) then bif dr then yy10 ||| (bif decide ((μ.1 0 16) = 0) then (16 : Int64) else 0) else yy10 else yy10)), (0, .ref 0), (1, .ref (18 + 8 * s)), (2, .int (nB dr))] [] μ := by
                generalize hyy12 : (bif decide ((xLf μ) = 0) then bif dr then yy10 ||| (bif decide ((μ.1 0 16) = 0) then (16 : Int64) else 0) else yy10 else yy10 : Int64) = yy12
                refine z_rcs hc hH 1 (pc' := 124) (lv' := [(3, .long yy12), (0, .ref 0), (1, .ref (18 + 8 * s)), (2, .int (nB dr))]) (st' := [.long yy12]) (μ' := μ) (by rfl) ?_
                exact hr 0 124 _ _ _ (some (.long yy12)) (by decide +kernel) (by rfl) (⟨rfl, (by subst hyy12; subst hyy10; subst hyy7; subst hyy5; subst hyy3; rfl)⟩)
              refine zq_if hc hH (by rfl) (tg := 123) (by rfl) (fun h13 => ?_) (fun h13 => ?_)
              · have h13 : (decide ((xLf μ) = 0)) = false := decide_eq_false (cm_ne.mp h13)
                exact zJ hJ11 (by first | rfl | simp only [h13, lb_f, Int64.or_zero, Int32.add_zero, nB_t, nB_f, Bool.not_true, Bool.not_false, Bool.and_true, Bool.true_and, Bool.false_and, Bool.and_false, Bool.or_true, Bool.true_or, Bool.false_or, Bool.or_false, cond_true, cond_false]) rfl rfl
              · have h13 : (decide ((xLf μ) = 0)) = true := decide_eq_true (cn_ne.mp h13)
                refine z_rcs hc hH 1 (pc' := 107) (lv' := [(3, .long yy10), (0, .ref 0), (1, .ref (18 + 8 * s)), (2, .int (nB dr))]) (st' := [.int (nB dr)]) (μ' := μ) (by rfl) ?_
                refine zq_if hc hH (by rfl) (tg := 123) (by rfl) (fun h14 => ?_) (fun h14 => ?_)
                · have h14 : (dr) = false := nB_z.mp (cm_eq9.mp h14)
                  exact zJ hJ11 (by first | rfl | simp only [h13, h14, lb_f, Int64.or_zero, Int32.add_zero, nB_t, nB_f, Bool.not_true, Bool.not_false, Bool.and_true, Bool.true_and, Bool.false_and, Bool.and_false, Bool.or_true, Bool.true_or, Bool.false_or, Bool.or_false, cond_true, cond_false]) rfl rfl
                · have h14 : (dr) = true := nB_n.mp (cn_eq.mp h14)
                  refine z_rcs hc hH 1 (pc' := 111) (lv' := [(3, .long yy10), (0, .ref 0), (1, .ref (18 + 8 * s)), (2, .int (nB dr))]) (st' := [.ref 0]) (μ' := μ) (by rfl) ?_
                  refine zq_gfi hc hH (by rfl) (ci := 5) (f := 16) (by rfl) (by decide +kernel) (by rfl) ?_
                  refine zq_if hc hH (by rfl) (tg := 123) (by rfl) (fun h15 => ?_) (fun h15 => ?_)
                  · have h15 : (decide ((μ.1 0 16) = 0)) = false := decide_eq_false (cm_ne.mp h15)
                    exact zJ hJ11 (by first | rfl | simp only [h13, h14, h15, lb_f, Int64.or_zero, Int32.add_zero, nB_t, nB_f, Bool.not_true, Bool.not_false, Bool.and_true, Bool.true_and, Bool.false_and, Bool.and_false, Bool.or_true, Bool.true_or, Bool.false_or, Bool.or_false, cond_true, cond_false]) rfl rfl
                  · have h15 : (decide ((μ.1 0 16) = 0)) = true := decide_eq_true (cn_ne.mp h15)
                    refine z_rcs hc hH 4 (pc' := 123) (lv' := [(3, .long (yy10 ||| 16)), (0, .ref 0), (1, .ref (18 + 8 * s)), (2, .int (nB dr))]) (st' := []) (μ' := μ) (by rfl) ?_
                    exact zJ hJ11 (by first | rfl | simp only [h13, h14, h15, lb_f, Int64.or_zero, Int32.add_zero, nB_t, nB_f, Bool.not_true, Bool.not_false, Bool.and_true, Bool.true_and, Bool.false_and, Bool.and_false, Bool.or_true, Bool.true_or, Bool.false_or, Bool.or_false, cond_true, cond_false]) rfl rfl
            refine zq_if hc hH (by rfl) (tg := 96) (by rfl) (fun h16 => ?_) (fun h16 => ?_)
            · have h16 : (decide ((xLf μ) = 0)) = false := decide_eq_false (cm_ne.mp h16)
              exact zJ hJ9 (by first | rfl | simp only [h16, lb_f, Int64.or_zero, Int32.add_zero, nB_t, nB_f, Bool.not_true, Bool.not_false, Bool.and_true, Bool.true_and, Bool.false_and, Bool.and_false, Bool.or_true, Bool.true_or, Bool.false_or, Bool.or_false, cond_true, cond_false]) rfl rfl
            · have h16 : (decide ((xLf μ) = 0)) = true := decide_eq_true (cn_ne.mp h16)
              refine z_rcs hc hH 1 (pc' := 83) (lv' := [(3, .long (yy7 ||| (bif decide ((μ.1 0 7) = 3) then (128 : Int64) else 0))), (0, .ref 0), (1, .ref (18 + 8 * s)), (2, .int (nB dr))]) (st' := [.ref 0]) (μ' := μ) (by rfl) ?_
              refine zq_gfi hc hH (by rfl) (ci := 5) (f := 7) (by rfl) (by decide +kernel) (by rfl) ?_
              refine z_rcs hc hH 1 (pc' := 87) (lv' := [(3, .long (yy7 ||| (bif decide ((μ.1 0 7) = 3) then (128 : Int64) else 0))), (0, .ref 0), (1, .ref (18 + 8 * s)), (2, .int (nB dr))]) (st' := [.int 2, .int (μ.1 0 7)]) (μ' := μ) (by rfl) ?_
              refine zq_ic hc hH (by rfl) (tg := 96) (by rfl) (fun h17 => ?_) (fun h17 => ?_)
              · have h17 : (decide ((μ.1 0 7) = 2)) = false := decide_eq_false (cm_ne.mp h17)
                exact zJ hJ9 (by first | rfl | simp only [h16, h17, lb_f, Int64.or_zero, Int32.add_zero, nB_t, nB_f, Bool.not_true, Bool.not_false, Bool.and_true, Bool.true_and, Bool.false_and, Bool.and_false, Bool.or_true, Bool.true_or, Bool.false_or, Bool.or_false, cond_true, cond_false]) rfl rfl
              · have h17 : (decide ((μ.1 0 7) = 2)) = true := decide_eq_true (cn_ne.mp h17)
                refine z_rcs hc hH 4 (pc' := 96) (lv' := [(3, .long ((yy7 ||| (bif decide ((μ.1 0 7) = 3) then (128 : Int64) else 0)) ||| 32)), (0, .ref 0), (1, .ref (18 + 8 * s)), (2, .int (nB dr))]) (st' := []) (μ' := μ) (by rfl) ?_
                exact zJ hJ9 (by first | rfl | simp only [h16, h17, lb_f, Int64.or_zero, Int32.add_zero, nB_t, nB_f, Bool.not_true, Bool.not_false, Bool.and_true, Bool.true_and, Bool.false_and, Bool.and_false, Bool.or_true, Bool.true_or, Bool.false_or, Bool.or_false, cond_true, cond_false]) rfl rfl
          refine zq_ic hc hH (by rfl) (tg := 72) (by rfl) (fun h18 => ?_) (fun h18 => ?_)
          · have h18 : (decide ((μ.1 0 7) = 3)) = false := decide_eq_false (cm_ne.mp h18)
            exact zJ hJ8 (by first | rfl | simp only [h18, lb_f, Int64.or_zero, Int32.add_zero, nB_t, nB_f, Bool.not_true, Bool.not_false, Bool.and_true, Bool.true_and, Bool.false_and, Bool.and_false, Bool.or_true, Bool.true_or, Bool.false_or, Bool.or_false, cond_true, cond_false]) rfl rfl
          · have h18 : (decide ((μ.1 0 7) = 3)) = true := decide_eq_true (cn_ne.mp h18)
            refine z_rcs hc hH 4 (pc' := 72) (lv' := [(3, .long (yy7 ||| 128)), (0, .ref 0), (1, .ref (18 + 8 * s)), (2, .int (nB dr))]) (st' := []) (μ' := μ) (by rfl) ?_
            exact zJ hJ8 (by first | rfl | simp only [h18, lb_f, Int64.or_zero, Int32.add_zero, nB_t, nB_f, Bool.not_true, Bool.not_false, Bool.and_true, Bool.true_and, Bool.false_and, Bool.and_false, Bool.or_true, Bool.true_or, Bool.false_or, Bool.or_false, cond_true, cond_false]) rfl rfl
        refine zq_if hc hH (by rfl) (tg := 58) (by rfl) (fun h19 => ?_) (fun h19 => ?_)
        · have h19 : (dr) = false := nB_z.mp (cm_eq9.mp h19)
          exact zJ hJ6 (by first | rfl | simp only [h19, lb_f, Int64.or_zero, Int32.add_zero, nB_t, nB_f, Bool.not_true, Bool.not_false, Bool.and_true, Bool.true_and, Bool.false_and, Bool.and_false, Bool.or_true, Bool.true_or, Bool.false_or, Bool.or_false, cond_true, cond_false]) rfl rfl
        · have h19 : (dr) = true := nB_n.mp (cn_eq.mp h19)
          refine z_rcs hc hH 1 (pc' := 46) (lv' := [(3, .long yy5), (0, .ref 0), (1, .ref (18 + 8 * s)), (2, .int (nB dr))]) (st' := [.ref 0]) (μ' := μ) (by rfl) ?_
          refine zq_gfi hc hH (by rfl) (ci := 5) (f := 16) (by rfl) (by decide +kernel) (by rfl) ?_
          refine zq_if hc hH (by rfl) (tg := 58) (by rfl) (fun h20 => ?_) (fun h20 => ?_)
          · have h20 : (decide ((μ.1 0 16) = 0)) = true := decide_eq_true (cm_eq9.mp h20)
            exact zJ hJ6 (by first | rfl | simp only [h19, h20, lb_f, Int64.or_zero, Int32.add_zero, nB_t, nB_f, Bool.not_true, Bool.not_false, Bool.and_true, Bool.true_and, Bool.false_and, Bool.and_false, Bool.or_true, Bool.true_or, Bool.false_or, Bool.or_false, cond_true, cond_false]) rfl rfl
          · have h20 : (decide ((μ.1 0 16) = 0)) = false := decide_eq_false (cn_eq.mp h20)
            refine z_rcs hc hH 4 (pc' := 58) (lv' := [(3, .long (yy5 ||| 64)), (0, .ref 0), (1, .ref (18 + 8 * s)), (2, .int (nB dr))]) (st' := []) (μ' := μ) (by rfl) ?_
            exact zJ hJ6 (by first | rfl | simp only [h19, h20, lb_f, Int64.or_zero, Int32.add_zero, nB_t, nB_f, Bool.not_true, Bool.not_false, Bool.and_true, Bool.true_and, Bool.false_and, Bool.and_false, Bool.or_true, Bool.true_or, Bool.false_or, Bool.or_false, cond_true, cond_false]) rfl rfl
      refine zq_if hc hH (by rfl) (tg := 41) (by rfl) (fun h21 => ?_) (fun h21 => ?_)
      · have h21 : (decide ((μ.1 (18 + 8 * s) 7) = 0)) = true := decide_eq_true (cm_eq9.mp h21)
        exact zJ hJ4 (by first | rfl | simp only [h21, lb_f, Int64.or_zero, Int32.add_zero, nB_t, nB_f, Bool.not_true, Bool.not_false, Bool.and_true, Bool.true_and, Bool.false_and, Bool.and_false, Bool.or_true, Bool.true_or, Bool.false_or, Bool.or_false, cond_true, cond_false]) rfl rfl
      · have h21 : (decide ((μ.1 (18 + 8 * s) 7) = 0)) = false := decide_eq_false (cn_eq.mp h21)
        refine z_rcs hc hH 4 (pc' := 41) (lv' := [(3, .long (yy3 ||| 4)), (0, .ref 0), (1, .ref (18 + 8 * s)), (2, .int (nB dr))]) (st' := []) (μ' := μ) (by rfl) ?_
        exact zJ hJ4 (by first | rfl | simp only [h21, lb_f, Int64.or_zero, Int32.add_zero, nB_t, nB_f, Bool.not_true, Bool.not_false, Bool.and_true, Bool.true_and, Bool.false_and, Bool.and_false, Bool.or_true, Bool.true_or, Bool.false_or, Bool.or_false, cond_true, cond_false]) rfl rfl
    refine zq_ic hc hH (by rfl) (tg := 28) (by rfl) (fun h22 => ?_) (fun h22 => ?_)
    · have h22 : (decide ((μ.1 (18 + 8 * s) 5) = 2)) = false := decide_eq_false (cm_ne.mp h22)
      exact zJ hJ2 (by first | rfl | simp only [h22, lb_f, Int64.or_zero, Int32.add_zero, nB_t, nB_f, Bool.not_true, Bool.not_false, Bool.and_true, Bool.true_and, Bool.false_and, Bool.and_false, Bool.or_true, Bool.true_or, Bool.false_or, Bool.or_false, cond_true, cond_false]) rfl rfl
    · have h22 : (decide ((μ.1 (18 + 8 * s) 5) = 2)) = true := decide_eq_true (cn_ne.mp h22)
      refine z_rcs hc hH 4 (pc' := 28) (lv' := [(3, .long ((0 ||| (bif decide ((μ.1 (18 + 8 * s) 5) = 1) then (1 : Int64) else 0)) ||| 2)), (0, .ref 0), (1, .ref (18 + 8 * s)), (2, .int (nB dr))]) (st' := []) (μ' := μ) (by rfl) ?_
      exact zJ hJ2 (by first | rfl | simp only [h22, lb_f, Int64.or_zero, Int32.add_zero, nB_t, nB_f, Bool.not_true, Bool.not_false, Bool.and_true, Bool.true_and, Bool.false_and, Bool.and_false, Bool.or_true, Bool.true_or, Bool.false_or, Bool.or_false, cond_true, cond_false]) rfl rfl
  refine zq_ic hc hH (by rfl) (tg := 14) (by rfl) (fun h23 => ?_) (fun h23 => ?_)
  · have h23 : (decide ((μ.1 (18 + 8 * s) 5) = 1)) = false := decide_eq_false (cm_ne.mp h23)
    exact zJ hJ1 (by first | rfl | simp only [h23, lb_f, Int64.or_zero, Int32.add_zero, nB_t, nB_f, Bool.not_true, Bool.not_false, Bool.and_true, Bool.true_and, Bool.false_and, Bool.and_false, Bool.or_true, Bool.true_or, Bool.false_or, Bool.or_false, cond_true, cond_false]) rfl rfl
  · have h23 : (decide ((μ.1 (18 + 8 * s) 5) = 1)) = true := decide_eq_true (cn_ne.mp h23)
    refine z_rcs hc hH 4 (pc' := 14) (lv' := [(3, .long (0 ||| 1)), (0, .ref 0), (1, .ref (18 + 8 * s)), (2, .int (nB dr))]) (st' := []) (μ' := μ) (by rfl) ?_
    exact zJ hJ1 (by first | rfl | simp only [h23, lb_f, Int64.or_zero, Int32.add_zero, nB_t, nB_f, Bool.not_true, Bool.not_false, Bool.and_true, Bool.true_and, Bool.false_and, Bool.and_false, Bool.or_true, Bool.true_or, Bool.false_or, Bool.or_false, cond_true, cond_false]) rfl rfl
theorem gc_firstDraw (d : Nat) (hd : 3 ≤ d) (μ : zM) (s : Nat) (hs4 : s < 4) (dr : Bool) : z_C d mi_X6_firstDraw [.ref 0, .int (nI s), .int (nB dr)] μ (zR μ (.long (bif dr then bif decide ((μ.1 0 17) = 0) then bif decide ((μ.1 (18 + 8 * s) 2) ≤ 0) then 1 <<< ((bif decide ((nI s) = (μ.1 0 9)) then (42 : Int32) else 43).toInt64 &&& 63) else 0 else 0 else 0))) := by
  refine z_C_in (by decide) (by omega) (fun d' Z ed hc hr => ?_)
  have hH : zH mi_X6_firstDraw zc_X6_firstDraw 79 6 3 := ⟨by rfl, by rfl, by rfl, by rfl⟩
  refine z_rcs hc hH 1 (pc' := 1) (lv' := [(0, .ref 0), (1, .int (nI s)), (2, .int (nB dr))]) (st' := [.int (nB dr)]) (μ' := μ) (by rfl) ?_
  refine zq_if hc hH (by rfl) (tg := 22) (by rfl) (fun h1 => ?_) (fun h1 => ?_)
  · have h1 : (dr) = false := nB_z.mp (cm_eq9.mp h1)
    refine z_rcs hc hH 1 (pc' := 23) (lv' := [(0, .ref 0), (1, .int (nI s)), (2, .int (nB dr))]) (st' := [.long 0]) (μ' := μ) (by rfl) ?_
    exact hr 0 23 _ _ _ (some (.long 0)) (by decide +kernel) (by rfl) (⟨rfl, (by simp only [h1, lb_f, Int64.or_zero, Int32.add_zero, nB_t, nB_f, Bool.not_true, Bool.not_false, Bool.and_true, Bool.true_and, Bool.false_and, Bool.and_false, Bool.or_true, Bool.true_or, Bool.false_or, Bool.or_false, cond_true, cond_false])⟩)
  · have h1 : (dr) = true := nB_n.mp (cn_eq.mp h1)
    refine z_rcs hc hH 1 (pc' := 5) (lv' := [(0, .ref 0), (1, .int (nI s)), (2, .int (nB dr))]) (st' := [.ref 0]) (μ' := μ) (by rfl) ?_
    refine zq_gfi hc hH (by rfl) (ci := 5) (f := 17) (by rfl) (by decide +kernel) (by rfl) ?_
    refine zq_if hc hH (by rfl) (tg := 22) (by rfl) (fun h2 => ?_) (fun h2 => ?_)
    · have h2 : (decide ((μ.1 0 17) = 0)) = false := decide_eq_false (cm_ne.mp h2)
      refine z_rcs hc hH 1 (pc' := 23) (lv' := [(0, .ref 0), (1, .int (nI s)), (2, .int (nB dr))]) (st' := [.long 0]) (μ' := μ) (by rfl) ?_
      exact hr 0 23 _ _ _ (some (.long 0)) (by decide +kernel) (by rfl) (⟨rfl, (by simp only [h1, h2, lb_f, Int64.or_zero, Int32.add_zero, nB_t, nB_f, Bool.not_true, Bool.not_false, Bool.and_true, Bool.true_and, Bool.false_and, Bool.and_false, Bool.or_true, Bool.true_or, Bool.false_or, Bool.or_false, cond_true, cond_false])⟩)
    · have h2 : (decide ((μ.1 0 17) = 0)) = true := decide_eq_true (cn_ne.mp h2)
      refine z_rcs hc hH 2 (pc' := 13) (lv' := [(0, .ref 0), (1, .int (nI s)), (2, .int (nB dr))]) (st' := [.int (nI s), .ref 0]) (μ' := μ) (by rfl) ?_
      refine zq_call hc (by rfl) (gc_at4 d' (by omega) μ s hs4) (by decide +kernel) (fun r9 μ9 hq => ?_)
      obtain ⟨hμ9, rfl⟩ := hq
      rw [hμ9]
      clear hμ9 μ9
      show Z 0 16 [(0, .ref 0), (1, .int (nI s)), (2, .int (nB dr))] [.ref (18 + 8 * s)] μ
      refine zq_gfi hc hH (by rfl) (ci := 1) (f := 2) (by rfl) (sj (P := fun i => okf 79 1 2 (18 + 8 * i)) hs4 (by decide +kernel)) (by rfl) ?_
      refine zq_if hc hH (by rfl) (tg := 24) (by rfl) (fun h3 => ?_) (fun h3 => ?_)
      · have h3 : (decide ((μ.1 (18 + 8 * s) 2) ≤ 0)) = true := decide_eq_true (cm_le.mp h3)
        refine z_rcs hc hH 3 (pc' := 27) (lv' := [(0, .ref 0), (1, .int (nI s)), (2, .int (nB dr))]) (st' := [.ref 0, .int (nI s), .long 1]) (μ' := μ) (by rfl) ?_
        refine zq_gfi hc hH (by rfl) (ci := 5) (f := 9) (by rfl) (by decide +kernel) (by rfl) ?_
        have hJ4 : Z 0 40 [(0, .ref 0), (1, .int (nI s)), (2, .int (nB dr))] [.int (bif decide ((nI s) = (μ.1 0 9)) then (42 : Int32) else 43), .long 1] μ := by
          refine z_rcs hc hH 1 (pc' := 41) (lv' := [(0, .ref 0), (1, .int (nI s)), (2, .int (nB dr))]) (st' := [.long (1 <<< ((bif decide ((nI s) = (μ.1 0 9)) then (42 : Int32) else 43).toInt64 &&& 63))]) (μ' := μ) (by rfl) ?_
          exact hr 0 41 _ _ _ (some (.long (1 <<< ((bif decide ((nI s) = (μ.1 0 9)) then (42 : Int32) else 43).toInt64 &&& 63)))) (by decide +kernel) (by rfl) (⟨rfl, (by simp only [h1, h2, h3, lb_f, Int64.or_zero, Int32.add_zero, nB_t, nB_f, Bool.not_true, Bool.not_false, Bool.and_true, Bool.true_and, Bool.false_and, Bool.and_false, Bool.or_true, Bool.true_or, Bool.false_or, Bool.or_false, cond_true, cond_false])⟩)
        refine zq_ic hc hH (by rfl) (tg := 38) (by rfl) (fun h5 => ?_) (fun h5 => ?_)
        · have h5 : (decide ((nI s) = (μ.1 0 9))) = false := decide_eq_false (cm_ne.mp h5)
          refine z_rcs hc hH 1 (pc' := 40) (lv' := [(0, .ref 0), (1, .int (nI s)), (2, .int (nB dr))]) (st' := [.int 43, .long 1]) (μ' := μ) (by rfl) ?_
          exact zJ hJ4 rfl (by first | rfl | simp only [h5, lb_f, Int64.or_zero, Int32.add_zero, nB_t, nB_f, Bool.not_true, Bool.not_false, Bool.and_true, Bool.true_and, Bool.false_and, Bool.and_false, Bool.or_true, Bool.true_or, Bool.false_or, Bool.or_false, cond_true, cond_false]) rfl
        · have h5 : (decide ((nI s) = (μ.1 0 9))) = true := decide_eq_true (cn_ne.mp h5)
          refine z_rcs hc hH 2 (pc' := 40) (lv' := [(0, .ref 0), (1, .int (nI s)), (2, .int (nB dr))]) (st' := [.int 42, .long 1]) (μ' := μ) (by rfl) ?_
          exact zJ hJ4 rfl (by first | rfl | simp only [h5, lb_f, Int64.or_zero, Int32.add_zero, nB_t, nB_f, Bool.not_true, Bool.not_false, Bool.and_true, Bool.true_and, Bool.false_and, Bool.and_false, Bool.or_true, Bool.true_or, Bool.false_or, Bool.or_false, cond_true, cond_false]) rfl
      · have h3 : (decide ((μ.1 (18 + 8 * s) 2) ≤ 0)) = false := decide_eq_false (cn_le.mp h3)
        refine z_rcs hc hH 1 (pc' := 23) (lv' := [(0, .ref 0), (1, .int (nI s)), (2, .int (nB dr))]) (st' := [.long 0]) (μ' := μ) (by rfl) ?_
        exact hr 0 23 _ _ _ (some (.long 0)) (by decide +kernel) (by rfl) (⟨rfl, (by simp only [h1, h2, h3, lb_f, Int64.or_zero, Int32.add_zero, nB_t, nB_f, Bool.not_true, Bool.not_false, Bool.and_true, Bool.true_and, Bool.false_and, Bool.and_false, Bool.or_true, Bool.true_or, Bool.false_or, Bool.or_false, cond_true, cond_false])⟩)

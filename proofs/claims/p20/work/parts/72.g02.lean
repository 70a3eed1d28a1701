/-! the forms that the tiles alone give: the reference (end) -/
set_option maxRecDepth 8000
theorem ng_in {a b : Bool} : ∀ k, k < 9 → vp_in ((bif a then (0 : Int32) else bif b then (9 : Int32) else 18) + nI k) 34 := by
  intro k hk
  have h : ∀ k, k < 9 → ((0 : Int32) + nI k = nI k ∧ (9 : Int32) + nI k = nI (9 + k) ∧ (18 : Int32) + nI k = nI (18 + k)) := by decide +kernel
  have := h k hk
  cases a
  · cases b
    · show vp_in ((18 : Int32) + nI k) 34
      rw [this.2.2]; exact vp_in_nI (by omega) (by decide)
    · show vp_in ((9 : Int32) + nI k) 34
      rw [this.2.1]; exact vp_in_nI (by omega) (by decide)
  · show vp_in ((0 : Int32) + nI k) 34
    rw [this.1]; exact vp_in_nI (by omega) (by decide)
noncomputable def tlG (μ : zM) (g : Int64) (t : T7) : Int64 := ((((g) ||| (lb t.2.2.1 37)) ||| (lb t.2.2.2.2.1 38)) ||| (lb t.2.2.2.2.2.1 39)) ||| (lb (((decide (t.2.2.2.2.2.2 = 1)) || ((decide (t.2.2.2.2.2.2 = 2)) || (decide (t.2.2.2.2.2.2 = 4)))) && (!t.2.2.2.1 && ((decide ((μ.1 50 4) = 0)) && (((((((((!(decide ((μ.1 58 ((bif decide (t.2.2.2.2.2.2 = 1) then (0 : Int32) else bif decide (t.2.2.2.2.2.2 = 2) then (9 : Int32) else 18) + 0).toNatClampNeg) < 3))) && (!(decide ((μ.1 58 ((bif decide (t.2.2.2.2.2.2 = 1) then (0 : Int32) else bif decide (t.2.2.2.2.2.2 = 2) then (9 : Int32) else 18) + 1).toNatClampNeg) < 1)))) && (!(decide ((μ.1 58 ((bif decide (t.2.2.2.2.2.2 = 1) then (0 : Int32) else bif decide (t.2.2.2.2.2.2 = 2) then (9 : Int32) else 18) + 2).toNatClampNeg) < 1)))) && (!(decide ((μ.1 58 ((bif decide (t.2.2.2.2.2.2 = 1) then (0 : Int32) else bif decide (t.2.2.2.2.2.2 = 2) then (9 : Int32) else 18) + 3).toNatClampNeg) < 1)))) && (!(decide ((μ.1 58 ((bif decide (t.2.2.2.2.2.2 = 1) then (0 : Int32) else bif decide (t.2.2.2.2.2.2 = 2) then (9 : Int32) else 18) + 4).toNatClampNeg) < 1)))) && (!(decide ((μ.1 58 ((bif decide (t.2.2.2.2.2.2 = 1) then (0 : Int32) else bif decide (t.2.2.2.2.2.2 = 2) then (9 : Int32) else 18) + 5).toNatClampNeg) < 1)))) && (!(decide ((μ.1 58 ((bif decide (t.2.2.2.2.2.2 = 1) then (0 : Int32) else bif decide (t.2.2.2.2.2.2 = 2) then (9 : Int32) else 18) + 6).toNatClampNeg) < 1)))) && (!(decide ((μ.1 58 ((bif decide (t.2.2.2.2.2.2 = 1) then (0 : Int32) else bif decide (t.2.2.2.2.2.2 = 2) then (9 : Int32) else 18) + 7).toNatClampNeg) < 1)))) && (!(decide ((μ.1 58 ((bif decide (t.2.2.2.2.2.2 = 1) then (0 : Int32) else bif decide (t.2.2.2.2.2.2 = 2) then (9 : Int32) else 18) + 8).toNatClampNeg) < 3))))))) 40)
noncomputable def tlP (μ : zM) (p : Int64) (t : T7) : Int64 := ((((p) ||| (lb t.2.1 8)) ||| (lb t.1 24)) ||| (lb (((decide (t.2.2.2.2.2.2 = 1)) || ((decide (t.2.2.2.2.2.2 = 2)) || (decide (t.2.2.2.2.2.2 = 4)))) && t.2.2.2.1) 26)) ||| (lb (((decide (t.2.2.2.2.2.2 = 1)) || ((decide (t.2.2.2.2.2.2 = 2)) || (decide (t.2.2.2.2.2.2 = 4)))) && (!t.2.2.2.1)) 29)
theorem tl213_1 (d' : Nat) (Z : zK) (hd : 2 ≤ d') (μ : zM) (t : T7) (hc : z_clo z_x0 mi_X7_tiles (z_C d') Z) (hr : z_ret mi_X7_tiles (fun r μ' => r = none ∧ μ' = mGP μ (tlG μ (μ.2.1 50 24) t) (tlP μ (μ.2.1 50 25) t) (μ.1 50 23)) Z) : Z 0 213 [(8, .int (nI 34)), (7, .int t.2.2.2.2.2.2), (6, .int (nB t.2.2.2.2.2.1)), (5, .int (nB t.2.2.2.2.1)), (4, .int (nB t.2.2.2.1)), (3, .int (nB t.2.2.1)), (2, .int (nB t.2.1)), (1, .int (nB t.1)), (0, .ref 50)] [] μ := by
  have hH : zH mi_X7_tiles zt_X7_tiles 79 7 12 := hh_X7_tiles
  obtain ⟨a1, a2, a3, a4, a5, a6, su⟩ := t
  show Z 0 213 [(8, .int (nI 34)), (7, .int su), (6, .int (nB a6)), (5, .int (nB a5)), (4, .int (nB a4)), (3, .int (nB a3)), (2, .int (nB a2)), (1, .int (nB a1)), (0, .ref 50)] [] μ
  refine zJ (μ := mGP μ (μ.2.1 50 24) (μ.2.1 50 25) (μ.1 50 23)) ?_ rfl rfl (mGP_rf μ)
  refine z_rcs hc hH 2 (pc' := 216) (lv' := [(8, .int (nI 34)), (7, .int su), (6, .int (nB a6)), (5, .int (nB a5)), (4, .int (nB a4)), (3, .int (nB a3)), (2, .int (nB a2)), (1, .int (nB a1)), (0, .ref 50)]) (st' := [.int 1, .int su]) (μ' := mGP μ (μ.2.1 50 24) (μ.2.1 50 25) (μ.1 50 23)) (by rfl) ?_
  have hJ1 : Z 0 236 [(8, .int (nI 34)), (7, .int su), (6, .int (nB a6)), (5, .int (nB a5)), (4, .int (nB a4)), (3, .int (nB a3)), (2, .int (nB a2)), (1, .int (nB a1)), (0, .ref 50)] [.int (nB ((decide (su = 1)) || ((decide (su = 2)) || (decide (su = 4)))))] (mGP μ (μ.2.1 50 24) (μ.2.1 50 25) (μ.1 50 23)) := by
    refine z_rcs0 hc hH 2 (pc' := 239) (lv' := [(8, .int (nB ((decide (su = 1)) || ((decide (su = 2)) || (decide (su = 4)))))), (7, .int su), (6, .int (nB a6)), (5, .int (nB a5)), (4, .int (nB a4)), (3, .int (nB a3)), (2, .int (nB a2)), (1, .int (nB a1)), (0, .ref 50)]) (st' := [.int (nB a2)]) (by rfl) ?_
    have hJ2 : Z 0 256 [(8, .int (nB ((decide (su = 1)) || ((decide (su = 2)) || (decide (su = 4)))))), (7, .int su), (6, .int (nB a6)), (5, .int (nB a5)), (4, .int (nB a4)), (3, .int (nB a3)), (2, .int (nB a2)), (1, .int (nB a1)), (0, .ref 50)] [] (mGP μ (μ.2.1 50 24) ((μ.2.1 50 25) ||| (lb a2 8)) (μ.1 50 23)) := by
      refine z_rcs0 hc hH 1 (pc' := 257) (lv' := [(8, .int (nB ((decide (su = 1)) || ((decide (su = 2)) || (decide (su = 4)))))), (7, .int su), (6, .int (nB a6)), (5, .int (nB a5)), (4, .int (nB a4)), (3, .int (nB a3)), (2, .int (nB a2)), (1, .int (nB a1)), (0, .ref 50)]) (st' := [.int (nB a1)]) (by rfl) ?_
      have hJ3 : Z 0 274 [(8, .int (nB ((decide (su = 1)) || ((decide (su = 2)) || (decide (su = 4)))))), (7, .int su), (6, .int (nB a6)), (5, .int (nB a5)), (4, .int (nB a4)), (3, .int (nB a3)), (2, .int (nB a2)), (1, .int (nB a1)), (0, .ref 50)] [] (mGP μ (μ.2.1 50 24) (((μ.2.1 50 25) ||| (lb a2 8)) ||| (lb a1 24)) (μ.1 50 23)) := by
        refine z_rcs0 hc hH 1 (pc' := 276) (lv' := [(8, .int (nB ((decide (su = 1)) || ((decide (su = 2)) || (decide (su = 4)))))), (7, .int su), (6, .int (nB a6)), (5, .int (nB a5)), (4, .int (nB a4)), (3, .int (nB a3)), (2, .int (nB a2)), (1, .int (nB a1)), (0, .ref 50)]) (st' := [.int (nB ((decide (su = 1)) || ((decide (su = 2)) || (decide (su = 4)))))]) (by rfl) ?_
        have hJ4 : Z 0 298 [(8, .int (nB ((decide (su = 1)) || ((decide (su = 2)) || (decide (su = 4)))))), (7, .int su), (6, .int (nB a6)), (5, .int (nB a5)), (4, .int (nB a4)), (3, .int (nB a3)), (2, .int (nB a2)), (1, .int (nB a1)), (0, .ref 50)] [] (mGP μ (μ.2.1 50 24) ((((μ.2.1 50 25) ||| (lb a2 8)) ||| (lb a1 24)) ||| (lb (((decide (su = 1)) || ((decide (su = 2)) || (decide (su = 4)))) && a4) 26)) (μ.1 50 23)) := by
          generalize hy5 : ((((μ.2.1 50 25) ||| (lb a2 8)) ||| (lb a1 24)) ||| (lb (((decide (su = 1)) || ((decide (su = 2)) || (decide (su = 4)))) && a4) 26) : Int64) = y5
          refine z_rcs hc hH 1 (pc' := 300) (lv' := [(8, .int (nB ((decide (su = 1)) || ((decide (su = 2)) || (decide (su = 4)))))), (7, .int su), (6, .int (nB a6)), (5, .int (nB a5)), (4, .int (nB a4)), (3, .int (nB a3)), (2, .int (nB a2)), (1, .int (nB a1)), (0, .ref 50)]) (st' := [.int (nB ((decide (su = 1)) || ((decide (su = 2)) || (decide (su = 4)))))]) (μ' := mGP μ (μ.2.1 50 24) y5 (μ.1 50 23)) (by rfl) ?_
          have hJ6 : Z 0 322 [(8, .int (nB ((decide (su = 1)) || ((decide (su = 2)) || (decide (su = 4)))))), (7, .int su), (6, .int (nB a6)), (5, .int (nB a5)), (4, .int (nB a4)), (3, .int (nB a3)), (2, .int (nB a2)), (1, .int (nB a1)), (0, .ref 50)] [] (mGP μ (μ.2.1 50 24) (y5 ||| (lb (((decide (su = 1)) || ((decide (su = 2)) || (decide (su = 4)))) && (!a4)) 29)) (μ.1 50 23)) := by
            refine z_rcs0 hc hH 1 (pc' := 323) (lv' := [(8, .int (nB ((decide (su = 1)) || ((decide (su = 2)) || (decide (su = 4)))))), (7, .int su), (6, .int (nB a6)), (5, .int (nB a5)), (4, .int (nB a4)), (3, .int (nB a3)), (2, .int (nB a2)), (1, .int (nB a1)), (0, .ref 50)]) (st' := [.int (nB a3)]) (by rfl) ?_
            have hJ7 : Z 0 340 [(8, .int (nB ((decide (su = 1)) || ((decide (su = 2)) || (decide (su = 4)))))), (7, .int su), (6, .int (nB a6)), (5, .int (nB a5)), (4, .int (nB a4)), (3, .int (nB a3)), (2, .int (nB a2)), (1, .int (nB a1)), (0, .ref 50)] [] (mGP μ ((μ.2.1 50 24) ||| (lb a3 37)) (y5 ||| (lb (((decide (su = 1)) || ((decide (su = 2)) || (decide (su = 4)))) && (!a4)) 29)) (μ.1 50 23)) := by
              refine z_rcs0 hc hH 1 (pc' := 342) (lv' := [(8, .int (nB ((decide (su = 1)) || ((decide (su = 2)) || (decide (su = 4)))))), (7, .int su), (6, .int (nB a6)), (5, .int (nB a5)), (4, .int (nB a4)), (3, .int (nB a3)), (2, .int (nB a2)), (1, .int (nB a1)), (0, .ref 50)]) (st' := [.int (nB a5)]) (by rfl) ?_
              have hJ8 : Z 0 359 [(8, .int (nB ((decide (su = 1)) || ((decide (su = 2)) || (decide (su = 4)))))), (7, .int su), (6, .int (nB a6)), (5, .int (nB a5)), (4, .int (nB a4)), (3, .int (nB a3)), (2, .int (nB a2)), (1, .int (nB a1)), (0, .ref 50)] [] (mGP μ (((μ.2.1 50 24) ||| (lb a3 37)) ||| (lb a5 38)) (y5 ||| (lb (((decide (su = 1)) || ((decide (su = 2)) || (decide (su = 4)))) && (!a4)) 29)) (μ.1 50 23)) := by
                refine z_rcs0 hc hH 1 (pc' := 361) (lv' := [(8, .int (nB ((decide (su = 1)) || ((decide (su = 2)) || (decide (su = 4)))))), (7, .int su), (6, .int (nB a6)), (5, .int (nB a5)), (4, .int (nB a4)), (3, .int (nB a3)), (2, .int (nB a2)), (1, .int (nB a1)), (0, .ref 50)]) (st' := [.int (nB a6)]) (by rfl) ?_
                have hJ9 : Z 0 378 [(8, .int (nB ((decide (su = 1)) || ((decide (su = 2)) || (decide (su = 4)))))), (7, .int su), (6, .int (nB a6)), (5, .int (nB a5)), (4, .int (nB a4)), (3, .int (nB a3)), (2, .int (nB a2)), (1, .int (nB a1)), (0, .ref 50)] [] (mGP μ ((((μ.2.1 50 24) ||| (lb a3 37)) ||| (lb a5 38)) ||| (lb a6 39)) (y5 ||| (lb (((decide (su = 1)) || ((decide (su = 2)) || (decide (su = 4)))) && (!a4)) 29)) (μ.1 50 23)) := by
                  refine z_rcs0 hc hH 1 (pc' := 380) (lv' := [(8, .int (nB ((decide (su = 1)) || ((decide (su = 2)) || (decide (su = 4)))))), (7, .int su), (6, .int (nB a6)), (5, .int (nB a5)), (4, .int (nB a4)), (3, .int (nB a3)), (2, .int (nB a2)), (1, .int (nB a1)), (0, .ref 50)]) (st' := [.int (nB ((decide (su = 1)) || ((decide (su = 2)) || (decide (su = 4)))))]) (by rfl) ?_
                  generalize he10 : ((decide (su = 1)) || ((decide (su = 2)) || (decide (su = 4)))) = e10
                  refine zq_if hc hH (by rfl) (tg := 500) (by rfl) (fun h11 => ?_) (fun h11 => ?_)
                  · have h11 : (e10) = false := nB_z.mp (cm_eq9.mp h11)
                    exact hr 0 500 _ _ _ none (by decide +kernel) (by rfl) (⟨rfl, (by unfold tlG tlP; try rw [hy5]; try rw [he10]; simp only [h11, lb_f, Int64.or_zero, nB_t, nB_f, Bool.not_true, Bool.not_false, Bool.and_true, Bool.true_and, Bool.false_and, Bool.and_false, Bool.or_true, Bool.true_or, Bool.false_or, Bool.or_false, cond_true, cond_false])⟩)
                  · have h11 : (e10) = true := nB_n.mp (cn_eq.mp h11)
                    refine z_rcs hc hH 1 (pc' := 385) (lv' := [(8, .int (nB e10)), (7, .int su), (6, .int (nB a6)), (5, .int (nB a5)), (4, .int (nB a4)), (3, .int (nB a3)), (2, .int (nB a2)), (1, .int (nB a1)), (0, .ref 50)]) (st' := [.int (nB a4)]) (μ' := mGP μ ((((μ.2.1 50 24) ||| (lb a3 37)) ||| (lb a5 38)) ||| (lb a6 39)) (y5 ||| (lb (e10 && (!a4)) 29)) (μ.1 50 23)) (by rfl) ?_
                    refine zq_if hc hH (by rfl) (tg := 500) (by rfl) (fun h12 => ?_) (fun h12 => ?_)
                    · have h12 : (a4) = true := nB_n.mp (cm_ne.mp h12)
                      exact hr 0 500 _ _ _ none (by decide +kernel) (by rfl) (⟨rfl, (by unfold tlG tlP; try rw [hy5]; try rw [he10]; simp only [h11, h12, lb_f, Int64.or_zero, nB_t, nB_f, Bool.not_true, Bool.not_false, Bool.and_true, Bool.true_and, Bool.false_and, Bool.and_false, Bool.or_true, Bool.true_or, Bool.false_or, Bool.or_false, cond_true, cond_false])⟩)
                    · have h12 : (a4) = false := nB_z.mp (cn_ne.mp h12)
                      refine z_rcs0 hc hH 2 (pc' := 392) (lv' := [(8, .int (nB e10)), (7, .int su), (6, .int (nB a6)), (5, .int (nB a5)), (4, .int (nB a4)), (3, .int (nB a3)), (2, .int (nB a2)), (1, .int (nB a1)), (0, .ref 50)]) (st' := [.int (μ.1 50 4)]) (by rfl) ?_
                      refine zq_if hc hH (by rfl) (tg := 500) (by rfl) (fun h13 => ?_) (fun h13 => ?_)
                      · have h13 : (decide ((μ.1 50 4) = 0)) = false := decide_eq_false (cm_ne.mp h13)
                        exact hr 0 500 _ _ _ none (by decide +kernel) (by rfl) (⟨rfl, (by unfold tlG tlP; try rw [hy5]; try rw [he10]; simp only [h11, h12, h13, lb_f, Int64.or_zero, nB_t, nB_f, Bool.not_true, Bool.not_false, Bool.and_true, Bool.true_and, Bool.false_and, Bool.and_false, Bool.or_true, Bool.true_or, Bool.false_or, Bool.or_false, cond_true, cond_false])⟩)
                      · have h13 : (decide ((μ.1 50 4) = 0)) = true := decide_eq_true (cn_ne.mp h13)
                        refine z_rcs0 hc hH 2 (pc' := 398) (lv' := [(8, .int (nB e10)), (7, .int su), (6, .int (nB a6)), (5, .int (nB a5)), (4, .int (nB a4)), (3, .int (nB a3)), (2, .int (nB a2)), (1, .int (nB a1)), (0, .ref 50)]) (st' := [.int 1, .int su]) (by rfl) ?_
                        have hJ14 : Z 0 418 [(8, .int (nB e10)), (7, .int su), (6, .int (nB a6)), (5, .int (nB a5)), (4, .int (nB a4)), (3, .int (nB a3)), (2, .int (nB a2)), (1, .int (nB a1)), (0, .ref 50)] [.int (bif decide (su = 1) then (0 : Int32) else bif decide (su = 2) then (9 : Int32) else 18)] (mGP μ ((((μ.2.1 50 24) ||| (lb a3 37)) ||| (lb a5 38)) ||| (lb a6 39)) (y5 ||| (lb (e10 && (!a4)) 29)) (μ.1 50 23)) := by
                          refine z_rcs0 hc hH 15 (pc' := 447) (lv' := [(11, .int 0), (10, .int 1), (9, .int (bif decide (su = 1) then (0 : Int32) else bif decide (su = 2) then (9 : Int32) else 18)), (8, .int (nB e10)), (7, .int su), (6, .int (nB a6)), (5, .int (nB a5)), (4, .int (nB a4)), (3, .int (nB a3)), (2, .int (nB a2)), (1, .int (nB a1)), (0, .ref 50)]) (st' := [.int ((bif decide (su = 1) then (0 : Int32) else bif decide (su = 2) then (9 : Int32) else 18) + 0), .ref 58]) (by rfl) ?_
                          refine zq_iald hc hH (by rfl) 34 (by decide +kernel) (show vp_in (_ + nI 0) 34 from ng_in 0 (by decide)) ?_
                          refine z_rcs0 hc hH 4 (pc' := 465) (lv' := [(11, .int 0), (10, .int 1), (9, .int (bif decide (su = 1) then (0 : Int32) else bif decide (su = 2) then (9 : Int32) else 18)), (8, .int (nB e10)), (7, .int su), (6, .int (nB a6)), (5, .int (nB a5)), (4, .int (nB a4)), (3, .int (nB a3)), (2, .int (nB a2)), (1, .int (nB a1)), (0, .ref 50)]) (st' := [.int 3, .int (μ.1 58 ((bif decide (su = 1) then (0 : Int32) else bif decide (su = 2) then (9 : Int32) else 18) + 0).toNatClampNeg)]) (by rfl) ?_
                          have hJ15 : Z 0 473 [(11, .int 0), (10, .int 1), (9, .int (bif decide (su = 1) then (0 : Int32) else bif decide (su = 2) then (9 : Int32) else 18)), (8, .int (nB e10)), (7, .int su), (6, .int (nB a6)), (5, .int (nB a5)), (4, .int (nB a4)), (3, .int (nB a3)), (2, .int (nB a2)), (1, .int (nB a1)), (0, .ref 50)] [.int (nB (!(decide ((μ.1 58 ((bif decide (su = 1) then (0 : Int32) else bif decide (su = 2) then (9 : Int32) else 18) + 0).toNatClampNeg) < 3))))] (mGP μ ((((μ.2.1 50 24) ||| (lb a3 37)) ||| (lb a5 38)) ||| (lb a6 39)) (y5 ||| (lb (e10 && (!a4)) 29)) (μ.1 50 23)) := by
                            generalize he16 : (!(decide ((μ.1 58 ((bif decide (su = 1) then (0 : Int32) else bif decide (su = 2) then (9 : Int32) else 18) + 0).toNatClampNeg) < 3))) = e16
                            refine z_rcs0 hc hH 7 (pc' := 435) (lv' := [(11, .int 1), (10, .int (nB e16)), (9, .int (bif decide (su = 1) then (0 : Int32) else bif decide (su = 2) then (9 : Int32) else 18)), (8, .int (nB e10)), (7, .int su), (6, .int (nB a6)), (5, .int (nB a5)), (4, .int (nB a4)), (3, .int (nB a3)), (2, .int (nB a2)), (1, .int (nB a1)), (0, .ref 50)]) (st' := [.int (nB e16)]) (by rfl) ?_
                            have hJ17 : Z 0 473 [(11, .int 1), (10, .int (nB e16)), (9, .int (bif decide (su = 1) then (0 : Int32) else bif decide (su = 2) then (9 : Int32) else 18)), (8, .int (nB e10)), (7, .int su), (6, .int (nB a6)), (5, .int (nB a5)), (4, .int (nB a4)), (3, .int (nB a3)), (2, .int (nB a2)), (1, .int (nB a1)), (0, .ref 50)] [.int (nB (e16 && (!(decide ((μ.1 58 ((bif decide (su = 1) then (0 : Int32) else bif decide (su = 2) then (9 : Int32) else 18) + 1).toNatClampNeg) < 1)))))] (mGP μ ((((μ.2.1 50 24) ||| (lb a3 37)) ||| (lb a5 38)) ||| (lb a6 39)) (y5 ||| (lb (e10 && (!a4)) 29)) (μ.1 50 23)) := by
                              generalize he18 : (e16 && (!(decide ((μ.1 58 ((bif decide (su = 1) then (0 : Int32) else bif decide (su = 2) then (9 : Int32) else 18) + 1).toNatClampNeg) < 1)))) = e18
                              refine z_rcs0 hc hH 7 (pc' := 435) (lv' := [(11, .int 2), (10, .int (nB e18)), (9, .int (bif decide (su = 1) then (0 : Int32) else bif decide (su = 2) then (9 : Int32) else 18)), (8, .int (nB e10)), (7, .int su), (6, .int (nB a6)), (5, .int (nB a5)), (4, .int (nB a4)), (3, .int (nB a3)), (2, .int (nB a2)), (1, .int (nB a1)), (0, .ref 50)]) (st' := [.int (nB e18)]) (by rfl) ?_
                              have hJ19 : Z 0 473 [(11, .int 2), (10, .int (nB e18)), (9, .int (bif decide (su = 1) then (0 : Int32) else bif decide (su = 2) then (9 : Int32) else 18)), (8, .int (nB e10)), (7, .int su), (6, .int (nB a6)), (5, .int (nB a5)), (4, .int (nB a4)), (3, .int (nB a3)), (2, .int (nB a2)), (1, .int (nB a1)), (0, .ref 50)] [.int (nB (e18 && (!(decide ((μ.1 58 ((bif decide (su = 1) then (0 : Int32) else bif decide (su = 2) then (9 : Int32) else 18) + 2).toNatClampNeg) < 1)))))] (mGP μ ((((μ.2.1 50 24) ||| (lb a3 37)) ||| (lb a5 38)) ||| (lb a6 39)) (y5 ||| (lb (e10 && (!a4)) 29)) (μ.1 50 23)) := by
                                generalize he20 : (e18 && (!(decide ((μ.1 58 ((bif decide (su = 1) then (0 : Int32) else bif decide (su = 2) then (9 : Int32) else 18) + 2).toNatClampNeg) < 1)))) = e20
                                refine z_rcs0 hc hH 7 (pc' := 435) (lv' := [(11, .int 3), (10, .int (nB e20)), (9, .int (bif decide (su = 1) then (0 : Int32) else bif decide (su = 2) then (9 : Int32) else 18)), (8, .int (nB e10)), (7, .int su), (6, .int (nB a6)), (5, .int (nB a5)), (4, .int (nB a4)), (3, .int (nB a3)), (2, .int (nB a2)), (1, .int (nB a1)), (0, .ref 50)]) (st' := [.int (nB e20)]) (by rfl) ?_
                                have hJ21 : Z 0 473 [(11, .int 3), (10, .int (nB e20)), (9, .int (bif decide (su = 1) then (0 : Int32) else bif decide (su = 2) then (9 : Int32) else 18)), (8, .int (nB e10)), (7, .int su), (6, .int (nB a6)), (5, .int (nB a5)), (4, .int (nB a4)), (3, .int (nB a3)), (2, .int (nB a2)), (1, .int (nB a1)), (0, .ref 50)] [.int (nB (e20 && (!(decide ((μ.1 58 ((bif decide (su = 1) then (0 : Int32) else bif decide (su = 2) then (9 : Int32) else 18) + 3).toNatClampNeg) < 1)))))] (mGP μ ((((μ.2.1 50 24) ||| (lb a3 37)) ||| (lb a5 38)) ||| (lb a6 39)) (y5 ||| (lb (e10 && (!a4)) 29)) (μ.1 50 23)) := by
                                  generalize he22 : (e20 && (!(decide ((μ.1 58 ((bif decide (su = 1) then (0 : Int32) else bif decide (su = 2) then (9 : Int32) else 18) + 3).toNatClampNeg) < 1)))) = e22
                                  refine z_rcs0 hc hH 7 (pc' := 435) (lv' := [(11, .int 4), (10, .int (nB e22)), (9, .int (bif decide (su = 1) then (0 : Int32) else bif decide (su = 2) then (9 : Int32) else 18)), (8, .int (nB e10)), (7, .int su), (6, .int (nB a6)), (5, .int (nB a5)), (4, .int (nB a4)), (3, .int (nB a3)), (2, .int (nB a2)), (1, .int (nB a1)), (0, .ref 50)]) (st' := [.int (nB e22)]) (by rfl) ?_
                                  have hJ23 : Z 0 473 [(11, .int 4), (10, .int (nB e22)), (9, .int (bif decide (su = 1) then (0 : Int32) else bif decide (su = 2) then (9 : Int32) else 18)), (8, .int (nB e10)), (7, .int su), (6, .int (nB a6)), (5, .int (nB a5)), (4, .int (nB a4)), (3, .int (nB a3)), (2, .int (nB a2)), (1, .int (nB a1)), (0, .ref 50)] [.int (nB (e22 && (!(decide ((μ.1 58 ((bif decide (su = 1) then (0 : Int32) else bif decide (su = 2) then (9 : Int32) else 18) + 4).toNatClampNeg) < 1)))))] (mGP μ ((((μ.2.1 50 24) ||| (lb a3 37)) ||| (lb a5 38)) ||| (lb a6 39)) (y5 ||| (lb (e10 && (!a4)) 29)) (μ.1 50 23)) := by
                                    generalize he24 : (e22 && (!(decide ((μ.1 58 ((bif decide (su = 1) then (0 : Int32) else bif decide (su = 2) then (9 : Int32) else 18) + 4).toNatClampNeg) < 1)))) = e24
                                    refine z_rcs0 hc hH 7 (pc' := 435) (lv' := [(11, .int 5), (10, .int (nB e24)), (9, .int (bif decide (su = 1) then (0 : Int32) else bif decide (su = 2) then (9 : Int32) else 18)), (8, .int (nB e10)), (7, .int su), (6, .int (nB a6)), (5, .int (nB a5)), (4, .int (nB a4)), (3, .int (nB a3)), (2, .int (nB a2)), (1, .int (nB a1)), (0, .ref 50)]) (st' := [.int (nB e24)]) (by rfl) ?_
                                    have hJ25 : Z 0 473 [(11, .int 5), (10, .int (nB e24)), (9, .int (bif decide (su = 1) then (0 : Int32) else bif decide (su = 2) then (9 : Int32) else 18)), (8, .int (nB e10)), (7, .int su), (6, .int (nB a6)), (5, .int (nB a5)), (4, .int (nB a4)), (3, .int (nB a3)), (2, .int (nB a2)), (1, .int (nB a1)), (0, .ref 50)] [.int (nB (e24 && (!(decide ((μ.1 58 ((bif decide (su = 1) then (0 : Int32) else bif decide (su = 2) then (9 : Int32) else 18) + 5).toNatClampNeg) < 1)))))] (mGP μ ((((μ.2.1 50 24) ||| (lb a3 37)) ||| (lb a5 38)) ||| (lb a6 39)) (y5 ||| (lb (e10 && (!a4)) 29)) (μ.1 50 23)) := by
                                      generalize he26 : (e24 && (!(decide ((μ.1 58 ((bif decide (su = 1) then (0 : Int32) else bif decide (su = 2) then (9 : Int32) else 18) + 5).toNatClampNeg) < 1)))) = e26
                                      refine z_rcs0 hc hH 7 (pc' := 435) (lv' := [(11, .int 6), (10, .int (nB e26)), (9, .int (bif decide (su = 1) then (0 : Int32) else bif decide (su = 2) then (9 : Int32) else 18)), (8, .int (nB e10)), (7, .int su), (6, .int (nB a6)), (5, .int (nB a5)), (4, .int (nB a4)), (3, .int (nB a3)), (2, .int (nB a2)), (1, .int (nB a1)), (0, .ref 50)]) (st' := [.int (nB e26)]) (by rfl) ?_
                                      have hJ27 : Z 0 473 [(11, .int 6), (10, .int (nB e26)), (9, .int (bif decide (su = 1) then (0 : Int32) else bif decide (su = 2) then (9 : Int32) else 18)), (8, .int (nB e10)), (7, .int su), (6, .int (nB a6)), (5, .int (nB a5)), (4, .int (nB a4)), (3, .int (nB a3)), (2, .int (nB a2)), (1, .int (nB a1)), (0, .ref 50)] [.int (nB (e26 && (!(decide ((μ.1 58 ((bif decide (su = 1) then (0 : Int32) else bif decide (su = 2) then (9 : Int32) else 18) + 6).toNatClampNeg) < 1)))))] (mGP μ ((((μ.2.1 50 24) ||| (lb a3 37)) ||| (lb a5 38)) ||| (lb a6 39)) (y5 ||| (lb (e10 && (!a4)) 29)) (μ.1 50 23)) := by
                                        generalize he28 : (e26 && (!(decide ((μ.1 58 ((bif decide (su = 1) then (0 : Int32) else bif decide (su = 2) then (9 : Int32) else 18) + 6).toNatClampNeg) < 1)))) = e28
                                        refine z_rcs0 hc hH 7 (pc' := 435) (lv' := [(11, .int 7), (10, .int (nB e28)), (9, .int (bif decide (su = 1) then (0 : Int32) else bif decide (su = 2) then (9 : Int32) else 18)), (8, .int (nB e10)), (7, .int su), (6, .int (nB a6)), (5, .int (nB a5)), (4, .int (nB a4)), (3, .int (nB a3)), (2, .int (nB a2)), (1, .int (nB a1)), (0, .ref 50)]) (st' := [.int (nB e28)]) (by rfl) ?_
                                        have hJ29 : Z 0 473 [(11, .int 7), (10, .int (nB e28)), (9, .int (bif decide (su = 1) then (0 : Int32) else bif decide (su = 2) then (9 : Int32) else 18)), (8, .int (nB e10)), (7, .int su), (6, .int (nB a6)), (5, .int (nB a5)), (4, .int (nB a4)), (3, .int (nB a3)), (2, .int (nB a2)), (1, .int (nB a1)), (0, .ref 50)] [.int (nB (e28 && (!(decide ((μ.1 58 ((bif decide (su = 1) then (0 : Int32) else bif decide (su = 2) then (9 : Int32) else 18) + 7).toNatClampNeg) < 1)))))] (mGP μ ((((μ.2.1 50 24) ||| (lb a3 37)) ||| (lb a5 38)) ||| (lb a6 39)) (y5 ||| (lb (e10 && (!a4)) 29)) (μ.1 50 23)) := by
                                          generalize he30 : (e28 && (!(decide ((μ.1 58 ((bif decide (su = 1) then (0 : Int32) else bif decide (su = 2) then (9 : Int32) else 18) + 7).toNatClampNeg) < 1)))) = e30
                                          refine z_rcs0 hc hH 7 (pc' := 435) (lv' := [(11, .int 8), (10, .int (nB e30)), (9, .int (bif decide (su = 1) then (0 : Int32) else bif decide (su = 2) then (9 : Int32) else 18)), (8, .int (nB e10)), (7, .int su), (6, .int (nB a6)), (5, .int (nB a5)), (4, .int (nB a4)), (3, .int (nB a3)), (2, .int (nB a2)), (1, .int (nB a1)), (0, .ref 50)]) (st' := [.int (nB e30)]) (by rfl) ?_
                                          have hJ31 : Z 0 473 [(11, .int 8), (10, .int (nB e30)), (9, .int (bif decide (su = 1) then (0 : Int32) else bif decide (su = 2) then (9 : Int32) else 18)), (8, .int (nB e10)), (7, .int su), (6, .int (nB a6)), (5, .int (nB a5)), (4, .int (nB a4)), (3, .int (nB a3)), (2, .int (nB a2)), (1, .int (nB a1)), (0, .ref 50)] [.int (nB (e30 && (!(decide ((μ.1 58 ((bif decide (su = 1) then (0 : Int32) else bif decide (su = 2) then (9 : Int32) else 18) + 8).toNatClampNeg) < 3)))))] (mGP μ ((((μ.2.1 50 24) ||| (lb a3 37)) ||| (lb a5 38)) ||| (lb a6 39)) (y5 ||| (lb (e10 && (!a4)) 29)) (μ.1 50 23)) := by
                                            generalize he32 : (e30 && (!(decide ((μ.1 58 ((bif decide (su = 1) then (0 : Int32) else bif decide (su = 2) then (9 : Int32) else 18) + 8).toNatClampNeg) < 3)))) = e32
                                            refine z_rcs0 hc hH 7 (pc' := 483) (lv' := [(11, .int 9), (10, .int (nB e32)), (9, .int (bif decide (su = 1) then (0 : Int32) else bif decide (su = 2) then (9 : Int32) else 18)), (8, .int (nB e10)), (7, .int su), (6, .int (nB a6)), (5, .int (nB a5)), (4, .int (nB a4)), (3, .int (nB a3)), (2, .int (nB a2)), (1, .int (nB a1)), (0, .ref 50)]) (st' := [.int (nB e32)]) (by rfl) ?_
                                            refine zq_if hc hH (by rfl) (tg := 500) (by rfl) (fun h33 => ?_) (fun h33 => ?_)
                                            · have h33 : (e32) = false := nB_z.mp (cm_eq9.mp h33)
                                              exact hr 0 500 _ _ _ none (by decide +kernel) (by rfl) (⟨rfl, (by unfold tlG tlP; try rw [hy5]; try rw [he10]; try rw [he16]; try rw [he18]; try rw [he20]; try rw [he22]; try rw [he24]; try rw [he26]; try rw [he28]; try rw [he30]; try rw [he32]; simp only [h11, h12, h13, h33, lb_f, Int64.or_zero, nB_t, nB_f, Bool.not_true, Bool.not_false, Bool.and_true, Bool.true_and, Bool.false_and, Bool.and_false, Bool.or_true, Bool.true_or, Bool.false_or, Bool.or_false, cond_true, cond_false])⟩)
                                            · have h33 : (e32) = true := nB_n.mp (cn_eq.mp h33)
                                              refine z_rcs0 hc hH 4 (pc' := 493) (lv' := [(11, .int 9), (10, .int (nB e32)), (9, .int (bif decide (su = 1) then (0 : Int32) else bif decide (su = 2) then (9 : Int32) else 18)), (8, .int (nB e10)), (7, .int su), (6, .int (nB a6)), (5, .int (nB a5)), (4, .int (nB a4)), (3, .int (nB a3)), (2, .int (nB a2)), (1, .int (nB a1)), (0, .ref 50)]) (st' := [.int 40, .long ((((μ.2.1 50 24) ||| (lb a3 37)) ||| (lb a5 38)) ||| (lb a6 39)), .ref 50]) (by rfl) ?_
                                              refine zq_call hc (z_cx_ok hH (by rfl)) (fb_X7_bit d' (by omega) (mGP μ ((((μ.2.1 50 24) ||| (lb a3 37)) ||| (lb a5 38)) ||| (lb a6 39)) (y5 ||| (lb (e10 && (!a4)) 29)) (μ.1 50 23)) 40) (by decide +kernel) (fun r9 μ9 hq => ?_)
                                              obtain ⟨hμ9, rfl⟩ := hq
                                              rw [hμ9]
                                              clear hμ9 μ9
                                              show Z 0 496 [(11, .int 9), (10, .int (nB e32)), (9, .int (bif decide (su = 1) then (0 : Int32) else bif decide (su = 2) then (9 : Int32) else 18)), (8, .int (nB e10)), (7, .int su), (6, .int (nB a6)), (5, .int (nB a5)), (4, .int (nB a4)), (3, .int (nB a3)), (2, .int (nB a2)), (1, .int (nB a1)), (0, .ref 50)] [.long (lb true 40), .long ((((μ.2.1 50 24) ||| (lb a3 37)) ||| (lb a5 38)) ||| (lb a6 39)), .ref 50] _
                                              refine z_rcs hc hH 2 (pc' := 500) (lv' := [(11, .int 9), (10, .int (nB e32)), (9, .int (bif decide (su = 1) then (0 : Int32) else bif decide (su = 2) then (9 : Int32) else 18)), (8, .int (nB e10)), (7, .int su), (6, .int (nB a6)), (5, .int (nB a5)), (4, .int (nB a4)), (3, .int (nB a3)), (2, .int (nB a2)), (1, .int (nB a1)), (0, .ref 50)]) (st' := []) (μ' := z_uj (mGP μ ((((μ.2.1 50 24) ||| (lb a3 37)) ||| (lb a5 38)) ||| (lb a6 39)) (y5 ||| (lb (e10 && (!a4)) 29)) (μ.1 50 23)) 50 24 (((((μ.2.1 50 24) ||| (lb a3 37)) ||| (lb a5 38)) ||| (lb a6 39)) ||| (lb true 40))) (by rfl) ?_
                                              rw [mGP_g]
                                              exact hr 0 500 _ _ _ none (by decide +kernel) (by rfl) (⟨rfl, (by unfold tlG tlP; try rw [hy5]; try rw [he10]; try rw [he16]; try rw [he18]; try rw [he20]; try rw [he22]; try rw [he24]; try rw [he26]; try rw [he28]; try rw [he30]; try rw [he32]; simp only [h11, h12, h13, h33, lb_f, Int64.or_zero, nB_t, nB_f, Bool.not_true, Bool.not_false, Bool.and_true, Bool.true_and, Bool.false_and, Bool.and_false, Bool.or_true, Bool.true_or, Bool.false_or, Bool.or_false, cond_true, cond_false])⟩)
                                          refine zq_if hc hH (by rfl) (tg := 472) (by rfl) (fun h34 => ?_) (fun h34 => ?_)
                                          · have h34 : (e30) = false := nB_z.mp (cm_eq9.mp h34)
                                            refine z_rcs hc hH 1 (pc' := 473) (lv' := [(11, .int 8), (10, .int (nB e30)), (9, .int (bif decide (su = 1) then (0 : Int32) else bif decide (su = 2) then (9 : Int32) else 18)), (8, .int (nB e10)), (7, .int su), (6, .int (nB a6)), (5, .int (nB a5)), (4, .int (nB a4)), (3, .int (nB a3)), (2, .int (nB a2)), (1, .int (nB a1)), (0, .ref 50)]) (st' := [.int 0]) (μ' := mGP μ ((((μ.2.1 50 24) ||| (lb a3 37)) ||| (lb a5 38)) ||| (lb a6 39)) (y5 ||| (lb (e10 && (!a4)) 29)) (μ.1 50 23)) (by rfl) ?_
                                            exact zJ hJ31 rfl (by simp only [h34, lb_f, Int64.or_zero, nB_t, nB_f, Bool.not_true, Bool.not_false, Bool.and_true, Bool.true_and, Bool.false_and, Bool.and_false, Bool.or_true, Bool.true_or, Bool.false_or, Bool.or_false, cond_true, cond_false]) rfl
                                          · have h34 : (e30) = true := nB_n.mp (cn_eq.mp h34)
                                            refine z_rcs0 hc hH 5 (pc' := 447) (lv' := [(11, .int 8), (10, .int (nB e30)), (9, .int (bif decide (su = 1) then (0 : Int32) else bif decide (su = 2) then (9 : Int32) else 18)), (8, .int (nB e10)), (7, .int su), (6, .int (nB a6)), (5, .int (nB a5)), (4, .int (nB a4)), (3, .int (nB a3)), (2, .int (nB a2)), (1, .int (nB a1)), (0, .ref 50)]) (st' := [.int ((bif decide (su = 1) then (0 : Int32) else bif decide (su = 2) then (9 : Int32) else 18) + 8), .ref 58]) (by rfl) ?_
                                            refine zq_iald hc hH (by rfl) 34 (by decide +kernel) (show vp_in (_ + nI 8) 34 from ng_in 8 (by decide)) ?_
                                            refine z_rcs0 hc hH 7 (pc' := 465) (lv' := [(11, .int 8), (10, .int (nB e30)), (9, .int (bif decide (su = 1) then (0 : Int32) else bif decide (su = 2) then (9 : Int32) else 18)), (8, .int (nB e10)), (7, .int su), (6, .int (nB a6)), (5, .int (nB a5)), (4, .int (nB a4)), (3, .int (nB a3)), (2, .int (nB a2)), (1, .int (nB a1)), (0, .ref 50)]) (st' := [.int 3, .int (μ.1 58 ((bif decide (su = 1) then (0 : Int32) else bif decide (su = 2) then (9 : Int32) else 18) + 8).toNatClampNeg)]) (by rfl) ?_
                                            refine zq_ic hc hH (by rfl) (tg := 472) (by rfl) (fun h35 => ?_) (fun h35 => ?_)
                                            · have h35 : (decide ((μ.1 58 ((bif decide (su = 1) then (0 : Int32) else bif decide (su = 2) then (9 : Int32) else 18) + 8).toNatClampNeg) < 3)) = true := decide_eq_true (cm_lt.mp h35)
                                              refine z_rcs0 hc hH 1 (pc' := 473) (lv' := [(11, .int 8), (10, .int (nB e30)), (9, .int (bif decide (su = 1) then (0 : Int32) else bif decide (su = 2) then (9 : Int32) else 18)), (8, .int (nB e10)), (7, .int su), (6, .int (nB a6)), (5, .int (nB a5)), (4, .int (nB a4)), (3, .int (nB a3)), (2, .int (nB a2)), (1, .int (nB a1)), (0, .ref 50)]) (st' := [.int 0]) (by rfl) ?_
                                              exact zJ hJ31 rfl (by simp only [h34, h35, lb_f, Int64.or_zero, nB_t, nB_f, Bool.not_true, Bool.not_false, Bool.and_true, Bool.true_and, Bool.false_and, Bool.and_false, Bool.or_true, Bool.true_or, Bool.false_or, Bool.or_false, cond_true, cond_false]) rfl
                                            · have h35 : (decide ((μ.1 58 ((bif decide (su = 1) then (0 : Int32) else bif decide (su = 2) then (9 : Int32) else 18) + 8).toNatClampNeg) < 3)) = false := decide_eq_false (cn_lt.mp h35)
                                              refine z_rcs0 hc hH 2 (pc' := 473) (lv' := [(11, .int 8), (10, .int (nB e30)), (9, .int (bif decide (su = 1) then (0 : Int32) else bif decide (su = 2) then (9 : Int32) else 18)), (8, .int (nB e10)), (7, .int su), (6, .int (nB a6)), (5, .int (nB a5)), (4, .int (nB a4)), (3, .int (nB a3)), (2, .int (nB a2)), (1, .int (nB a1)), (0, .ref 50)]) (st' := [.int 1]) (by rfl) ?_
                                              exact zJ hJ31 rfl (by simp only [h34, h35, lb_f, Int64.or_zero, nB_t, nB_f, Bool.not_true, Bool.not_false, Bool.and_true, Bool.true_and, Bool.false_and, Bool.and_false, Bool.or_true, Bool.true_or, Bool.false_or, Bool.or_false, cond_true, cond_false]) rfl
                                        refine zq_if hc hH (by rfl) (tg := 472) (by rfl) (fun h36 => ?_) (fun h36 => ?_)
                                        · have h36 : (e28) = false := nB_z.mp (cm_eq9.mp h36)
                                          refine z_rcs0 hc hH 1 (pc' := 473) (lv' := [(11, .int 7), (10, .int (nB e28)), (9, .int (bif decide (su = 1) then (0 : Int32) else bif decide (su = 2) then (9 : Int32) else 18)), (8, .int (nB e10)), (7, .int su), (6, .int (nB a6)), (5, .int (nB a5)), (4, .int (nB a4)), (3, .int (nB a3)), (2, .int (nB a2)), (1, .int (nB a1)), (0, .ref 50)]) (st' := [.int 0]) (by rfl) ?_
                                          exact zJ hJ29 rfl (by simp only [h36, lb_f, Int64.or_zero, nB_t, nB_f, Bool.not_true, Bool.not_false, Bool.and_true, Bool.true_and, Bool.false_and, Bool.and_false, Bool.or_true, Bool.true_or, Bool.false_or, Bool.or_false, cond_true, cond_false]) rfl
                                        · have h36 : (e28) = true := nB_n.mp (cn_eq.mp h36)
                                          refine z_rcs0 hc hH 5 (pc' := 447) (lv' := [(11, .int 7), (10, .int (nB e28)), (9, .int (bif decide (su = 1) then (0 : Int32) else bif decide (su = 2) then (9 : Int32) else 18)), (8, .int (nB e10)), (7, .int su), (6, .int (nB a6)), (5, .int (nB a5)), (4, .int (nB a4)), (3, .int (nB a3)), (2, .int (nB a2)), (1, .int (nB a1)), (0, .ref 50)]) (st' := [.int ((bif decide (su = 1) then (0 : Int32) else bif decide (su = 2) then (9 : Int32) else 18) + 7), .ref 58]) (by rfl) ?_
                                          refine zq_iald hc hH (by rfl) 34 (by decide +kernel) (show vp_in (_ + nI 7) 34 from ng_in 7 (by decide)) ?_
                                          refine z_rcs0 hc hH 6 (pc' := 465) (lv' := [(11, .int 7), (10, .int (nB e28)), (9, .int (bif decide (su = 1) then (0 : Int32) else bif decide (su = 2) then (9 : Int32) else 18)), (8, .int (nB e10)), (7, .int su), (6, .int (nB a6)), (5, .int (nB a5)), (4, .int (nB a4)), (3, .int (nB a3)), (2, .int (nB a2)), (1, .int (nB a1)), (0, .ref 50)]) (st' := [.int 1, .int (μ.1 58 ((bif decide (su = 1) then (0 : Int32) else bif decide (su = 2) then (9 : Int32) else 18) + 7).toNatClampNeg)]) (by rfl) ?_
                                          refine zq_ic hc hH (by rfl) (tg := 472) (by rfl) (fun h37 => ?_) (fun h37 => ?_)
                                          · have h37 : (decide ((μ.1 58 ((bif decide (su = 1) then (0 : Int32) else bif decide (su = 2) then (9 : Int32) else 18) + 7).toNatClampNeg) < 1)) = true := decide_eq_true (cm_lt.mp h37)
                                            refine z_rcs0 hc hH 1 (pc' := 473) (lv' := [(11, .int 7), (10, .int (nB e28)), (9, .int (bif decide (su = 1) then (0 : Int32) else bif decide (su = 2) then (9 : Int32) else 18)), (8, .int (nB e10)), (7, .int su), (6, .int (nB a6)), (5, .int (nB a5)), (4, .int (nB a4)), (3, .int (nB a3)), (2, .int (nB a2)), (1, .int (nB a1)), (0, .ref 50)]) (st' := [.int 0]) (by rfl) ?_
                                            exact zJ hJ29 rfl (by simp only [h36, h37, lb_f, Int64.or_zero, nB_t, nB_f, Bool.not_true, Bool.not_false, Bool.and_true, Bool.true_and, Bool.false_and, Bool.and_false, Bool.or_true, Bool.true_or, Bool.false_or, Bool.or_false, cond_true, cond_false]) rfl
                                          · have h37 : (decide ((μ.1 58 ((bif decide (su = 1) then (0 : Int32) else bif decide (su = 2) then (9 : Int32) else 18) + 7).toNatClampNeg) < 1)) = false := decide_eq_false (cn_lt.mp h37)
                                            refine z_rcs0 hc hH 2 (pc' := 473) (lv' := [(11, .int 7), (10, .int (nB e28)), (9, .int (bif decide (su = 1) then (0 : Int32) else bif decide (su = 2) then (9 : Int32) else 18)), (8, .int (nB e10)), (7, .int su), (6, .int (nB a6)), (5, .int (nB a5)), (4, .int (nB a4)), (3, .int (nB a3)), (2, .int (nB a2)), (1, .int (nB a1)), (0, .ref 50)]) (st' := [.int 1]) (by rfl) ?_
                                            exact zJ hJ29 rfl (by simp only [h36, h37, lb_f, Int64.or_zero, nB_t, nB_f, Bool.not_true, Bool.not_false, Bool.and_true, Bool.true_and, Bool.false_and, Bool.and_false, Bool.or_true, Bool.true_or, Bool.false_or, Bool.or_false, cond_true, cond_false]) rfl
                                      refine zq_if hc hH (by rfl) (tg := 472) (by rfl) (fun h38 => ?_) (fun h38 => ?_)
                                      · have h38 : (e26) = false := nB_z.mp (cm_eq9.mp h38)
                                        refine z_rcs0 hc hH 1 (pc' := 473) (lv' := [(11, .int 6), (10, .int (nB e26)), (9, .int (bif decide (su = 1) then (0 : Int32) else bif decide (su = 2) then (9 : Int32) else 18)), (8, .int (nB e10)), (7, .int su), (6, .int (nB a6)), (5, .int (nB a5)), (4, .int (nB a4)), (3, .int (nB a3)), (2, .int (nB a2)), (1, .int (nB a1)), (0, .ref 50)]) (st' := [.int 0]) (by rfl) ?_
                                        exact zJ hJ27 rfl (by simp only [h38, lb_f, Int64.or_zero, nB_t, nB_f, Bool.not_true, Bool.not_false, Bool.and_true, Bool.true_and, Bool.false_and, Bool.and_false, Bool.or_true, Bool.true_or, Bool.false_or, Bool.or_false, cond_true, cond_false]) rfl
                                      · have h38 : (e26) = true := nB_n.mp (cn_eq.mp h38)
                                        refine z_rcs0 hc hH 5 (pc' := 447) (lv' := [(11, .int 6), (10, .int (nB e26)), (9, .int (bif decide (su = 1) then (0 : Int32) else bif decide (su = 2) then (9 : Int32) else 18)), (8, .int (nB e10)), (7, .int su), (6, .int (nB a6)), (5, .int (nB a5)), (4, .int (nB a4)), (3, .int (nB a3)), (2, .int (nB a2)), (1, .int (nB a1)), (0, .ref 50)]) (st' := [.int ((bif decide (su = 1) then (0 : Int32) else bif decide (su = 2) then (9 : Int32) else 18) + 6), .ref 58]) (by rfl) ?_
                                        refine zq_iald hc hH (by rfl) 34 (by decide +kernel) (show vp_in (_ + nI 6) 34 from ng_in 6 (by decide)) ?_
                                        refine z_rcs0 hc hH 6 (pc' := 465) (lv' := [(11, .int 6), (10, .int (nB e26)), (9, .int (bif decide (su = 1) then (0 : Int32) else bif decide (su = 2) then (9 : Int32) else 18)), (8, .int (nB e10)), (7, .int su), (6, .int (nB a6)), (5, .int (nB a5)), (4, .int (nB a4)), (3, .int (nB a3)), (2, .int (nB a2)), (1, .int (nB a1)), (0, .ref 50)]) (st' := [.int 1, .int (μ.1 58 ((bif decide (su = 1) then (0 : Int32) else bif decide (su = 2) then (9 : Int32) else 18) + 6).toNatClampNeg)]) (by rfl) ?_
                                        refine zq_ic hc hH (by rfl) (tg := 472) (by rfl) (fun h39 => ?_) (fun h39 => ?_)
                                        · have h39 : (decide ((μ.1 58 ((bif decide (su = 1) then (0 : Int32) else bif decide (su = 2) then (9 : Int32) else 18) + 6).toNatClampNeg) < 1)) = true := decide_eq_true (cm_lt.mp h39)
                                          refine z_rcs0 hc hH 1 (pc' := 473) (lv' := [(11, .int 6), (10, .int (nB e26)), (9, .int (bif decide (su = 1) then (0 : Int32) else bif decide (su = 2) then (9 : Int32) else 18)), (8, .int (nB e10)), (7, .int su), (6, .int (nB a6)), (5, .int (nB a5)), (4, .int (nB a4)), (3, .int (nB a3)), (2, .int (nB a2)), (1, .int (nB a1)), (0, .ref 50)]) (st' := [.int 0]) (by rfl) ?_
                                          exact zJ hJ27 rfl (by simp only [h38, h39, lb_f, Int64.or_zero, nB_t, nB_f, Bool.not_true, Bool.not_false, Bool.and_true, Bool.true_and, Bool.false_and, Bool.and_false, Bool.or_true, Bool.true_or, Bool.false_or, Bool.or_false, cond_true, cond_false]) rfl
                                        · have h39 : (decide ((μ.1 58 ((bif decide (su = 1) then (0 : Int32) else bif decide (su = 2) then (9 : Int32) else 18) + 6).toNatClampNeg) < 1)) = false := decide_eq_false (cn_lt.mp h39)
                                          refine z_rcs0 hc hH 2 (pc' := 473) (lv' := [(11, .int 6), (10, .int (nB e26)), (9, .int (bif decide (su = 1) then (0 : Int32) else bif decide (su = 2) then (9 : Int32) else 18)), (8, .int (nB e10)), (7, .int su), (6, .int (nB a6)), (5, .int (nB a5)), (4, .int (nB a4)), (3, .int (nB a3)), (2, .int (nB a2)), (1, .int (nB a1)), (0, .ref 50)]) (st' := [.int 1]) (by rfl) ?_
                                          exact zJ hJ27 rfl (by simp only [h38, h39, lb_f, Int64.or_zero, nB_t, nB_f, Bool.not_true, Bool.not_false, Bool.and_true, Bool.true_and, Bool.false_and, Bool.and_false, Bool.or_true, Bool.true_or, Bool.false_or, Bool.or_false, cond_true, cond_false]) rfl
                                    refine zq_if hc hH (by rfl) (tg := 472) (by rfl) (fun h40 => ?_) (fun h40 => ?_)
                                    · have h40 : (e24) = false := nB_z.mp (cm_eq9.mp h40)
                                      refine z_rcs0 hc hH 1 (pc' := 473) (lv' := [(11, .int 5), (10, .int (nB e24)), (9, .int (bif decide (su = 1) then (0 : Int32) else bif decide (su = 2) then (9 : Int32) else 18)), (8, .int (nB e10)), (7, .int su), (6, .int (nB a6)), (5, .int (nB a5)), (4, .int (nB a4)), (3, .int (nB a3)), (2, .int (nB a2)), (1, .int (nB a1)), (0, .ref 50)]) (st' := [.int 0]) (by rfl) ?_
                                      exact zJ hJ25 rfl (by simp only [h40, lb_f, Int64.or_zero, nB_t, nB_f, Bool.not_true, Bool.not_false, Bool.and_true, Bool.true_and, Bool.false_and, Bool.and_false, Bool.or_true, Bool.true_or, Bool.false_or, Bool.or_false, cond_true, cond_false]) rfl
                                    · have h40 : (e24) = true := nB_n.mp (cn_eq.mp h40)
                                      refine z_rcs0 hc hH 5 (pc' := 447) (lv' := [(11, .int 5), (10, .int (nB e24)), (9, .int (bif decide (su = 1) then (0 : Int32) else bif decide (su = 2) then (9 : Int32) else 18)), (8, .int (nB e10)), (7, .int su), (6, .int (nB a6)), (5, .int (nB a5)), (4, .int (nB a4)), (3, .int (nB a3)), (2, .int (nB a2)), (1, .int (nB a1)), (0, .ref 50)]) (st' := [.int ((bif decide (su = 1) then (0 : Int32) else bif decide (su = 2) then (9 : Int32) else 18) + 5), .ref 58]) (by rfl) ?_
                                      refine zq_iald hc hH (by rfl) 34 (by decide +kernel) (show vp_in (_ + nI 5) 34 from ng_in 5 (by decide)) ?_
                                      refine z_rcs0 hc hH 6 (pc' := 465) (lv' := [(11, .int 5), (10, .int (nB e24)), (9, .int (bif decide (su = 1) then (0 : Int32) else bif decide (su = 2) then (9 : Int32) else 18)), (8, .int (nB e10)), (7, .int su), (6, .int (nB a6)), (5, .int (nB a5)), (4, .int (nB a4)), (3, .int (nB a3)), (2, .int (nB a2)), (1, .int (nB a1)), (0, .ref 50)]) (st' := [.int 1, .int (μ.1 58 ((bif decide (su = 1) then (0 : Int32) else bif decide (su = 2) then (9 : Int32) else 18) + 5).toNatClampNeg)]) (by rfl) ?_
                                      refine zq_ic hc hH (by rfl) (tg := 472) (by rfl) (fun h41 => ?_) (fun h41 => ?_)
                                      · have h41 : (decide ((μ.1 58 ((bif decide (su = 1) then (0 : Int32) else bif decide (su = 2) then (9 : Int32) else 18) + 5).toNatClampNeg) < 1)) = true := decide_eq_true (cm_lt.mp h41)
                                        refine z_rcs0 hc hH 1 (pc' := 473) (lv' := [(11, .int 5), (10, .int (nB e24)), (9, .int (bif decide (su = 1) then (0 : Int32) else bif decide (su = 2) then (9 : Int32) else 18)), (8, .int (nB e10)), (7, .int su), (6, .int (nB a6)), (5, .int (nB a5)), (4, .int (nB a4)), (3, .int (nB a3)), (2, .int (nB a2)), (1, .int (nB a1)), (0, .ref 50)]) (st' := [.int 0]) (by rfl) ?_
                                        exact zJ hJ25 rfl (by simp only [h40, h41, lb_f, Int64.or_zero, nB_t, nB_f, Bool.not_true, Bool.not_false, Bool.and_true, Bool.true_and, Bool.false_and, Bool.and_false, Bool.or_true, Bool.true_or, Bool.false_or, Bool.or_false, cond_true, cond_false]) rfl
                                      · have h41 : (decide ((μ.1 58 ((bif decide (su = 1) then (0 : Int32) else bif decide (su = 2) then (9 : Int32) else 18) + 5).toNatClampNeg) < 1)) = false := decide_eq_false (cn_lt.mp h41)
                                        refine z_rcs0 hc hH 2 (pc' := 473) (lv' := [(11, .int 5), (10, .int (nB e24)), (9, .int (bif decide (su = 1) then (0 : Int32) else bif decide (su = 2) then (9 : Int32) else 18)), (8, .int (nB e10)), (7, .int su), (6, .int (nB a6)), (5, .int (nB a5)), (4, .int (nB a4)), (3, .int (nB a3)), (2, .int (nB a2)), (1, .int (nB a1)), (0, .ref 50)]) (st' := [.int 1]) (by rfl) ?_
                                        exact zJ hJ25 rfl (by simp only [h40, h41, lb_f, Int64.or_zero, nB_t, nB_f, Bool.not_true, Bool.not_false, Bool.and_true, Bool.true_and, Bool.false_and, Bool.and_false, Bool.or_true, Bool.true_or, Bool.false_or, Bool.or_false, cond_true, cond_false]) rfl
                                  refine zq_if hc hH (by rfl) (tg := 472) (by rfl) (fun h42 => ?_) (fun h42 => ?_)
                                  · have h42 : (e22) = false := nB_z.mp (cm_eq9.mp h42)
                                    refine z_rcs0 hc hH 1 (pc' := 473) (lv' := [(11, .int 4), (10, .int (nB e22)), (9, .int (bif decide (su = 1) then (0 : Int32) else bif decide (su = 2) then (9 : Int32) else 18)), (8, .int (nB e10)), (7, .int su), (6, .int (nB a6)), (5, .int (nB a5)), (4, .int (nB a4)), (3, .int (nB a3)), (2, .int (nB a2)), (1, .int (nB a1)), (0, .ref 50)]) (st' := [.int 0]) (by rfl) ?_
                                    exact zJ hJ23 rfl (by simp only [h42, lb_f, Int64.or_zero, nB_t, nB_f, Bool.not_true, Bool.not_false, Bool.and_true, Bool.true_and, Bool.false_and, Bool.and_false, Bool.or_true, Bool.true_or, Bool.false_or, Bool.or_false, cond_true, cond_false]) rfl
                                  · have h42 : (e22) = true := nB_n.mp (cn_eq.mp h42)
                                    refine z_rcs0 hc hH 5 (pc' := 447) (lv' := [(11, .int 4), (10, .int (nB e22)), (9, .int (bif decide (su = 1) then (0 : Int32) else bif decide (su = 2) then (9 : Int32) else 18)), (8, .int (nB e10)), (7, .int su), (6, .int (nB a6)), (5, .int (nB a5)), (4, .int (nB a4)), (3, .int (nB a3)), (2, .int (nB a2)), (1, .int (nB a1)), (0, .ref 50)]) (st' := [.int ((bif decide (su = 1) then (0 : Int32) else bif decide (su = 2) then (9 : Int32) else 18) + 4), .ref 58]) (by rfl) ?_
                                    refine zq_iald hc hH (by rfl) 34 (by decide +kernel) (show vp_in (_ + nI 4) 34 from ng_in 4 (by decide)) ?_
                                    refine z_rcs0 hc hH 6 (pc' := 465) (lv' := [(11, .int 4), (10, .int (nB e22)), (9, .int (bif decide (su = 1) then (0 : Int32) else bif decide (su = 2) then (9 : Int32) else 18)), (8, .int (nB e10)), (7, .int su), (6, .int (nB a6)), (5, .int (nB a5)), (4, .int (nB a4)), (3, .int (nB a3)), (2, .int (nB a2)), (1, .int (nB a1)), (0, .ref 50)]) (st' := [.int 1, .int (μ.1 58 ((bif decide (su = 1) then (0 : Int32) else bif decide (su = 2) then (9 : Int32) else 18) + 4).toNatClampNeg)]) (by rfl) ?_
                                    refine zq_ic hc hH (by rfl) (tg := 472) (by rfl) (fun h43 => ?_) (fun h43 => ?_)
                                    · have h43 : (decide ((μ.1 58 ((bif decide (su = 1) then (0 : Int32) else bif decide (su = 2) then (9 : Int32) else 18) + 4).toNatClampNeg) < 1)) = true := decide_eq_true (cm_lt.mp h43)
                                      refine z_rcs0 hc hH 1 (pc' := 473) (lv' := [(11, .int 4), (10, .int (nB e22)), (9, .int (bif decide (su = 1) then (0 : Int32) else bif decide (su = 2) then (9 : Int32) else 18)), (8, .int (nB e10)), (7, .int su), (6, .int (nB a6)), (5, .int (nB a5)), (4, .int (nB a4)), (3, .int (nB a3)), (2, .int (nB a2)), (1, .int (nB a1)), (0, .ref 50)]) (st' := [.int 0]) (by rfl) ?_
                                      exact zJ hJ23 rfl (by simp only [h42, h43, lb_f, Int64.or_zero, nB_t, nB_f, Bool.not_true, Bool.not_false, Bool.and_true, Bool.true_and, Bool.false_and, Bool.and_false, Bool.or_true, Bool.true_or, Bool.false_or, Bool.or_false, cond_true, cond_false]) rfl
                                    · have h43 : (decide ((μ.1 58 ((bif decide (su = 1) then (0 : Int32) else bif decide (su = 2) then (9 : Int32) else 18) + 4).toNatClampNeg) < 1)) = false := decide_eq_false (cn_lt.mp h43)
                                      refine z_rcs0 hc hH 2 (pc' := 473) (lv' := [(11, .int 4), (10, .int (nB e22)), (9, .int (bif decide (su = 1) then (0 : Int32) else bif decide (su = 2) then (9 : Int32) else 18)), (8, .int (nB e10)), (7, .int su), (6, .int (nB a6)), (5, .int (nB a5)), (4, .int (nB a4)), (3, .int (nB a3)), (2, .int (nB a2)), (1, .int (nB a1)), (0, .ref 50)]) (st' := [.int 1]) (by rfl) ?_
                                      exact zJ hJ23 rfl (by simp only [h42, h43, lb_f, Int64.or_zero, nB_t, nB_f, Bool.not_true, Bool.not_false, Bool.and_true, Bool.true_and, Bool.false_and, Bool.and_false, Bool.or_true, Bool.true_or, Bool.false_or, Bool.or_false, cond_true, cond_false]) rfl
                                refine zq_if hc hH (by rfl) (tg := 472) (by rfl) (fun h44 => ?_) (fun h44 => ?_)
                                · have h44 : (e20) = false := nB_z.mp (cm_eq9.mp h44)
                                  refine z_rcs0 hc hH 1 (pc' := 473) (lv' := [(11, .int 3), (10, .int (nB e20)), (9, .int (bif decide (su = 1) then (0 : Int32) else bif decide (su = 2) then (9 : Int32) else 18)), (8, .int (nB e10)), (7, .int su), (6, .int (nB a6)), (5, .int (nB a5)), (4, .int (nB a4)), (3, .int (nB a3)), (2, .int (nB a2)), (1, .int (nB a1)), (0, .ref 50)]) (st' := [.int 0]) (by rfl) ?_
                                  exact zJ hJ21 rfl (by simp only [h44, lb_f, Int64.or_zero, nB_t, nB_f, Bool.not_true, Bool.not_false, Bool.and_true, Bool.true_and, Bool.false_and, Bool.and_false, Bool.or_true, Bool.true_or, Bool.false_or, Bool.or_false, cond_true, cond_false]) rfl
                                · have h44 : (e20) = true := nB_n.mp (cn_eq.mp h44)
                                  refine z_rcs0 hc hH 5 (pc' := 447) (lv' := [(11, .int 3), (10, .int (nB e20)), (9, .int (bif decide (su = 1) then (0 : Int32) else bif decide (su = 2) then (9 : Int32) else 18)), (8, .int (nB e10)), (7, .int su), (6, .int (nB a6)), (5, .int (nB a5)), (4, .int (nB a4)), (3, .int (nB a3)), (2, .int (nB a2)), (1, .int (nB a1)), (0, .ref 50)]) (st' := [.int ((bif decide (su = 1) then (0 : Int32) else bif decide (su = 2) then (9 : Int32) else 18) + 3), .ref 58]) (by rfl) ?_
                                  refine zq_iald hc hH (by rfl) 34 (by decide +kernel) (show vp_in (_ + nI 3) 34 from ng_in 3 (by decide)) ?_
                                  refine z_rcs0 hc hH 6 (pc' := 465) (lv' := [(11, .int 3), (10, .int (nB e20)), (9, .int (bif decide (su = 1) then (0 : Int32) else bif decide (su = 2) then (9 : Int32) else 18)), (8, .int (nB e10)), (7, .int su), (6, .int (nB a6)), (5, .int (nB a5)), (4, .int (nB a4)), (3, .int (nB a3)), (2, .int (nB a2)), (1, .int (nB a1)), (0, .ref 50)]) (st' := [.int 1, .int (μ.1 58 ((bif decide (su = 1) then (0 : Int32) else bif decide (su = 2) then (9 : Int32) else 18) + 3).toNatClampNeg)]) (by rfl) ?_
                                  refine zq_ic hc hH (by rfl) (tg := 472) (by rfl) (fun h45 => ?_) (fun h45 => ?_)
                                  · have h45 : (decide ((μ.1 58 ((bif decide (su = 1) then (0 : Int32) else bif decide (su = 2) then (9 : Int32) else 18) + 3).toNatClampNeg) < 1)) = true := decide_eq_true (cm_lt.mp h45)
                                    refine z_rcs0 hc hH 1 (pc' := 473) (lv' := [(11, .int 3), (10, .int (nB e20)), (9, .int (bif decide (su = 1) then (0 : Int32) else bif decide (su = 2) then (9 : Int32) else 18)), (8, .int (nB e10)), (7, .int su), (6, .int (nB a6)), (5, .int (nB a5)), (4, .int (nB a4)), (3, .int (nB a3)), (2, .int (nB a2)), (1, .int (nB a1)), (0, .ref 50)]) (st' := [.int 0]) (by rfl) ?_
                                    exact zJ hJ21 rfl (by simp only [h44, h45, lb_f, Int64.or_zero, nB_t, nB_f, Bool.not_true, Bool.not_false, Bool.and_true, Bool.true_and, Bool.false_and, Bool.and_false, Bool.or_true, Bool.true_or, Bool.false_or, Bool.or_false, cond_true, cond_false]) rfl
                                  · have h45 : (decide ((μ.1 58 ((bif decide (su = 1) then (0 : Int32) else bif decide (su = 2) then (9 : Int32) else 18) + 3).toNatClampNeg) < 1)) = false := decide_eq_false (cn_lt.mp h45)
                                    refine z_rcs0 hc hH 2 (pc' := 473) (lv' := [(11, .int 3), (10, .int (nB e20)), (9, .int (bif decide (su = 1) then (0 : Int32) else bif decide (su = 2) then (9 : Int32) else 18)), (8, .int (nB e10)), (7, .int su), (6, .int (nB a6)), (5, .int (nB a5)), (4, .int (nB a4)), (3, .int (nB a3)), (2, .int (nB a2)), (1, .int (nB a1)), (0, .ref 50)]) (st' := [.int 1]) (by rfl) ?_
                                    exact zJ hJ21 rfl (by simp only [h44, h45, lb_f, Int64.or_zero, nB_t, nB_f, Bool.not_true, Bool.not_false, Bool.and_true, Bool.true_and, Bool.false_and, Bool.and_false, Bool.or_true, Bool.true_or, Bool.false_or, Bool.or_false, cond_true, cond_false]) rfl
                              refine zq_if hc hH (by rfl) (tg := 472) (by rfl) (fun h46 => ?_) (fun h46 => ?_)
                              · have h46 : (e18) = false := nB_z.mp (cm_eq9.mp h46)
                                refine z_rcs0 hc hH 1 (pc' := 473) (lv' := [(11, .int 2), (10, .int (nB e18)), (9, .int (bif decide (su = 1) then (0 : Int32) else bif decide (su = 2) then (9 : Int32) else 18)), (8, .int (nB e10)), (7, .int su), (6, .int (nB a6)), (5, .int (nB a5)), (4, .int (nB a4)), (3, .int (nB a3)), (2, .int (nB a2)), (1, .int (nB a1)), (0, .ref 50)]) (st' := [.int 0]) (by rfl) ?_
                                exact zJ hJ19 rfl (by simp only [h46, lb_f, Int64.or_zero, nB_t, nB_f, Bool.not_true, Bool.not_false, Bool.and_true, Bool.true_and, Bool.false_and, Bool.and_false, Bool.or_true, Bool.true_or, Bool.false_or, Bool.or_false, cond_true, cond_false]) rfl
                              · have h46 : (e18) = true := nB_n.mp (cn_eq.mp h46)
                                refine z_rcs0 hc hH 5 (pc' := 447) (lv' := [(11, .int 2), (10, .int (nB e18)), (9, .int (bif decide (su = 1) then (0 : Int32) else bif decide (su = 2) then (9 : Int32) else 18)), (8, .int (nB e10)), (7, .int su), (6, .int (nB a6)), (5, .int (nB a5)), (4, .int (nB a4)), (3, .int (nB a3)), (2, .int (nB a2)), (1, .int (nB a1)), (0, .ref 50)]) (st' := [.int ((bif decide (su = 1) then (0 : Int32) else bif decide (su = 2) then (9 : Int32) else 18) + 2), .ref 58]) (by rfl) ?_
                                refine zq_iald hc hH (by rfl) 34 (by decide +kernel) (show vp_in (_ + nI 2) 34 from ng_in 2 (by decide)) ?_
                                refine z_rcs0 hc hH 6 (pc' := 465) (lv' := [(11, .int 2), (10, .int (nB e18)), (9, .int (bif decide (su = 1) then (0 : Int32) else bif decide (su = 2) then (9 : Int32) else 18)), (8, .int (nB e10)), (7, .int su), (6, .int (nB a6)), (5, .int (nB a5)), (4, .int (nB a4)), (3, .int (nB a3)), (2, .int (nB a2)), (1, .int (nB a1)), (0, .ref 50)]) (st' := [.int 1, .int (μ.1 58 ((bif decide (su = 1) then (0 : Int32) else bif decide (su = 2) then (9 : Int32) else 18) + 2).toNatClampNeg)]) (by rfl) ?_
                                refine zq_ic hc hH (by rfl) (tg := 472) (by rfl) (fun h47 => ?_) (fun h47 => ?_)
                                · have h47 : (decide ((μ.1 58 ((bif decide (su = 1) then (0 : Int32) else bif decide (su = 2) then (9 : Int32) else 18) + 2).toNatClampNeg) < 1)) = true := decide_eq_true (cm_lt.mp h47)
                                  refine z_rcs0 hc hH 1 (pc' := 473) (lv' := [(11, .int 2), (10, .int (nB e18)), (9, .int (bif decide (su = 1) then (0 : Int32) else bif decide (su = 2) then (9 : Int32) else 18)), (8, .int (nB e10)), (7, .int su), (6, .int (nB a6)), (5, .int (nB a5)), (4, .int (nB a4)), (3, .int (nB a3)), (2, .int (nB a2)), (1, .int (nB a1)), (0, .ref 50)]) (st' := [.int 0]) (by rfl) ?_
                                  exact zJ hJ19 rfl (by simp only [h46, h47, lb_f, Int64.or_zero, nB_t, nB_f, Bool.not_true, Bool.not_false, Bool.and_true, Bool.true_and, Bool.false_and, Bool.and_false, Bool.or_true, Bool.true_or, Bool.false_or, Bool.or_false, cond_true, cond_false]) rfl
                                · have h47 : (decide ((μ.1 58 ((bif decide (su = 1) then (0 : Int32) else bif decide (su = 2) then (9 : Int32) else 18) + 2).toNatClampNeg) < 1)) = false := decide_eq_false (cn_lt.mp h47)
                                  refine z_rcs0 hc hH 2 (pc' := 473) (lv' := [(11, .int 2), (10, .int (nB e18)), (9, .int (bif decide (su = 1) then (0 : Int32) else bif decide (su = 2) then (9 : Int32) else 18)), (8, .int (nB e10)), (7, .int su), (6, .int (nB a6)), (5, .int (nB a5)), (4, .int (nB a4)), (3, .int (nB a3)), (2, .int (nB a2)), (1, .int (nB a1)), (0, .ref 50)]) (st' := [.int 1]) (by rfl) ?_
                                  exact zJ hJ19 rfl (by simp only [h46, h47, lb_f, Int64.or_zero, nB_t, nB_f, Bool.not_true, Bool.not_false, Bool.and_true, Bool.true_and, Bool.false_and, Bool.and_false, Bool.or_true, Bool.true_or, Bool.false_or, Bool.or_false, cond_true, cond_false]) rfl
                            refine zq_if hc hH (by rfl) (tg := 472) (by rfl) (fun h48 => ?_) (fun h48 => ?_)
                            · have h48 : (e16) = false := nB_z.mp (cm_eq9.mp h48)
                              refine z_rcs0 hc hH 1 (pc' := 473) (lv' := [(11, .int 1), (10, .int (nB e16)), (9, .int (bif decide (su = 1) then (0 : Int32) else bif decide (su = 2) then (9 : Int32) else 18)), (8, .int (nB e10)), (7, .int su), (6, .int (nB a6)), (5, .int (nB a5)), (4, .int (nB a4)), (3, .int (nB a3)), (2, .int (nB a2)), (1, .int (nB a1)), (0, .ref 50)]) (st' := [.int 0]) (by rfl) ?_
                              exact zJ hJ17 rfl (by simp only [h48, lb_f, Int64.or_zero, nB_t, nB_f, Bool.not_true, Bool.not_false, Bool.and_true, Bool.true_and, Bool.false_and, Bool.and_false, Bool.or_true, Bool.true_or, Bool.false_or, Bool.or_false, cond_true, cond_false]) rfl
                            · have h48 : (e16) = true := nB_n.mp (cn_eq.mp h48)
                              refine z_rcs0 hc hH 5 (pc' := 447) (lv' := [(11, .int 1), (10, .int (nB e16)), (9, .int (bif decide (su = 1) then (0 : Int32) else bif decide (su = 2) then (9 : Int32) else 18)), (8, .int (nB e10)), (7, .int su), (6, .int (nB a6)), (5, .int (nB a5)), (4, .int (nB a4)), (3, .int (nB a3)), (2, .int (nB a2)), (1, .int (nB a1)), (0, .ref 50)]) (st' := [.int ((bif decide (su = 1) then (0 : Int32) else bif decide (su = 2) then (9 : Int32) else 18) + 1), .ref 58]) (by rfl) ?_
                              refine zq_iald hc hH (by rfl) 34 (by decide +kernel) (show vp_in (_ + nI 1) 34 from ng_in 1 (by decide)) ?_
                              refine z_rcs0 hc hH 6 (pc' := 465) (lv' := [(11, .int 1), (10, .int (nB e16)), (9, .int (bif decide (su = 1) then (0 : Int32) else bif decide (su = 2) then (9 : Int32) else 18)), (8, .int (nB e10)), (7, .int su), (6, .int (nB a6)), (5, .int (nB a5)), (4, .int (nB a4)), (3, .int (nB a3)), (2, .int (nB a2)), (1, .int (nB a1)), (0, .ref 50)]) (st' := [.int 1, .int (μ.1 58 ((bif decide (su = 1) then (0 : Int32) else bif decide (su = 2) then (9 : Int32) else 18) + 1).toNatClampNeg)]) (by rfl) ?_
                              refine zq_ic hc hH (by rfl) (tg := 472) (by rfl) (fun h49 => ?_) (fun h49 => ?_)
                              · have h49 : (decide ((μ.1 58 ((bif decide (su = 1) then (0 : Int32) else bif decide (su = 2) then (9 : Int32) else 18) + 1).toNatClampNeg) < 1)) = true := decide_eq_true (cm_lt.mp h49)
                                refine z_rcs0 hc hH 1 (pc' := 473) (lv' := [(11, .int 1), (10, .int (nB e16)), (9, .int (bif decide (su = 1) then (0 : Int32) else bif decide (su = 2) then (9 : Int32) else 18)), (8, .int (nB e10)), (7, .int su), (6, .int (nB a6)), (5, .int (nB a5)), (4, .int (nB a4)), (3, .int (nB a3)), (2, .int (nB a2)), (1, .int (nB a1)), (0, .ref 50)]) (st' := [.int 0]) (by rfl) ?_
                                exact zJ hJ17 rfl (by simp only [h48, h49, lb_f, Int64.or_zero, nB_t, nB_f, Bool.not_true, Bool.not_false, Bool.and_true, Bool.true_and, Bool.false_and, Bool.and_false, Bool.or_true, Bool.true_or, Bool.false_or, Bool.or_false, cond_true, cond_false]) rfl
                              · have h49 : (decide ((μ.1 58 ((bif decide (su = 1) then (0 : Int32) else bif decide (su = 2) then (9 : Int32) else 18) + 1).toNatClampNeg) < 1)) = false := decide_eq_false (cn_lt.mp h49)
                                refine z_rcs0 hc hH 2 (pc' := 473) (lv' := [(11, .int 1), (10, .int (nB e16)), (9, .int (bif decide (su = 1) then (0 : Int32) else bif decide (su = 2) then (9 : Int32) else 18)), (8, .int (nB e10)), (7, .int su), (6, .int (nB a6)), (5, .int (nB a5)), (4, .int (nB a4)), (3, .int (nB a3)), (2, .int (nB a2)), (1, .int (nB a1)), (0, .ref 50)]) (st' := [.int 1]) (by rfl) ?_
                                exact zJ hJ17 rfl (by simp only [h48, h49, lb_f, Int64.or_zero, nB_t, nB_f, Bool.not_true, Bool.not_false, Bool.and_true, Bool.true_and, Bool.false_and, Bool.and_false, Bool.or_true, Bool.true_or, Bool.false_or, Bool.or_false, cond_true, cond_false]) rfl
                          refine zq_ic hc hH (by rfl) (tg := 472) (by rfl) (fun h50 => ?_) (fun h50 => ?_)
                          · have h50 : (decide ((μ.1 58 ((bif decide (su = 1) then (0 : Int32) else bif decide (su = 2) then (9 : Int32) else 18) + 0).toNatClampNeg) < 3)) = true := decide_eq_true (cm_lt.mp h50)
                            refine z_rcs0 hc hH 1 (pc' := 473) (lv' := [(11, .int 0), (10, .int 1), (9, .int (bif decide (su = 1) then (0 : Int32) else bif decide (su = 2) then (9 : Int32) else 18)), (8, .int (nB e10)), (7, .int su), (6, .int (nB a6)), (5, .int (nB a5)), (4, .int (nB a4)), (3, .int (nB a3)), (2, .int (nB a2)), (1, .int (nB a1)), (0, .ref 50)]) (st' := [.int 0]) (by rfl) ?_
                            exact zJ hJ15 rfl (by simp only [h50, lb_f, Int64.or_zero, nB_t, nB_f, Bool.not_true, Bool.not_false, Bool.and_true, Bool.true_and, Bool.false_and, Bool.and_false, Bool.or_true, Bool.true_or, Bool.false_or, Bool.or_false, cond_true, cond_false]) rfl
                          · have h50 : (decide ((μ.1 58 ((bif decide (su = 1) then (0 : Int32) else bif decide (su = 2) then (9 : Int32) else 18) + 0).toNatClampNeg) < 3)) = false := decide_eq_false (cn_lt.mp h50)
                            refine z_rcs0 hc hH 2 (pc' := 473) (lv' := [(11, .int 0), (10, .int 1), (9, .int (bif decide (su = 1) then (0 : Int32) else bif decide (su = 2) then (9 : Int32) else 18)), (8, .int (nB e10)), (7, .int su), (6, .int (nB a6)), (5, .int (nB a5)), (4, .int (nB a4)), (3, .int (nB a3)), (2, .int (nB a2)), (1, .int (nB a1)), (0, .ref 50)]) (st' := [.int 1]) (by rfl) ?_
                            exact zJ hJ15 rfl (by simp only [h50, lb_f, Int64.or_zero, nB_t, nB_f, Bool.not_true, Bool.not_false, Bool.and_true, Bool.true_and, Bool.false_and, Bool.and_false, Bool.or_true, Bool.true_or, Bool.false_or, Bool.or_false, cond_true, cond_false]) rfl
                        refine zq_ic hc hH (by rfl) (tg := 405) (by rfl) (fun h51 => ?_) (fun h51 => ?_)
                        · have h51 : (decide (su = 1)) = false := decide_eq_false (cm_ne.mp h51)
                          refine z_rcs0 hc hH 2 (pc' := 408) (lv' := [(8, .int (nB e10)), (7, .int su), (6, .int (nB a6)), (5, .int (nB a5)), (4, .int (nB a4)), (3, .int (nB a3)), (2, .int (nB a2)), (1, .int (nB a1)), (0, .ref 50)]) (st' := [.int 2, .int su]) (by rfl) ?_
                          refine zq_ic hc hH (by rfl) (tg := 416) (by rfl) (fun h52 => ?_) (fun h52 => ?_)
                          · have h52 : (decide (su = 2)) = false := decide_eq_false (cm_ne.mp h52)
                            refine z_rcs0 hc hH 1 (pc' := 418) (lv' := [(8, .int (nB e10)), (7, .int su), (6, .int (nB a6)), (5, .int (nB a5)), (4, .int (nB a4)), (3, .int (nB a3)), (2, .int (nB a2)), (1, .int (nB a1)), (0, .ref 50)]) (st' := [.int 18]) (by rfl) ?_
                            exact zJ hJ14 rfl (by simp only [h51, h52, lb_f, Int64.or_zero, nB_t, nB_f, Bool.not_true, Bool.not_false, Bool.and_true, Bool.true_and, Bool.false_and, Bool.and_false, Bool.or_true, Bool.true_or, Bool.false_or, Bool.or_false, cond_true, cond_false]) rfl
                          · have h52 : (decide (su = 2)) = true := decide_eq_true (cn_ne.mp h52)
                            refine z_rcs0 hc hH 2 (pc' := 418) (lv' := [(8, .int (nB e10)), (7, .int su), (6, .int (nB a6)), (5, .int (nB a5)), (4, .int (nB a4)), (3, .int (nB a3)), (2, .int (nB a2)), (1, .int (nB a1)), (0, .ref 50)]) (st' := [.int 9]) (by rfl) ?_
                            exact zJ hJ14 rfl (by simp only [h51, h52, lb_f, Int64.or_zero, nB_t, nB_f, Bool.not_true, Bool.not_false, Bool.and_true, Bool.true_and, Bool.false_and, Bool.and_false, Bool.or_true, Bool.true_or, Bool.false_or, Bool.or_false, cond_true, cond_false]) rfl
                        · have h51 : (decide (su = 1)) = true := decide_eq_true (cn_ne.mp h51)
                          refine z_rcs0 hc hH 2 (pc' := 418) (lv' := [(8, .int (nB e10)), (7, .int su), (6, .int (nB a6)), (5, .int (nB a5)), (4, .int (nB a4)), (3, .int (nB a3)), (2, .int (nB a2)), (1, .int (nB a1)), (0, .ref 50)]) (st' := [.int 0]) (by rfl) ?_
                          exact zJ hJ14 rfl (by simp only [h51, lb_f, Int64.or_zero, nB_t, nB_f, Bool.not_true, Bool.not_false, Bool.and_true, Bool.true_and, Bool.false_and, Bool.and_false, Bool.or_true, Bool.true_or, Bool.false_or, Bool.or_false, cond_true, cond_false]) rfl
                refine zq_if hc hH (by rfl) (tg := 378) (by rfl) (fun h53 => ?_) (fun h53 => ?_)
                · have h53 : (a6) = false := nB_z.mp (cm_eq9.mp h53)
                  exact zJ hJ9 rfl rfl (by simp only [h53, lb_f, Int64.or_zero, nB_t, nB_f, Bool.not_true, Bool.not_false, Bool.and_true, Bool.true_and, Bool.false_and, Bool.and_false, Bool.or_true, Bool.true_or, Bool.false_or, Bool.or_false, cond_true, cond_false])
                · have h53 : (a6) = true := nB_n.mp (cn_eq.mp h53)
                  refine z_rcs hc hH 4 (pc' := 371) (lv' := [(8, .int (nB ((decide (su = 1)) || ((decide (su = 2)) || (decide (su = 4)))))), (7, .int su), (6, .int (nB a6)), (5, .int (nB a5)), (4, .int (nB a4)), (3, .int (nB a3)), (2, .int (nB a2)), (1, .int (nB a1)), (0, .ref 50)]) (st' := [.int 39, .long (((μ.2.1 50 24) ||| (lb a3 37)) ||| (lb a5 38)), .ref 50]) (μ' := mGP μ (((μ.2.1 50 24) ||| (lb a3 37)) ||| (lb a5 38)) (y5 ||| (lb (((decide (su = 1)) || ((decide (su = 2)) || (decide (su = 4)))) && (!a4)) 29)) (μ.1 50 23)) (by rfl) ?_
                  refine zq_call hc (z_cx_ok hH (by rfl)) (fb_X7_bit d' (by omega) (mGP μ (((μ.2.1 50 24) ||| (lb a3 37)) ||| (lb a5 38)) (y5 ||| (lb (((decide (su = 1)) || ((decide (su = 2)) || (decide (su = 4)))) && (!a4)) 29)) (μ.1 50 23)) 39) (by decide +kernel) (fun r9 μ9 hq => ?_)
                  obtain ⟨hμ9, rfl⟩ := hq
                  rw [hμ9]
                  clear hμ9 μ9
                  show Z 0 374 [(8, .int (nB ((decide (su = 1)) || ((decide (su = 2)) || (decide (su = 4)))))), (7, .int su), (6, .int (nB a6)), (5, .int (nB a5)), (4, .int (nB a4)), (3, .int (nB a3)), (2, .int (nB a2)), (1, .int (nB a1)), (0, .ref 50)] [.long (lb true 39), .long (((μ.2.1 50 24) ||| (lb a3 37)) ||| (lb a5 38)), .ref 50] _
                  refine z_rcs hc hH 2 (pc' := 378) (lv' := [(8, .int (nB ((decide (su = 1)) || ((decide (su = 2)) || (decide (su = 4)))))), (7, .int su), (6, .int (nB a6)), (5, .int (nB a5)), (4, .int (nB a4)), (3, .int (nB a3)), (2, .int (nB a2)), (1, .int (nB a1)), (0, .ref 50)]) (st' := []) (μ' := z_uj (mGP μ (((μ.2.1 50 24) ||| (lb a3 37)) ||| (lb a5 38)) (y5 ||| (lb (((decide (su = 1)) || ((decide (su = 2)) || (decide (su = 4)))) && (!a4)) 29)) (μ.1 50 23)) 50 24 ((((μ.2.1 50 24) ||| (lb a3 37)) ||| (lb a5 38)) ||| (lb true 39))) (by rfl) ?_
                  rw [mGP_g]
                  exact zJ hJ9 rfl rfl (by simp only [h53, lb_f, Int64.or_zero, nB_t, nB_f, Bool.not_true, Bool.not_false, Bool.and_true, Bool.true_and, Bool.false_and, Bool.and_false, Bool.or_true, Bool.true_or, Bool.false_or, Bool.or_false, cond_true, cond_false])
              refine zq_if hc hH (by rfl) (tg := 359) (by rfl) (fun h54 => ?_) (fun h54 => ?_)
              · have h54 : (a5) = false := nB_z.mp (cm_eq9.mp h54)
                exact zJ hJ8 rfl rfl (by simp only [h54, lb_f, Int64.or_zero, nB_t, nB_f, Bool.not_true, Bool.not_false, Bool.and_true, Bool.true_and, Bool.false_and, Bool.and_false, Bool.or_true, Bool.true_or, Bool.false_or, Bool.or_false, cond_true, cond_false])
              · have h54 : (a5) = true := nB_n.mp (cn_eq.mp h54)
                refine z_rcs hc hH 4 (pc' := 352) (lv' := [(8, .int (nB ((decide (su = 1)) || ((decide (su = 2)) || (decide (su = 4)))))), (7, .int su), (6, .int (nB a6)), (5, .int (nB a5)), (4, .int (nB a4)), (3, .int (nB a3)), (2, .int (nB a2)), (1, .int (nB a1)), (0, .ref 50)]) (st' := [.int 38, .long ((μ.2.1 50 24) ||| (lb a3 37)), .ref 50]) (μ' := mGP μ ((μ.2.1 50 24) ||| (lb a3 37)) (y5 ||| (lb (((decide (su = 1)) || ((decide (su = 2)) || (decide (su = 4)))) && (!a4)) 29)) (μ.1 50 23)) (by rfl) ?_
                refine zq_call hc (z_cx_ok hH (by rfl)) (fb_X7_bit d' (by omega) (mGP μ ((μ.2.1 50 24) ||| (lb a3 37)) (y5 ||| (lb (((decide (su = 1)) || ((decide (su = 2)) || (decide (su = 4)))) && (!a4)) 29)) (μ.1 50 23)) 38) (by decide +kernel) (fun r9 μ9 hq => ?_)
                obtain ⟨hμ9, rfl⟩ := hq
                rw [hμ9]
                clear hμ9 μ9
                show Z 0 355 [(8, .int (nB ((decide (su = 1)) || ((decide (su = 2)) || (decide (su = 4)))))), (7, .int su), (6, .int (nB a6)), (5, .int (nB a5)), (4, .int (nB a4)), (3, .int (nB a3)), (2, .int (nB a2)), (1, .int (nB a1)), (0, .ref 50)] [.long (lb true 38), .long ((μ.2.1 50 24) ||| (lb a3 37)), .ref 50] _
                refine z_rcs hc hH 2 (pc' := 359) (lv' := [(8, .int (nB ((decide (su = 1)) || ((decide (su = 2)) || (decide (su = 4)))))), (7, .int su), (6, .int (nB a6)), (5, .int (nB a5)), (4, .int (nB a4)), (3, .int (nB a3)), (2, .int (nB a2)), (1, .int (nB a1)), (0, .ref 50)]) (st' := []) (μ' := z_uj (mGP μ ((μ.2.1 50 24) ||| (lb a3 37)) (y5 ||| (lb (((decide (su = 1)) || ((decide (su = 2)) || (decide (su = 4)))) && (!a4)) 29)) (μ.1 50 23)) 50 24 (((μ.2.1 50 24) ||| (lb a3 37)) ||| (lb true 38))) (by rfl) ?_
                rw [mGP_g]
                exact zJ hJ8 rfl rfl (by simp only [h54, lb_f, Int64.or_zero, nB_t, nB_f, Bool.not_true, Bool.not_false, Bool.and_true, Bool.true_and, Bool.false_and, Bool.and_false, Bool.or_true, Bool.true_or, Bool.false_or, Bool.or_false, cond_true, cond_false])
            refine zq_if hc hH (by rfl) (tg := 340) (by rfl) (fun h55 => ?_) (fun h55 => ?_)
            · have h55 : (a3) = false := nB_z.mp (cm_eq9.mp h55)
              exact zJ hJ7 rfl rfl (by simp only [h55, lb_f, Int64.or_zero, nB_t, nB_f, Bool.not_true, Bool.not_false, Bool.and_true, Bool.true_and, Bool.false_and, Bool.and_false, Bool.or_true, Bool.true_or, Bool.false_or, Bool.or_false, cond_true, cond_false])
            · have h55 : (a3) = true := nB_n.mp (cn_eq.mp h55)
              refine z_rcs hc hH 4 (pc' := 333) (lv' := [(8, .int (nB ((decide (su = 1)) || ((decide (su = 2)) || (decide (su = 4)))))), (7, .int su), (6, .int (nB a6)), (5, .int (nB a5)), (4, .int (nB a4)), (3, .int (nB a3)), (2, .int (nB a2)), (1, .int (nB a1)), (0, .ref 50)]) (st' := [.int 37, .long (μ.2.1 50 24), .ref 50]) (μ' := mGP μ (μ.2.1 50 24) (y5 ||| (lb (((decide (su = 1)) || ((decide (su = 2)) || (decide (su = 4)))) && (!a4)) 29)) (μ.1 50 23)) (by rfl) ?_
              refine zq_call hc (z_cx_ok hH (by rfl)) (fb_X7_bit d' (by omega) (mGP μ (μ.2.1 50 24) (y5 ||| (lb (((decide (su = 1)) || ((decide (su = 2)) || (decide (su = 4)))) && (!a4)) 29)) (μ.1 50 23)) 37) (by decide +kernel) (fun r9 μ9 hq => ?_)
              obtain ⟨hμ9, rfl⟩ := hq
              rw [hμ9]
              clear hμ9 μ9
              show Z 0 336 [(8, .int (nB ((decide (su = 1)) || ((decide (su = 2)) || (decide (su = 4)))))), (7, .int su), (6, .int (nB a6)), (5, .int (nB a5)), (4, .int (nB a4)), (3, .int (nB a3)), (2, .int (nB a2)), (1, .int (nB a1)), (0, .ref 50)] [.long (lb true 37), .long (μ.2.1 50 24), .ref 50] _
              refine z_rcs hc hH 2 (pc' := 340) (lv' := [(8, .int (nB ((decide (su = 1)) || ((decide (su = 2)) || (decide (su = 4)))))), (7, .int su), (6, .int (nB a6)), (5, .int (nB a5)), (4, .int (nB a4)), (3, .int (nB a3)), (2, .int (nB a2)), (1, .int (nB a1)), (0, .ref 50)]) (st' := []) (μ' := z_uj (mGP μ (μ.2.1 50 24) (y5 ||| (lb (((decide (su = 1)) || ((decide (su = 2)) || (decide (su = 4)))) && (!a4)) 29)) (μ.1 50 23)) 50 24 ((μ.2.1 50 24) ||| (lb true 37))) (by rfl) ?_
              rw [mGP_g]
              exact zJ hJ7 rfl rfl (by simp only [h55, lb_f, Int64.or_zero, nB_t, nB_f, Bool.not_true, Bool.not_false, Bool.and_true, Bool.true_and, Bool.false_and, Bool.and_false, Bool.or_true, Bool.true_or, Bool.false_or, Bool.or_false, cond_true, cond_false])
          refine zq_if hc hH (by rfl) (tg := 322) (by rfl) (fun h56 => ?_) (fun h56 => ?_)
          · have h56 : ((decide (su = 1)) || ((decide (su = 2)) || (decide (su = 4)))) = false := nB_z.mp (cm_eq9.mp h56)
            exact zJ hJ6 rfl rfl (by simp only [h56, lb_f, Int64.or_zero, nB_t, nB_f, Bool.not_true, Bool.not_false, Bool.and_true, Bool.true_and, Bool.false_and, Bool.and_false, Bool.or_true, Bool.true_or, Bool.false_or, Bool.or_false, cond_true, cond_false])
          · have h56 : ((decide (su = 1)) || ((decide (su = 2)) || (decide (su = 4)))) = true := nB_n.mp (cn_eq.mp h56)
            refine z_rcs hc hH 1 (pc' := 305) (lv' := [(8, .int (nB ((decide (su = 1)) || ((decide (su = 2)) || (decide (su = 4)))))), (7, .int su), (6, .int (nB a6)), (5, .int (nB a5)), (4, .int (nB a4)), (3, .int (nB a3)), (2, .int (nB a2)), (1, .int (nB a1)), (0, .ref 50)]) (st' := [.int (nB a4)]) (μ' := mGP μ (μ.2.1 50 24) y5 (μ.1 50 23)) (by rfl) ?_
            refine zq_if hc hH (by rfl) (tg := 322) (by rfl) (fun h57 => ?_) (fun h57 => ?_)
            · have h57 : (a4) = true := nB_n.mp (cm_ne.mp h57)
              exact zJ hJ6 rfl rfl (by simp only [h56, h57, lb_f, Int64.or_zero, nB_t, nB_f, Bool.not_true, Bool.not_false, Bool.and_true, Bool.true_and, Bool.false_and, Bool.and_false, Bool.or_true, Bool.true_or, Bool.false_or, Bool.or_false, cond_true, cond_false])
            · have h57 : (a4) = false := nB_z.mp (cn_ne.mp h57)
              refine z_rcs0 hc hH 4 (pc' := 315) (lv' := [(8, .int (nB ((decide (su = 1)) || ((decide (su = 2)) || (decide (su = 4)))))), (7, .int su), (6, .int (nB a6)), (5, .int (nB a5)), (4, .int (nB a4)), (3, .int (nB a3)), (2, .int (nB a2)), (1, .int (nB a1)), (0, .ref 50)]) (st' := [.int 29, .long y5, .ref 50]) (by rfl) ?_
              refine zq_call hc (z_cx_ok hH (by rfl)) (fb_X7_bit d' (by omega) (mGP μ (μ.2.1 50 24) y5 (μ.1 50 23)) 29) (by decide +kernel) (fun r9 μ9 hq => ?_)
              obtain ⟨hμ9, rfl⟩ := hq
              rw [hμ9]
              clear hμ9 μ9
              show Z 0 318 [(8, .int (nB ((decide (su = 1)) || ((decide (su = 2)) || (decide (su = 4)))))), (7, .int su), (6, .int (nB a6)), (5, .int (nB a5)), (4, .int (nB a4)), (3, .int (nB a3)), (2, .int (nB a2)), (1, .int (nB a1)), (0, .ref 50)] [.long (lb true 29), .long y5, .ref 50] _
              refine z_rcs hc hH 2 (pc' := 322) (lv' := [(8, .int (nB ((decide (su = 1)) || ((decide (su = 2)) || (decide (su = 4)))))), (7, .int su), (6, .int (nB a6)), (5, .int (nB a5)), (4, .int (nB a4)), (3, .int (nB a3)), (2, .int (nB a2)), (1, .int (nB a1)), (0, .ref 50)]) (st' := []) (μ' := z_uj (mGP μ (μ.2.1 50 24) y5 (μ.1 50 23)) 50 25 (y5 ||| (lb true 29))) (by rfl) ?_
              rw [mGP_p]
              exact zJ hJ6 rfl rfl (by simp only [h56, h57, lb_f, Int64.or_zero, nB_t, nB_f, Bool.not_true, Bool.not_false, Bool.and_true, Bool.true_and, Bool.false_and, Bool.and_false, Bool.or_true, Bool.true_or, Bool.false_or, Bool.or_false, cond_true, cond_false])
        refine zq_if hc hH (by rfl) (tg := 298) (by rfl) (fun h58 => ?_) (fun h58 => ?_)
        · have h58 : ((decide (su = 1)) || ((decide (su = 2)) || (decide (su = 4)))) = false := nB_z.mp (cm_eq9.mp h58)
          exact zJ hJ4 rfl rfl (by simp only [h58, lb_f, Int64.or_zero, nB_t, nB_f, Bool.not_true, Bool.not_false, Bool.and_true, Bool.true_and, Bool.false_and, Bool.and_false, Bool.or_true, Bool.true_or, Bool.false_or, Bool.or_false, cond_true, cond_false])
        · have h58 : ((decide (su = 1)) || ((decide (su = 2)) || (decide (su = 4)))) = true := nB_n.mp (cn_eq.mp h58)
          refine z_rcs hc hH 1 (pc' := 281) (lv' := [(8, .int (nB ((decide (su = 1)) || ((decide (su = 2)) || (decide (su = 4)))))), (7, .int su), (6, .int (nB a6)), (5, .int (nB a5)), (4, .int (nB a4)), (3, .int (nB a3)), (2, .int (nB a2)), (1, .int (nB a1)), (0, .ref 50)]) (st' := [.int (nB a4)]) (μ' := mGP μ (μ.2.1 50 24) (((μ.2.1 50 25) ||| (lb a2 8)) ||| (lb a1 24)) (μ.1 50 23)) (by rfl) ?_
          refine zq_if hc hH (by rfl) (tg := 298) (by rfl) (fun h59 => ?_) (fun h59 => ?_)
          · have h59 : (a4) = false := nB_z.mp (cm_eq9.mp h59)
            exact zJ hJ4 rfl rfl (by simp only [h58, h59, lb_f, Int64.or_zero, nB_t, nB_f, Bool.not_true, Bool.not_false, Bool.and_true, Bool.true_and, Bool.false_and, Bool.and_false, Bool.or_true, Bool.true_or, Bool.false_or, Bool.or_false, cond_true, cond_false])
          · have h59 : (a4) = true := nB_n.mp (cn_eq.mp h59)
            refine z_rcs0 hc hH 4 (pc' := 291) (lv' := [(8, .int (nB ((decide (su = 1)) || ((decide (su = 2)) || (decide (su = 4)))))), (7, .int su), (6, .int (nB a6)), (5, .int (nB a5)), (4, .int (nB a4)), (3, .int (nB a3)), (2, .int (nB a2)), (1, .int (nB a1)), (0, .ref 50)]) (st' := [.int 26, .long (((μ.2.1 50 25) ||| (lb a2 8)) ||| (lb a1 24)), .ref 50]) (by rfl) ?_
            refine zq_call hc (z_cx_ok hH (by rfl)) (fb_X7_bit d' (by omega) (mGP μ (μ.2.1 50 24) (((μ.2.1 50 25) ||| (lb a2 8)) ||| (lb a1 24)) (μ.1 50 23)) 26) (by decide +kernel) (fun r9 μ9 hq => ?_)
            obtain ⟨hμ9, rfl⟩ := hq
            rw [hμ9]
            clear hμ9 μ9
            show Z 0 294 [(8, .int (nB ((decide (su = 1)) || ((decide (su = 2)) || (decide (su = 4)))))), (7, .int su), (6, .int (nB a6)), (5, .int (nB a5)), (4, .int (nB a4)), (3, .int (nB a3)), (2, .int (nB a2)), (1, .int (nB a1)), (0, .ref 50)] [.long (lb true 26), .long (((μ.2.1 50 25) ||| (lb a2 8)) ||| (lb a1 24)), .ref 50] _
            refine z_rcs hc hH 2 (pc' := 298) (lv' := [(8, .int (nB ((decide (su = 1)) || ((decide (su = 2)) || (decide (su = 4)))))), (7, .int su), (6, .int (nB a6)), (5, .int (nB a5)), (4, .int (nB a4)), (3, .int (nB a3)), (2, .int (nB a2)), (1, .int (nB a1)), (0, .ref 50)]) (st' := []) (μ' := z_uj (mGP μ (μ.2.1 50 24) (((μ.2.1 50 25) ||| (lb a2 8)) ||| (lb a1 24)) (μ.1 50 23)) 50 25 ((((μ.2.1 50 25) ||| (lb a2 8)) ||| (lb a1 24)) ||| (lb true 26))) (by rfl) ?_
            rw [mGP_p]
            exact zJ hJ4 rfl rfl (by simp only [h58, h59, lb_f, Int64.or_zero, nB_t, nB_f, Bool.not_true, Bool.not_false, Bool.and_true, Bool.true_and, Bool.false_and, Bool.and_false, Bool.or_true, Bool.true_or, Bool.false_or, Bool.or_false, cond_true, cond_false])
      refine zq_if hc hH (by rfl) (tg := 274) (by rfl) (fun h60 => ?_) (fun h60 => ?_)
      · have h60 : (a1) = false := nB_z.mp (cm_eq9.mp h60)
        exact zJ hJ3 rfl rfl (by simp only [h60, lb_f, Int64.or_zero, nB_t, nB_f, Bool.not_true, Bool.not_false, Bool.and_true, Bool.true_and, Bool.false_and, Bool.and_false, Bool.or_true, Bool.true_or, Bool.false_or, Bool.or_false, cond_true, cond_false])
      · have h60 : (a1) = true := nB_n.mp (cn_eq.mp h60)
        refine z_rcs hc hH 4 (pc' := 267) (lv' := [(8, .int (nB ((decide (su = 1)) || ((decide (su = 2)) || (decide (su = 4)))))), (7, .int su), (6, .int (nB a6)), (5, .int (nB a5)), (4, .int (nB a4)), (3, .int (nB a3)), (2, .int (nB a2)), (1, .int (nB a1)), (0, .ref 50)]) (st' := [.int 24, .long ((μ.2.1 50 25) ||| (lb a2 8)), .ref 50]) (μ' := mGP μ (μ.2.1 50 24) ((μ.2.1 50 25) ||| (lb a2 8)) (μ.1 50 23)) (by rfl) ?_
        refine zq_call hc (z_cx_ok hH (by rfl)) (fb_X7_bit d' (by omega) (mGP μ (μ.2.1 50 24) ((μ.2.1 50 25) ||| (lb a2 8)) (μ.1 50 23)) 24) (by decide +kernel) (fun r9 μ9 hq => ?_)
        obtain ⟨hμ9, rfl⟩ := hq
        rw [hμ9]
        clear hμ9 μ9
        show Z 0 270 [(8, .int (nB ((decide (su = 1)) || ((decide (su = 2)) || (decide (su = 4)))))), (7, .int su), (6, .int (nB a6)), (5, .int (nB a5)), (4, .int (nB a4)), (3, .int (nB a3)), (2, .int (nB a2)), (1, .int (nB a1)), (0, .ref 50)] [.long (lb true 24), .long ((μ.2.1 50 25) ||| (lb a2 8)), .ref 50] _
        refine z_rcs hc hH 2 (pc' := 274) (lv' := [(8, .int (nB ((decide (su = 1)) || ((decide (su = 2)) || (decide (su = 4)))))), (7, .int su), (6, .int (nB a6)), (5, .int (nB a5)), (4, .int (nB a4)), (3, .int (nB a3)), (2, .int (nB a2)), (1, .int (nB a1)), (0, .ref 50)]) (st' := []) (μ' := z_uj (mGP μ (μ.2.1 50 24) ((μ.2.1 50 25) ||| (lb a2 8)) (μ.1 50 23)) 50 25 (((μ.2.1 50 25) ||| (lb a2 8)) ||| (lb true 24))) (by rfl) ?_
        rw [mGP_p]
        exact zJ hJ3 rfl rfl (by simp only [h60, lb_f, Int64.or_zero, nB_t, nB_f, Bool.not_true, Bool.not_false, Bool.and_true, Bool.true_and, Bool.false_and, Bool.and_false, Bool.or_true, Bool.true_or, Bool.false_or, Bool.or_false, cond_true, cond_false])
    refine zq_if hc hH (by rfl) (tg := 256) (by rfl) (fun h61 => ?_) (fun h61 => ?_)
    · have h61 : (a2) = false := nB_z.mp (cm_eq9.mp h61)
      exact zJ hJ2 rfl rfl (by simp only [h61, lb_f, Int64.or_zero, nB_t, nB_f, Bool.not_true, Bool.not_false, Bool.and_true, Bool.true_and, Bool.false_and, Bool.and_false, Bool.or_true, Bool.true_or, Bool.false_or, Bool.or_false, cond_true, cond_false])
    · have h61 : (a2) = true := nB_n.mp (cn_eq.mp h61)
      refine z_rcs hc hH 4 (pc' := 249) (lv' := [(8, .int (nB ((decide (su = 1)) || ((decide (su = 2)) || (decide (su = 4)))))), (7, .int su), (6, .int (nB a6)), (5, .int (nB a5)), (4, .int (nB a4)), (3, .int (nB a3)), (2, .int (nB a2)), (1, .int (nB a1)), (0, .ref 50)]) (st' := [.int 8, .long (μ.2.1 50 25), .ref 50]) (μ' := mGP μ (μ.2.1 50 24) (μ.2.1 50 25) (μ.1 50 23)) (by rfl) ?_
      refine zq_call hc (z_cx_ok hH (by rfl)) (fb_X7_bit d' (by omega) (mGP μ (μ.2.1 50 24) (μ.2.1 50 25) (μ.1 50 23)) 8) (by decide +kernel) (fun r9 μ9 hq => ?_)
      obtain ⟨hμ9, rfl⟩ := hq
      rw [hμ9]
      clear hμ9 μ9
      show Z 0 252 [(8, .int (nB ((decide (su = 1)) || ((decide (su = 2)) || (decide (su = 4)))))), (7, .int su), (6, .int (nB a6)), (5, .int (nB a5)), (4, .int (nB a4)), (3, .int (nB a3)), (2, .int (nB a2)), (1, .int (nB a1)), (0, .ref 50)] [.long (lb true 8), .long (μ.2.1 50 25), .ref 50] _
      refine z_rcs hc hH 2 (pc' := 256) (lv' := [(8, .int (nB ((decide (su = 1)) || ((decide (su = 2)) || (decide (su = 4)))))), (7, .int su), (6, .int (nB a6)), (5, .int (nB a5)), (4, .int (nB a4)), (3, .int (nB a3)), (2, .int (nB a2)), (1, .int (nB a1)), (0, .ref 50)]) (st' := []) (μ' := z_uj (mGP μ (μ.2.1 50 24) (μ.2.1 50 25) (μ.1 50 23)) 50 25 ((μ.2.1 50 25) ||| (lb true 8))) (by rfl) ?_
      rw [mGP_p]
      exact zJ hJ2 rfl rfl (by simp only [h61, lb_f, Int64.or_zero, nB_t, nB_f, Bool.not_true, Bool.not_false, Bool.and_true, Bool.true_and, Bool.false_and, Bool.and_false, Bool.or_true, Bool.true_or, Bool.false_or, Bool.or_false, cond_true, cond_false])
  refine zq_ic hc hH (by rfl) (tg := 231) (by rfl) (fun h62 => ?_) (fun h62 => ?_)
  · have h62 : (decide (su = 1)) = true := decide_eq_true (cm_eq9.mp h62)
    refine z_rcs hc hH 2 (pc' := 236) (lv' := [(8, .int (nI 34)), (7, .int su), (6, .int (nB a6)), (5, .int (nB a5)), (4, .int (nB a4)), (3, .int (nB a3)), (2, .int (nB a2)), (1, .int (nB a1)), (0, .ref 50)]) (st' := [.int 1]) (μ' := mGP μ (μ.2.1 50 24) (μ.2.1 50 25) (μ.1 50 23)) (by rfl) ?_
    exact zJ hJ1 rfl (by simp only [h62, lb_f, Int64.or_zero, nB_t, nB_f, Bool.not_true, Bool.not_false, Bool.and_true, Bool.true_and, Bool.false_and, Bool.and_false, Bool.or_true, Bool.true_or, Bool.false_or, Bool.or_false, cond_true, cond_false]) rfl
  · have h62 : (decide (su = 1)) = false := decide_eq_false (cn_eq.mp h62)
    refine z_rcs0 hc hH 2 (pc' := 222) (lv' := [(8, .int (nI 34)), (7, .int su), (6, .int (nB a6)), (5, .int (nB a5)), (4, .int (nB a4)), (3, .int (nB a3)), (2, .int (nB a2)), (1, .int (nB a1)), (0, .ref 50)]) (st' := [.int 2, .int su]) (by rfl) ?_
    refine zq_ic hc hH (by rfl) (tg := 231) (by rfl) (fun h63 => ?_) (fun h63 => ?_)
    · have h63 : (decide (su = 2)) = true := decide_eq_true (cm_eq9.mp h63)
      refine z_rcs0 hc hH 2 (pc' := 236) (lv' := [(8, .int (nI 34)), (7, .int su), (6, .int (nB a6)), (5, .int (nB a5)), (4, .int (nB a4)), (3, .int (nB a3)), (2, .int (nB a2)), (1, .int (nB a1)), (0, .ref 50)]) (st' := [.int 1]) (by rfl) ?_
      exact zJ hJ1 rfl (by simp only [h62, h63, lb_f, Int64.or_zero, nB_t, nB_f, Bool.not_true, Bool.not_false, Bool.and_true, Bool.true_and, Bool.false_and, Bool.and_false, Bool.or_true, Bool.true_or, Bool.false_or, Bool.or_false, cond_true, cond_false]) rfl
    · have h63 : (decide (su = 2)) = false := decide_eq_false (cn_eq.mp h63)
      refine z_rcs0 hc hH 2 (pc' := 228) (lv' := [(8, .int (nI 34)), (7, .int su), (6, .int (nB a6)), (5, .int (nB a5)), (4, .int (nB a4)), (3, .int (nB a3)), (2, .int (nB a2)), (1, .int (nB a1)), (0, .ref 50)]) (st' := [.int 4, .int su]) (by rfl) ?_
      refine zq_ic hc hH (by rfl) (tg := 235) (by rfl) (fun h64 => ?_) (fun h64 => ?_)
      · have h64 : (decide (su = 4)) = false := decide_eq_false (cm_ne.mp h64)
        refine z_rcs0 hc hH 1 (pc' := 236) (lv' := [(8, .int (nI 34)), (7, .int su), (6, .int (nB a6)), (5, .int (nB a5)), (4, .int (nB a4)), (3, .int (nB a3)), (2, .int (nB a2)), (1, .int (nB a1)), (0, .ref 50)]) (st' := [.int 0]) (by rfl) ?_
        exact zJ hJ1 rfl (by simp only [h62, h63, h64, lb_f, Int64.or_zero, nB_t, nB_f, Bool.not_true, Bool.not_false, Bool.and_true, Bool.true_and, Bool.false_and, Bool.and_false, Bool.or_true, Bool.true_or, Bool.false_or, Bool.or_false, cond_true, cond_false]) rfl
      · have h64 : (decide (su = 4)) = true := decide_eq_true (cn_ne.mp h64)
        refine z_rcs0 hc hH 2 (pc' := 236) (lv' := [(8, .int (nI 34)), (7, .int su), (6, .int (nB a6)), (5, .int (nB a5)), (4, .int (nB a4)), (3, .int (nB a3)), (2, .int (nB a2)), (1, .int (nB a1)), (0, .ref 50)]) (st' := [.int 1]) (by rfl) ?_
        exact zJ hJ1 rfl (by simp only [h62, h63, h64, lb_f, Int64.or_zero, nB_t, nB_f, Bool.not_true, Bool.not_false, Bool.and_true, Bool.true_and, Bool.false_and, Bool.and_false, Bool.or_true, Bool.true_or, Bool.false_or, Bool.or_false, cond_true, cond_false]) rfl
theorem tl213_2 (d' : Nat) (Z : zK) (hd : 2 ≤ d') (μ : zM) (t : T7) (hc : z_clo z_x0 mi_X7_tiles (z_C d') Z) (hr : z_ret mi_X7_tiles (fun r μ' => r = none ∧ μ' = mGP μ (tlG μ (μ.2.1 50 24) t) (tlP μ (μ.2.1 50 25) t) (μ.1 50 23)) Z) : Z 0 213 [(8, .int (nI 34)), (6, .int (nB t.2.2.2.2.2.1)), (5, .int (nB t.2.2.2.2.1)), (4, .int (nB t.2.2.2.1)), (3, .int (nB t.2.2.1)), (2, .int (nB t.2.1)), (1, .int (nB t.1)), (7, .int t.2.2.2.2.2.2), (0, .ref 50)] [] μ := by
  have hH : zH mi_X7_tiles zt_X7_tiles 79 7 12 := hh_X7_tiles
  obtain ⟨a1, a2, a3, a4, a5, a6, su⟩ := t
  show Z 0 213 [(8, .int (nI 34)), (6, .int (nB a6)), (5, .int (nB a5)), (4, .int (nB a4)), (3, .int (nB a3)), (2, .int (nB a2)), (1, .int (nB a1)), (7, .int su), (0, .ref 50)] [] μ
  refine zJ (μ := mGP μ (μ.2.1 50 24) (μ.2.1 50 25) (μ.1 50 23)) ?_ rfl rfl (mGP_rf μ)
  refine z_rcs hc hH 2 (pc' := 216) (lv' := [(8, .int (nI 34)), (6, .int (nB a6)), (5, .int (nB a5)), (4, .int (nB a4)), (3, .int (nB a3)), (2, .int (nB a2)), (1, .int (nB a1)), (7, .int su), (0, .ref 50)]) (st' := [.int 1, .int su]) (μ' := mGP μ (μ.2.1 50 24) (μ.2.1 50 25) (μ.1 50 23)) (by rfl) ?_
  have hJ1 : Z 0 236 [(8, .int (nI 34)), (6, .int (nB a6)), (5, .int (nB a5)), (4, .int (nB a4)), (3, .int (nB a3)), (2, .int (nB a2)), (1, .int (nB a1)), (7, .int su), (0, .ref 50)] [.int (nB ((decide (su = 1)) || ((decide (su = 2)) || (decide (su = 4)))))] (mGP μ (μ.2.1 50 24) (μ.2.1 50 25) (μ.1 50 23)) := by
    refine z_rcs0 hc hH 2 (pc' := 239) (lv' := [(8, .int (nB ((decide (su = 1)) || ((decide (su = 2)) || (decide (su = 4)))))), (6, .int (nB a6)), (5, .int (nB a5)), (4, .int (nB a4)), (3, .int (nB a3)), (2, .int (nB a2)), (1, .int (nB a1)), (7, .int su), (0, .ref 50)]) (st' := [.int (nB a2)]) (by rfl) ?_
    have hJ2 : Z 0 256 [(8, .int (nB ((decide (su = 1)) || ((decide (su = 2)) || (decide (su = 4)))))), (6, .int (nB a6)), (5, .int (nB a5)), (4, .int (nB a4)), (3, .int (nB a3)), (2, .int (nB a2)), (1, .int (nB a1)), (7, .int su), (0, .ref 50)] [] (mGP μ (μ.2.1 50 24) ((μ.2.1 50 25) ||| (lb a2 8)) (μ.1 50 23)) := by
      refine z_rcs0 hc hH 1 (pc' := 257) (lv' := [(8, .int (nB ((decide (su = 1)) || ((decide (su = 2)) || (decide (su = 4)))))), (6, .int (nB a6)), (5, .int (nB a5)), (4, .int (nB a4)), (3, .int (nB a3)), (2, .int (nB a2)), (1, .int (nB a1)), (7, .int su), (0, .ref 50)]) (st' := [.int (nB a1)]) (by rfl) ?_
      have hJ3 : Z 0 274 [(8, .int (nB ((decide (su = 1)) || ((decide (su = 2)) || (decide (su = 4)))))), (6, .int (nB a6)), (5, .int (nB a5)), (4, .int (nB a4)), (3, .int (nB a3)), (2, .int (nB a2)), (1, .int (nB a1)), (7, .int su), (0, .ref 50)] [] (mGP μ (μ.2.1 50 24) (((μ.2.1 50 25) ||| (lb a2 8)) ||| (lb a1 24)) (μ.1 50 23)) := by
        refine z_rcs0 hc hH 1 (pc' := 276) (lv' := [(8, .int (nB ((decide (su = 1)) || ((decide (su = 2)) || (decide (su = 4)))))), (6, .int (nB a6)), (5, .int (nB a5)), (4, .int (nB a4)), (3, .int (nB a3)), (2, .int (nB a2)), (1, .int (nB a1)), (7, .int su), (0, .ref 50)]) (st' := [.int (nB ((decide (su = 1)) || ((decide (su = 2)) || (decide (su = 4)))))]) (by rfl) ?_
        have hJ4 : Z 0 298 [(8, .int (nB ((decide (su = 1)) || ((decide (su = 2)) || (decide (su = 4)))))), (6, .int (nB a6)), (5, .int (nB a5)), (4, .int (nB a4)), (3, .int (nB a3)), (2, .int (nB a2)), (1, .int (nB a1)), (7, .int su), (0, .ref 50)] [] (mGP μ (μ.2.1 50 24) ((((μ.2.1 50 25) ||| (lb a2 8)) ||| (lb a1 24)) ||| (lb (((decide (su = 1)) || ((decide (su = 2)) || (decide (su = 4)))) && a4) 26)) (μ.1 50 23)) := by
          generalize hy5 : ((((μ.2.1 50 25) ||| (lb a2 8)) ||| (lb a1 24)) ||| (lb (((decide (su = 1)) || ((decide (su = 2)) || (decide (su = 4)))) && a4) 26) : Int64) = y5
          refine z_rcs hc hH 1 (pc' := 300) (lv' := [(8, .int (nB ((decide (su = 1)) || ((decide (su = 2)) || (decide (su = 4)))))), (6, .int (nB a6)), (5, .int (nB a5)), (4, .int (nB a4)), (3, .int (nB a3)), (2, .int (nB a2)), (1, .int (nB a1)), (7, .int su), (0, .ref 50)]) (st' := [.int (nB ((decide (su = 1)) || ((decide (su = 2)) || (decide (su = 4)))))]) (μ' := mGP μ (μ.2.1 50 24) y5 (μ.1 50 23)) (by rfl) ?_
          have hJ6 : Z 0 322 [(8, .int (nB ((decide (su = 1)) || ((decide (su = 2)) || (decide (su = 4)))))), (6, .int (nB a6)), (5, .int (nB a5)), (4, .int (nB a4)), (3, .int (nB a3)), (2, .int (nB a2)), (1, .int (nB a1)), (7, .int su), (0, .ref 50)] [] (mGP μ (μ.2.1 50 24) (y5 ||| (lb (((decide (su = 1)) || ((decide (su = 2)) || (decide (su = 4)))) && (!a4)) 29)) (μ.1 50 23)) := by
            refine z_rcs0 hc hH 1 (pc' := 323) (lv' := [(8, .int (nB ((decide (su = 1)) || ((decide (su = 2)) || (decide (su = 4)))))), (6, .int (nB a6)), (5, .int (nB a5)), (4, .int (nB a4)), (3, .int (nB a3)), (2, .int (nB a2)), (1, .int (nB a1)), (7, .int su), (0, .ref 50)]) (st' := [.int (nB a3)]) (by rfl) ?_
            have hJ7 : Z 0 340 [(8, .int (nB ((decide (su = 1)) || ((decide (su = 2)) || (decide (su = 4)))))), (6, .int (nB a6)), (5, .int (nB a5)), (4, .int (nB a4)), (3, .int (nB a3)), (2, .int (nB a2)), (1, .int (nB a1)), (7, .int su), (0, .ref 50)] [] (mGP μ ((μ.2.1 50 24) ||| (lb a3 37)) (y5 ||| (lb (((decide (su = 1)) || ((decide (su = 2)) || (decide (su = 4)))) && (!a4)) 29)) (μ.1 50 23)) := by
              refine z_rcs0 hc hH 1 (pc' := 342) (lv' := [(8, .int (nB ((decide (su = 1)) || ((decide (su = 2)) || (decide (su = 4)))))), (6, .int (nB a6)), (5, .int (nB a5)), (4, .int (nB a4)), (3, .int (nB a3)), (2, .int (nB a2)), (1, .int (nB a1)), (7, .int su), (0, .ref 50)]) (st' := [.int (nB a5)]) (by rfl) ?_
              have hJ8 : Z 0 359 [(8, .int (nB ((decide (su = 1)) || ((decide (su = 2)) || (decide (su = 4)))))), (6, .int (nB a6)), (5, .int (nB a5)), (4, .int (nB a4)), (3, .int (nB a3)), (2, .int (nB a2)), (1, .int (nB a1)), (7, .int su), (0, .ref 50)] [] (mGP μ (((μ.2.1 50 24) ||| (lb a3 37)) ||| (lb a5 38)) (y5 ||| (lb (((decide (su = 1)) || ((decide (su = 2)) || (decide (su = 4)))) && (!a4)) 29)) (μ.1 50 23)) := by
                refine z_rcs0 hc hH 1 (pc' := 361) (lv' := [(8, .int (nB ((decide (su = 1)) || ((decide (su = 2)) || (decide (su = 4)))))), (6, .int (nB a6)), (5, .int (nB a5)), (4, .int (nB a4)), (3, .int (nB a3)), (2, .int (nB a2)), (1, .int (nB a1)), (7, .int su), (0, .ref 50)]) (st' := [.int (nB a6)]) (by rfl) ?_
                have hJ9 : Z 0 378 [(8, .int (nB ((decide (su = 1)) || ((decide (su = 2)) || (decide (su = 4)))))), (6, .int (nB a6)), (5, .int (nB a5)), (4, .int (nB a4)), (3, .int (nB a3)), (2, .int (nB a2)), (1, .int (nB a1)), (7, .int su), (0, .ref 50)] [] (mGP μ ((((μ.2.1 50 24) ||| (lb a3 37)) ||| (lb a5 38)) ||| (lb a6 39)) (y5 ||| (lb (((decide (su = 1)) || ((decide (su = 2)) || (decide (su = 4)))) && (!a4)) 29)) (μ.1 50 23)) := by
                  refine z_rcs0 hc hH 1 (pc' := 380) (lv' := [(8, .int (nB ((decide (su = 1)) || ((decide (su = 2)) || (decide (su = 4)))))), (6, .int (nB a6)), (5, .int (nB a5)), (4, .int (nB a4)), (3, .int (nB a3)), (2, .int (nB a2)), (1, .int (nB a1)), (7, .int su), (0, .ref 50)]) (st' := [.int (nB ((decide (su = 1)) || ((decide (su = 2)) || (decide (su = 4)))))]) (by rfl) ?_
                  generalize he10 : ((decide (su = 1)) || ((decide (su = 2)) || (decide (su = 4)))) = e10
                  refine zq_if hc hH (by rfl) (tg := 500) (by rfl) (fun h11 => ?_) (fun h11 => ?_)
                  · have h11 : (e10) = false := nB_z.mp (cm_eq9.mp h11)
                    exact hr 0 500 _ _ _ none (by decide +kernel) (by rfl) (⟨rfl, (by unfold tlG tlP; try rw [hy5]; try rw [he10]; simp only [h11, lb_f, Int64.or_zero, nB_t, nB_f, Bool.not_true, Bool.not_false, Bool.and_true, Bool.true_and, Bool.false_and, Bool.and_false, Bool.or_true, Bool.true_or, Bool.false_or, Bool.or_false, cond_true, cond_false])⟩)
                  · have h11 : (e10) = true := nB_n.mp (cn_eq.mp h11)
                    refine z_rcs hc hH 1 (pc' := 385) (lv' := [(8, .int (nB e10)), (6, .int (nB a6)), (5, .int (nB a5)), (4, .int (nB a4)), (3, .int (nB a3)), (2, .int (nB a2)), (1, .int (nB a1)), (7, .int su), (0, .ref 50)]) (st' := [.int (nB a4)]) (μ' := mGP μ ((((μ.2.1 50 24) ||| (lb a3 37)) ||| (lb a5 38)) ||| (lb a6 39)) (y5 ||| (lb (e10 && (!a4)) 29)) (μ.1 50 23)) (by rfl) ?_
                    refine zq_if hc hH (by rfl) (tg := 500) (by rfl) (fun h12 => ?_) (fun h12 => ?_)
                    · have h12 : (a4) = true := nB_n.mp (cm_ne.mp h12)
                      exact hr 0 500 _ _ _ none (by decide +kernel) (by rfl) (⟨rfl, (by unfold tlG tlP; try rw [hy5]; try rw [he10]; simp only [h11, h12, lb_f, Int64.or_zero, nB_t, nB_f, Bool.not_true, Bool.not_false, Bool.and_true, Bool.true_and, Bool.false_and, Bool.and_false, Bool.or_true, Bool.true_or, Bool.false_or, Bool.or_false, cond_true, cond_false])⟩)
                    · have h12 : (a4) = false := nB_z.mp (cn_ne.mp h12)
                      refine z_rcs0 hc hH 2 (pc' := 392) (lv' := [(8, .int (nB e10)), (6, .int (nB a6)), (5, .int (nB a5)), (4, .int (nB a4)), (3, .int (nB a3)), (2, .int (nB a2)), (1, .int (nB a1)), (7, .int su), (0, .ref 50)]) (st' := [.int (μ.1 50 4)]) (by rfl) ?_
                      refine zq_if hc hH (by rfl) (tg := 500) (by rfl) (fun h13 => ?_) (fun h13 => ?_)
                      · have h13 : (decide ((μ.1 50 4) = 0)) = false := decide_eq_false (cm_ne.mp h13)
                        exact hr 0 500 _ _ _ none (by decide +kernel) (by rfl) (⟨rfl, (by unfold tlG tlP; try rw [hy5]; try rw [he10]; simp only [h11, h12, h13, lb_f, Int64.or_zero, nB_t, nB_f, Bool.not_true, Bool.not_false, Bool.and_true, Bool.true_and, Bool.false_and, Bool.and_false, Bool.or_true, Bool.true_or, Bool.false_or, Bool.or_false, cond_true, cond_false])⟩)
                      · have h13 : (decide ((μ.1 50 4) = 0)) = true := decide_eq_true (cn_ne.mp h13)
                        refine z_rcs0 hc hH 2 (pc' := 398) (lv' := [(8, .int (nB e10)), (6, .int (nB a6)), (5, .int (nB a5)), (4, .int (nB a4)), (3, .int (nB a3)), (2, .int (nB a2)), (1, .int (nB a1)), (7, .int su), (0, .ref 50)]) (st' := [.int 1, .int su]) (by rfl) ?_
                        have hJ14 : Z 0 418 [(8, .int (nB e10)), (6, .int (nB a6)), (5, .int (nB a5)), (4, .int (nB a4)), (3, .int (nB a3)), (2, .int (nB a2)), (1, .int (nB a1)), (7, .int su), (0, .ref 50)] [.int (bif decide (su = 1) then (0 : Int32) else bif decide (su = 2) then (9 : Int32) else 18)] (mGP μ ((((μ.2.1 50 24) ||| (lb a3 37)) ||| (lb a5 38)) ||| (lb a6 39)) (y5 ||| (lb (e10 && (!a4)) 29)) (μ.1 50 23)) := by
                          refine z_rcs0 hc hH 15 (pc' := 447) (lv' := [(11, .int 0), (10, .int 1), (9, .int (bif decide (su = 1) then (0 : Int32) else bif decide (su = 2) then (9 : Int32) else 18)), (8, .int (nB e10)), (6, .int (nB a6)), (5, .int (nB a5)), (4, .int (nB a4)), (3, .int (nB a3)), (2, .int (nB a2)), (1, .int (nB a1)), (7, .int su), (0, .ref 50)]) (st' := [.int ((bif decide (su = 1) then (0 : Int32) else bif decide (su = 2) then (9 : Int32) else 18) + 0), .ref 58]) (by rfl) ?_
                          refine zq_iald hc hH (by rfl) 34 (by decide +kernel) (show vp_in (_ + nI 0) 34 from ng_in 0 (by decide)) ?_
                          refine z_rcs0 hc hH 4 (pc' := 465) (lv' := [(11, .int 0), (10, .int 1), (9, .int (bif decide (su = 1) then (0 : Int32) else bif decide (su = 2) then (9 : Int32) else 18)), (8, .int (nB e10)), (6, .int (nB a6)), (5, .int (nB a5)), (4, .int (nB a4)), (3, .int (nB a3)), (2, .int (nB a2)), (1, .int (nB a1)), (7, .int su), (0, .ref 50)]) (st' := [.int 3, .int (μ.1 58 ((bif decide (su = 1) then (0 : Int32) else bif decide (su = 2) then (9 : Int32) else 18) + 0).toNatClampNeg)]) (by rfl) ?_
                          have hJ15 : Z 0 473 [(11, .int 0), (10, .int 1), (9, .int (bif decide (su = 1) then (0 : Int32) else bif decide (su = 2) then (9 : Int32) else 18)), (8, .int (nB e10)), (6, .int (nB a6)), (5, .int (nB a5)), (4, .int (nB a4)), (3, .int (nB a3)), (2, .int (nB a2)), (1, .int (nB a1)), (7, .int su), (0, .ref 50)] [.int (nB (!(decide ((μ.1 58 ((bif decide (su = 1) then (0 : Int32) else bif decide (su = 2) then (9 : Int32) else 18) + 0).toNatClampNeg) < 3))))] (mGP μ ((((μ.2.1 50 24) ||| (lb a3 37)) ||| (lb a5 38)) ||| (lb a6 39)) (y5 ||| (lb (e10 && (!a4)) 29)) (μ.1 50 23)) := by
                            generalize he16 : (!(decide ((μ.1 58 ((bif decide (su = 1) then (0 : Int32) else bif decide (su = 2) then (9 : Int32) else 18) + 0).toNatClampNeg) < 3))) = e16
                            refine z_rcs0 hc hH 7 (pc' := 435) (lv' := [(11, .int 1), (10, .int (nB e16)), (9, .int (bif decide (su = 1) then (0 : Int32) else bif decide (su = 2) then (9 : Int32) else 18)), (8, .int (nB e10)), (6, .int (nB a6)), (5, .int (nB a5)), (4, .int (nB a4)), (3, .int (nB a3)), (2, .int (nB a2)), (1, .int (nB a1)), (7, .int su), (0, .ref 50)]) (st' := [.int (nB e16)]) (by rfl) ?_
                            have hJ17 : Z 0 473 [(11, .int 1), (10, .int (nB e16)), (9, .int (bif decide (su = 1) then (0 : Int32) else bif decide (su = 2) then (9 : Int32) else 18)), (8, .int (nB e10)), (6, .int (nB a6)), (5, .int (nB a5)), (4, .int (nB a4)), (3, .int (nB a3)), (2, .int (nB a2)), (1, .int (nB a1)), (7, .int su), (0, .ref 50)] [.int (nB (e16 && (!(decide ((μ.1 58 ((bif decide (su = 1) then (0 : Int32) else bif decide (su = 2) then (9 : Int32) else 18) + 1).toNatClampNeg) < 1)))))] (mGP μ ((((μ.2.1 50 24) ||| (lb a3 37)) ||| (lb a5 38)) ||| (lb a6 39)) (y5 ||| (lb (e10 && (!a4)) 29)) (μ.1 50 23)) := by
                              generalize he18 : (e16 && (!(decide ((μ.1 58 ((bif decide (su = 1) then (0 : Int32) else bif decide (su = 2) then (9 : Int32) else 18) + 1).toNatClampNeg) < 1)))) = e18
                              refine z_rcs0 hc hH 7 (pc' := 435) (lv' := [(11, .int 2), (10, .int (nB e18)), (9, .int (bif decide (su = 1) then (0 : Int32) else bif decide (su = 2) then (9 : Int32) else 18)), (8, .int (nB e10)), (6, .int (nB a6)), (5, .int (nB a5)), (4, .int (nB a4)), (3, .int (nB a3)), (2, .int (nB a2)), (1, .int (nB a1)), (7, .int su), (0, .ref 50)]) (st' := [.int (nB e18)]) (by rfl) ?_
                              have hJ19 : Z 0 473 [(11, .int 2), (10, .int (nB e18)), (9, .int (bif decide (su = 1) then (0 : Int32) else bif decide (su = 2) then (9 : Int32) else 18)), (8, .int (nB e10)), (6, .int (nB a6)), (5, .int (nB a5)), (4, .int (nB a4)), (3, .int (nB a3)), (2, .int (nB a2)), (1, .int (nB a1)), (7, .int su), (0, .ref 50)] [.int (nB (e18 && (!(decide ((μ.1 58 ((bif decide (su = 1) then (0 : Int32) else bif decide (su = 2) then (9 : Int32) else 18) + 2).toNatClampNeg) < 1)))))] (mGP μ ((((μ.2.1 50 24) ||| (lb a3 37)) ||| (lb a5 38)) ||| (lb a6 39)) (y5 ||| (lb (e10 && (!a4)) 29)) (μ.1 50 23)) := by
                                generalize he20 : (e18 && (!(decide ((μ.1 58 ((bif decide (su = 1) then (0 : Int32) else bif decide (su = 2) then (9 : Int32) else 18) + 2).toNatClampNeg) < 1)))) = e20
                                refine z_rcs0 hc hH 7 (pc' := 435) (lv' := [(11, .int 3), (10, .int (nB e20)), (9, .int (bif decide (su = 1) then (0 : Int32) else bif decide (su = 2) then (9 : Int32) else 18)), (8, .int (nB e10)), (6, .int (nB a6)), (5, .int (nB a5)), (4, .int (nB a4)), (3, .int (nB a3)), (2, .int (nB a2)), (1, .int (nB a1)), (7, .int su), (0, .ref 50)]) (st' := [.int (nB e20)]) (by rfl) ?_
                                have hJ21 : Z 0 473 [(11, .int 3), (10, .int (nB e20)), (9, .int (bif decide (su = 1) then (0 : Int32) else bif decide (su = 2) then (9 : Int32) else 18)), (8, .int (nB e10)), (6, .int (nB a6)), (5, .int (nB a5)), (4, .int (nB a4)), (3, .int (nB a3)), (2, .int (nB a2)), (1, .int (nB a1)), (7, .int su), (0, .ref 50)] [.int (nB (e20 && (!(decide ((μ.1 58 ((bif decide (su = 1) then (0 : Int32) else bif decide (su = 2) then (9 : Int32) else 18) + 3).toNatClampNeg) < 1)))))] (mGP μ ((((μ.2.1 50 24) ||| (lb a3 37)) ||| (lb a5 38)) ||| (lb a6 39)) (y5 ||| (lb (e10 && (!a4)) 29)) (μ.1 50 23)) := by
                                  generalize he22 : (e20 && (!(decide ((μ.1 58 ((bif decide (su = 1) then (0 : Int32) else bif decide (su = 2) then (9 : Int32) else 18) + 3).toNatClampNeg) < 1)))) = e22
                                  refine z_rcs0 hc hH 7 (pc' := 435) (lv' := [(11, .int 4), (10, .int (nB e22)), (9, .int (bif decide (su = 1) then (0 : Int32) else bif decide (su = 2) then (9 : Int32) else 18)), (8, .int (nB e10)), (6, .int (nB a6)), (5, .int (nB a5)), (4, .int (nB a4)), (3, .int (nB a3)), (2, .int (nB a2)), (1, .int (nB a1)), (7, .int su), (0, .ref 50)]) (st' := [.int (nB e22)]) (by rfl) ?_
                                  have hJ23 : Z 0 473 [(11, .int 4), (10, .int (nB e22)), (9, .int (bif decide (su = 1) then (0 : Int32) else bif decide (su = 2) then (9 : Int32) else 18)), (8, .int (nB e10)), (6, .int (nB a6)), (5, .int (nB a5)), (4, .int (nB a4)), (3, .int (nB a3)), (2, .int (nB a2)), (1, .int (nB a1)), (7, .int su), (0, .ref 50)] [.int (nB (e22 && (!(decide ((μ.1 58 ((bif decide (su = 1) then (0 : Int32) else bif decide (su = 2) then (9 : Int32) else 18) + 4).toNatClampNeg) < 1)))))] (mGP μ ((((μ.2.1 50 24) ||| (lb a3 37)) ||| (lb a5 38)) ||| (lb a6 39)) (y5 ||| (lb (e10 && (!a4)) 29)) (μ.1 50 23)) := by
                                    generalize he24 : (e22 && (!(decide ((μ.1 58 ((bif decide (su = 1) then (0 : Int32) else bif decide (su = 2) then (9 : Int32) else 18) + 4).toNatClampNeg) < 1)))) = e24
                                    refine z_rcs0 hc hH 7 (pc' := 435) (lv' := [(11, .int 5), (10, .int (nB e24)), (9, .int (bif decide (su = 1) then (0 : Int32) else bif decide (su = 2) then (9 : Int32) else 18)), (8, .int (nB e10)), (6, .int (nB a6)), (5, .int (nB a5)), (4, .int (nB a4)), (3, .int (nB a3)), (2, .int (nB a2)), (1, .int (nB a1)), (7, .int su), (0, .ref 50)]) (st' := [.int (nB e24)]) (by rfl) ?_
                                    have hJ25 : Z 0 473 [(11, .int 5), (10, .int (nB e24)), (9, .int (bif decide (su = 1) then (0 : Int32) else bif decide (su = 2) then (9 : Int32) else 18)), (8, .int (nB e10)), (6, .int (nB a6)), (5, .int (nB a5)), (4, .int (nB a4)), (3, .int (nB a3)), (2, .int (nB a2)), (1, .int (nB a1)), (7, .int su), (0, .ref 50)] [.int (nB (e24 && (!(decide ((μ.1 58 ((bif decide (su = 1) then (0 : Int32) else bif decide (su = 2) then (9 : Int32) else 18) + 5).toNatClampNeg) < 1)))))] (mGP μ ((((μ.2.1 50 24) ||| (lb a3 37)) ||| (lb a5 38)) ||| (lb a6 39)) (y5 ||| (lb (e10 && (!a4)) 29)) (μ.1 50 23)) := by
                                      generalize he26 : (e24 && (!(decide ((μ.1 58 ((bif decide (su = 1) then (0 : Int32) else bif decide (su = 2) then (9 : Int32) else 18) + 5).toNatClampNeg) < 1)))) = e26
                                      refine z_rcs0 hc hH 7 (pc' := 435) (lv' := [(11, .int 6), (10, .int (nB e26)), (9, .int (bif decide (su = 1) then (0 : Int32) else bif decide (su = 2) then (9 : Int32) else 18)), (8, .int (nB e10)), (6, .int (nB a6)), (5, .int (nB a5)), (4, .int (nB a4)), (3, .int (nB a3)), (2, .int (nB a2)), (1, .int (nB a1)), (7, .int su), (0, .ref 50)]) (st' := [.int (nB e26)]) (by rfl) ?_
                                      have hJ27 : Z 0 473 [(11, .int 6), (10, .int (nB e26)), (9, .int (bif decide (su = 1) then (0 : Int32) else bif decide (su = 2) then (9 : Int32) else 18)), (8, .int (nB e10)), (6, .int (nB a6)), (5, .int (nB a5)), (4, .int (nB a4)), (3, .int (nB a3)), (2, .int (nB a2)), (1, .int (nB a1)), (7, .int su), (0, .ref 50)] [.int (nB (e26 && (!(decide ((μ.1 58 ((bif decide (su = 1) then (0 : Int32) else bif decide (su = 2) then (9 : Int32) else 18) + 6).toNatClampNeg) < 1)))))] (mGP μ ((((μ.2.1 50 24) ||| (lb a3 37)) ||| (lb a5 38)) ||| (lb a6 39)) (y5 ||| (lb (e10 && (!a4)) 29)) (μ.1 50 23)) := by
                                        generalize he28 : (e26 && (!(decide ((μ.1 58 ((bif decide (su = 1) then (0 : Int32) else bif decide (su = 2) then (9 : Int32) else 18) + 6).toNatClampNeg) < 1)))) = e28
                                        refine z_rcs0 hc hH 7 (pc' := 435) (lv' := [(11, .int 7), (10, .int (nB e28)), (9, .int (bif decide (su = 1) then (0 : Int32) else bif decide (su = 2) then (9 : Int32) else 18)), (8, .int (nB e10)), (6, .int (nB a6)), (5, .int (nB a5)), (4, .int (nB a4)), (3, .int (nB a3)), (2, .int (nB a2)), (1, .int (nB a1)), (7, .int su), (0, .ref 50)]) (st' := [.int (nB e28)]) (by rfl) ?_
                                        have hJ29 : Z 0 473 [(11, .int 7), (10, .int (nB e28)), (9, .int (bif decide (su = 1) then (0 : Int32) else bif decide (su = 2) then (9 : Int32) else 18)), (8, .int (nB e10)), (6, .int (nB a6)), (5, .int (nB a5)), (4, .int (nB a4)), (3, .int (nB a3)), (2, .int (nB a2)), (1, .int (nB a1)), (7, .int su), (0, .ref 50)] [.int (nB (e28 && (!(decide ((μ.1 58 ((bif decide (su = 1) then (0 : Int32) else bif decide (su = 2) then (9 : Int32) else 18) + 7).toNatClampNeg) < 1)))))] (mGP μ ((((μ.2.1 50 24) ||| (lb a3 37)) ||| (lb a5 38)) ||| (lb a6 39)) (y5 ||| (lb (e10 && (!a4)) 29)) (μ.1 50 23)) := by
                                          generalize he30 : (e28 && (!(decide ((μ.1 58 ((bif decide (su = 1) then (0 : Int32) else bif decide (su = 2) then (9 : Int32) else 18) + 7).toNatClampNeg) < 1)))) = e30
                                          refine z_rcs0 hc hH 7 (pc' := 435) (lv' := [(11, .int 8), (10, .int (nB e30)), (9, .int (bif decide (su = 1) then (0 : Int32) else bif decide (su = 2) then (9 : Int32) else 18)), (8, .int (nB e10)), (6, .int (nB a6)), (5, .int (nB a5)), (4, .int (nB a4)), (3, .int (nB a3)), (2, .int (nB a2)), (1, .int (nB a1)), (7, .int su), (0, .ref 50)]) (st' := [.int (nB e30)]) (by rfl) ?_
                                          have hJ31 : Z 0 473 [(11, .int 8), (10, .int (nB e30)), (9, .int (bif decide (su = 1) then (0 : Int32) else bif decide (su = 2) then (9 : Int32) else 18)), (8, .int (nB e10)), (6, .int (nB a6)), (5, .int (nB a5)), (4, .int (nB a4)), (3, .int (nB a3)), (2, .int (nB a2)), (1, .int (nB a1)), (7, .int su), (0, .ref 50)] [.int (nB (e30 && (!(decide ((μ.1 58 ((bif decide (su = 1) then (0 : Int32) else bif decide (su = 2) then (9 : Int32) else 18) + 8).toNatClampNeg) < 3)))))] (mGP μ ((((μ.2.1 50 24) ||| (lb a3 37)) ||| (lb a5 38)) ||| (lb a6 39)) (y5 ||| (lb (e10 && (!a4)) 29)) (μ.1 50 23)) := by
                                            generalize he32 : (e30 && (!(decide ((μ.1 58 ((bif decide (su = 1) then (0 : Int32) else bif decide (su = 2) then (9 : Int32) else 18) + 8).toNatClampNeg) < 3)))) = e32
                                            refine z_rcs0 hc hH 7 (pc' := 483) (lv' := [(11, .int 9), (10, .int (nB e32)), (9, .int (bif decide (su = 1) then (0 : Int32) else bif decide (su = 2) then (9 : Int32) else 18)), (8, .int (nB e10)), (6, .int (nB a6)), (5, .int (nB a5)), (4, .int (nB a4)), (3, .int (nB a3)), (2, .int (nB a2)), (1, .int (nB a1)), (7, .int su), (0, .ref 50)]) (st' := [.int (nB e32)]) (by rfl) ?_
                                            refine zq_if hc hH (by rfl) (tg := 500) (by rfl) (fun h33 => ?_) (fun h33 => ?_)
                                            · have h33 : (e32) = false := nB_z.mp (cm_eq9.mp h33)
                                              exact hr 0 500 _ _ _ none (by decide +kernel) (by rfl) (⟨rfl, (by unfold tlG tlP; try rw [hy5]; try rw [he10]; try rw [he16]; try rw [he18]; try rw [he20]; try rw [he22]; try rw [he24]; try rw [he26]; try rw [he28]; try rw [he30]; try rw [he32]; simp only [h11, h12, h13, h33, lb_f, Int64.or_zero, nB_t, nB_f, Bool.not_true, Bool.not_false, Bool.and_true, Bool.true_and, Bool.false_and, Bool.and_false, Bool.or_true, Bool.true_or, Bool.false_or, Bool.or_false, cond_true, cond_false])⟩)
                                            · have h33 : (e32) = true := nB_n.mp (cn_eq.mp h33)
                                              refine z_rcs0 hc hH 4 (pc' := 493) (lv' := [(11, .int 9), (10, .int (nB e32)), (9, .int (bif decide (su = 1) then (0 : Int32) else bif decide (su = 2) then (9 : Int32) else 18)), (8, .int (nB e10)), (6, .int (nB a6)), (5, .int (nB a5)), (4, .int (nB a4)), (3, .int (nB a3)), (2, .int (nB a2)), (1, .int (nB a1)), (7, .int su), (0, .ref 50)]) (st' := [.int 40, .long ((((μ.2.1 50 24) ||| (lb a3 37)) ||| (lb a5 38)) ||| (lb a6 39)), .ref 50]) (by rfl) ?_
                                              refine zq_call hc (z_cx_ok hH (by rfl)) (fb_X7_bit d' (by omega) (mGP μ ((((μ.2.1 50 24) ||| (lb a3 37)) ||| (lb a5 38)) ||| (lb a6 39)) (y5 ||| (lb (e10 && (!a4)) 29)) (μ.1 50 23)) 40) (by decide +kernel) (fun r9 μ9 hq => ?_)
                                              obtain ⟨hμ9, rfl⟩ := hq
                                              rw [hμ9]
                                              clear hμ9 μ9
                                              show Z 0 496 [(11, .int 9), (10, .int (nB e32)), (9, .int (bif decide (su = 1) then (0 : Int32) else bif decide (su = 2) then (9 : Int32) else 18)), (8, .int (nB e10)), (6, .int (nB a6)), (5, .int (nB a5)), (4, .int (nB a4)), (3, .int (nB a3)), (2, .int (nB a2)), (1, .int (nB a1)), (7, .int su), (0, .ref 50)] [.long (lb true 40), .long ((((μ.2.1 50 24) ||| (lb a3 37)) ||| (lb a5 38)) ||| (lb a6 39)), .ref 50] _
                                              refine z_rcs hc hH 2 (pc' := 500) (lv' := [(11, .int 9), (10, .int (nB e32)), (9, .int (bif decide (su = 1) then (0 : Int32) else bif decide (su = 2) then (9 : Int32) else 18)), (8, .int (nB e10)), (6, .int (nB a6)), (5, .int (nB a5)), (4, .int (nB a4)), (3, .int (nB a3)), (2, .int (nB a2)), (1, .int (nB a1)), (7, .int su), (0, .ref 50)]) (st' := []) (μ' := z_uj (mGP μ ((((μ.2.1 50 24) ||| (lb a3 37)) ||| (lb a5 38)) ||| (lb a6 39)) (y5 ||| (lb (e10 && (!a4)) 29)) (μ.1 50 23)) 50 24 (((((μ.2.1 50 24) ||| (lb a3 37)) ||| (lb a5 38)) ||| (lb a6 39)) ||| (lb true 40))) (by rfl) ?_
                                              rw [mGP_g]
                                              exact hr 0 500 _ _ _ none (by decide +kernel) (by rfl) (⟨rfl, (by unfold tlG tlP; try rw [hy5]; try rw [he10]; try rw [he16]; try rw [he18]; try rw [he20]; try rw [he22]; try rw [he24]; try rw [he26]; try rw [he28]; try rw [he30]; try rw [he32]; simp only [h11, h12, h13, h33, lb_f, Int64.or_zero, nB_t, nB_f, Bool.not_true, Bool.not_false, Bool.and_true, Bool.true_and, Bool.false_and, Bool.and_false, Bool.or_true, Bool.true_or, Bool.false_or, Bool.or_false, cond_true, cond_false])⟩)
                                          refine zq_if hc hH (by rfl) (tg := 472) (by rfl) (fun h34 => ?_) (fun h34 => ?_)
                                          · have h34 : (e30) = false := nB_z.mp (cm_eq9.mp h34)
                                            refine z_rcs hc hH 1 (pc' := 473) (lv' := [(11, .int 8), (10, .int (nB e30)), (9, .int (bif decide (su = 1) then (0 : Int32) else bif decide (su = 2) then (9 : Int32) else 18)), (8, .int (nB e10)), (6, .int (nB a6)), (5, .int (nB a5)), (4, .int (nB a4)), (3, .int (nB a3)), (2, .int (nB a2)), (1, .int (nB a1)), (7, .int su), (0, .ref 50)]) (st' := [.int 0]) (μ' := mGP μ ((((μ.2.1 50 24) ||| (lb a3 37)) ||| (lb a5 38)) ||| (lb a6 39)) (y5 ||| (lb (e10 && (!a4)) 29)) (μ.1 50 23)) (by rfl) ?_
                                            exact zJ hJ31 rfl (by simp only [h34, lb_f, Int64.or_zero, nB_t, nB_f, Bool.not_true, Bool.not_false, Bool.and_true, Bool.true_and, Bool.false_and, Bool.and_false, Bool.or_true, Bool.true_or, Bool.false_or, Bool.or_false, cond_true, cond_false]) rfl
                                          · have h34 : (e30) = true := nB_n.mp (cn_eq.mp h34)
                                            refine z_rcs0 hc hH 5 (pc' := 447) (lv' := [(11, .int 8), (10, .int (nB e30)), (9, .int (bif decide (su = 1) then (0 : Int32) else bif decide (su = 2) then (9 : Int32) else 18)), (8, .int (nB e10)), (6, .int (nB a6)), (5, .int (nB a5)), (4, .int (nB a4)), (3, .int (nB a3)), (2, .int (nB a2)), (1, .int (nB a1)), (7, .int su), (0, .ref 50)]) (st' := [.int ((bif decide (su = 1) then (0 : Int32) else bif decide (su = 2) then (9 : Int32) else 18) + 8), .ref 58]) (by rfl) ?_
                                            refine zq_iald hc hH (by rfl) 34 (by decide +kernel) (show vp_in (_ + nI 8) 34 from ng_in 8 (by decide)) ?_
                                            refine z_rcs0 hc hH 7 (pc' := 465) (lv' := [(11, .int 8), (10, .int (nB e30)), (9, .int (bif decide (su = 1) then (0 : Int32) else bif decide (su = 2) then (9 : Int32) else 18)), (8, .int (nB e10)), (6, .int (nB a6)), (5, .int (nB a5)), (4, .int (nB a4)), (3, .int (nB a3)), (2, .int (nB a2)), (1, .int (nB a1)), (7, .int su), (0, .ref 50)]) (st' := [.int 3, .int (μ.1 58 ((bif decide (su = 1) then (0 : Int32) else bif decide (su = 2) then (9 : Int32) else 18) + 8).toNatClampNeg)]) (by rfl) ?_
                                            refine zq_ic hc hH (by rfl) (tg := 472) (by rfl) (fun h35 => ?_) (fun h35 => ?_)
                                            · have h35 : (decide ((μ.1 58 ((bif decide (su = 1) then (0 : Int32) else bif decide (su = 2) then (9 : Int32) else 18) + 8).toNatClampNeg) < 3)) = true := decide_eq_true (cm_lt.mp h35)
                                              refine z_rcs0 hc hH 1 (pc' := 473) (lv' := [(11, .int 8), (10, .int (nB e30)), (9, .int (bif decide (su = 1) then (0 : Int32) else bif decide (su = 2) then (9 : Int32) else 18)), (8, .int (nB e10)), (6, .int (nB a6)), (5, .int (nB a5)), (4, .int (nB a4)), (3, .int (nB a3)), (2, .int (nB a2)), (1, .int (nB a1)), (7, .int su), (0, .ref 50)]) (st' := [.int 0]) (by rfl) ?_
                                              exact zJ hJ31 rfl (by simp only [h34, h35, lb_f, Int64.or_zero, nB_t, nB_f, Bool.not_true, Bool.not_false, Bool.and_true, Bool.true_and, Bool.false_and, Bool.and_false, Bool.or_true, Bool.true_or, Bool.false_or, Bool.or_false, cond_true, cond_false]) rfl
                                            · have h35 : (decide ((μ.1 58 ((bif decide (su = 1) then (0 : Int32) else bif decide (su = 2) then (9 : Int32) else 18) + 8).toNatClampNeg) < 3)) = false := decide_eq_false (cn_lt.mp h35)
                                              refine z_rcs0 hc hH 2 (pc' := 473) (lv' := [(11, .int 8), (10, .int (nB e30)), (9, .int (bif decide (su = 1) then (0 : Int32) else bif decide (su = 2) then (9 : Int32) else 18)), (8, .int (nB e10)), (6, .int (nB a6)), (5, .int (nB a5)), (4, .int (nB a4)), (3, .int (nB a3)), (2, .int (nB a2)), (1, .int (nB a1)), (7, .int su), (0, .ref 50)]) (st' := [.int 1]) (by rfl) ?_
                                              exact zJ hJ31 rfl (by simp only [h34, h35, lb_f, Int64.or_zero, nB_t, nB_f, Bool.not_true, Bool.not_false, Bool.and_true, Bool.true_and, Bool.false_and, Bool.and_false, Bool.or_true, Bool.true_or, Bool.false_or, Bool.or_false, cond_true, cond_false]) rfl
                                        refine zq_if hc hH (by rfl) (tg := 472) (by rfl) (fun h36 => ?_) (fun h36 => ?_)
                                        · have h36 : (e28) = false := nB_z.mp (cm_eq9.mp h36)
                                          refine z_rcs0 hc hH 1 (pc' := 473) (lv' := [(11, .int 7), (10, .int (nB e28)), (9, .int (bif decide (su = 1) then (0 : Int32) else bif decide (su = 2) then (9 : Int32) else 18)), (8, .int (nB e10)), (6, .int (nB a6)), (5, .int (nB a5)), (4, .int (nB a4)), (3, .int (nB a3)), (2, .int (nB a2)), (1, .int (nB a1)), (7, .int su), (0, .ref 50)]) (st' := [.int 0]) (by rfl) ?_
                                          exact zJ hJ29 rfl (by simp only [h36, lb_f, Int64.or_zero, nB_t, nB_f, Bool.not_true, Bool.not_false, Bool.and_true, Bool.true_and, Bool.false_and, Bool.and_false, Bool.or_true, Bool.true_or, Bool.false_or, Bool.or_false, cond_true, cond_false]) rfl
                                        · have h36 : (e28) = true := nB_n.mp (cn_eq.mp h36)
                                          refine z_rcs0 hc hH 5 (pc' := 447) (lv' := [(11, .int 7), (10, .int (nB e28)), (9, .int (bif decide (su = 1) then (0 : Int32) else bif decide (su = 2) then (9 : Int32) else 18)), (8, .int (nB e10)), (6, .int (nB a6)), (5, .int (nB a5)), (4, .int (nB a4)), (3, .int (nB a3)), (2, .int (nB a2)), (1, .int (nB a1)), (7, .int su), (0, .ref 50)]) (st' := [.int ((bif decide (su = 1) then (0 : Int32) else bif decide (su = 2) then (9 : Int32) else 18) + 7), .ref 58]) (by rfl) ?_
                                          refine zq_iald hc hH (by rfl) 34 (by decide +kernel) (show vp_in (_ + nI 7) 34 from ng_in 7 (by decide)) ?_
                                          refine z_rcs0 hc hH 6 (pc' := 465) (lv' := [(11, .int 7), (10, .int (nB e28)), (9, .int (bif decide (su = 1) then (0 : Int32) else bif decide (su = 2) then (9 : Int32) else 18)), (8, .int (nB e10)), (6, .int (nB a6)), (5, .int (nB a5)), (4, .int (nB a4)), (3, .int (nB a3)), (2, .int (nB a2)), (1, .int (nB a1)), (7, .int su), (0, .ref 50)]) (st' := [.int 1, .int (μ.1 58 ((bif decide (su = 1) then (0 : Int32) else bif decide (su = 2) then (9 : Int32) else 18) + 7).toNatClampNeg)]) (by rfl) ?_
                                          refine zq_ic hc hH (by rfl) (tg := 472) (by rfl) (fun h37 => ?_) (fun h37 => ?_)
                                          · have h37 : (decide ((μ.1 58 ((bif decide (su = 1) then (0 : Int32) else bif decide (su = 2) then (9 : Int32) else 18) + 7).toNatClampNeg) < 1)) = true := decide_eq_true (cm_lt.mp h37)
                                            refine z_rcs0 hc hH 1 (pc' := 473) (lv' := [(11, .int 7), (10, .int (nB e28)), (9, .int (bif decide (su = 1) then (0 : Int32) else bif decide (su = 2) then (9 : Int32) else 18)), (8, .int (nB e10)), (6, .int (nB a6)), (5, .int (nB a5)), (4, .int (nB a4)), (3, .int (nB a3)), (2, .int (nB a2)), (1, .int (nB a1)), (7, .int su), (0, .ref 50)]) (st' := [.int 0]) (by rfl) ?_
                                            exact zJ hJ29 rfl (by simp only [h36, h37, lb_f, Int64.or_zero, nB_t, nB_f, Bool.not_true, Bool.not_false, Bool.and_true, Bool.true_and, Bool.false_and, Bool.and_false, Bool.or_true, Bool.true_or, Bool.false_or, Bool.or_false, cond_true, cond_false]) rfl
                                          · have h37 : (decide ((μ.1 58 ((bif decide (su = 1) then (0 : Int32) else bif decide (su = 2) then (9 : Int32) else 18) + 7).toNatClampNeg) < 1)) = false := decide_eq_false (cn_lt.mp h37)
                                            refine z_rcs0 hc hH 2 (pc' := 473) (lv' := [(11, .int 7), (10, .int (nB e28)), (9, .int (bif decide (su = 1) then (0 : Int32) else bif decide (su = 2) then (9 : Int32) else 18)), (8, .int (nB e10)), (6, .int (nB a6)), (5, .int (nB a5)), (4, .int (nB a4)), (3, .int (nB a3)), (2, .int (nB a2)), (1, .int (nB a1)), (7, .int su), (0, .ref 50)]) (st' := [.int 1]) (by rfl) ?_
                                            exact zJ hJ29 rfl (by simp only [h36, h37, lb_f, Int64.or_zero, nB_t, nB_f, Bool.not_true, Bool.not_false, Bool.and_true, Bool.true_and, Bool.false_and, Bool.and_false, Bool.or_true, Bool.true_or, Bool.false_or, Bool.or_false, cond_true, cond_false]) rfl
                                      refine zq_if hc hH (by rfl) (tg := 472) (by rfl) (fun h38 => ?_) (fun h38 => ?_)
                                      · have h38 : (e26) = false := nB_z.mp (cm_eq9.mp h38)
                                        refine z_rcs0 hc hH 1 (pc' := 473) (lv' := [(11, .int 6), (10, .int (nB e26)), (9, .int (bif decide (su = 1) then (0 : Int32) else bif decide (su = 2) then (9 : Int32) else 18)), (8, .int (nB e10)), (6, .int (nB a6)), (5, .int (nB a5)), (4, .int (nB a4)), (3, .int (nB a3)), (2, .int (nB a2)), (1, .int (nB a1)), (7, .int su), (0, .ref 50)]) (st' := [.int 0]) (by rfl) ?_
                                        exact zJ hJ27 rfl (by simp only [h38, lb_f, Int64.or_zero, nB_t, nB_f, Bool.not_true, Bool.not_false, Bool.and_true, Bool.true_and, Bool.false_and, Bool.and_false, Bool.or_true, Bool.true_or, Bool.false_or, Bool.or_false, cond_true, cond_false]) rfl
                                      · have h38 : (e26) = true := nB_n.mp (cn_eq.mp h38)
                                        refine z_rcs0 hc hH 5 (pc' := 447) (lv' := [(11, .int 6), (10, .int (nB e26)), (9, .int (bif decide (su = 1) then (0 : Int32) else bif decide (su = 2) then (9 : Int32) else 18)), (8, .int (nB e10)), (6, .int (nB a6)), (5, .int (nB a5)), (4, .int (nB a4)), (3, .int (nB a3)), (2, .int (nB a2)), (1, .int (nB a1)), (7, .int su), (0, .ref 50)]) (st' := [.int ((bif decide (su = 1) then (0 : Int32) else bif decide (su = 2) then (9 : Int32) else 18) + 6), .ref 58]) (by rfl) ?_
                                        refine zq_iald hc hH (by rfl) 34 (by decide +kernel) (show vp_in (_ + nI 6) 34 from ng_in 6 (by decide)) ?_
                                        refine z_rcs0 hc hH 6 (pc' := 465) (lv' := [(11, .int 6), (10, .int (nB e26)), (9, .int (bif decide (su = 1) then (0 : Int32) else bif decide (su = 2) then (9 : Int32) else 18)), (8, .int (nB e10)), (6, .int (nB a6)), (5, .int (nB a5)), (4, .int (nB a4)), (3, .int (nB a3)), (2, .int (nB a2)), (1, .int (nB a1)), (7, .int su), (0, .ref 50)]) (st' := [.int 1, .int (μ.1 58 ((bif decide (su = 1) then (0 : Int32) else bif decide (su = 2) then (9 : Int32) else 18) + 6).toNatClampNeg)]) (by rfl) ?_
                                        refine zq_ic hc hH (by rfl) (tg := 472) (by rfl) (fun h39 => ?_) (fun h39 => ?_)
                                        · have h39 : (decide ((μ.1 58 ((bif decide (su = 1) then (0 : Int32) else bif decide (su = 2) then (9 : Int32) else 18) + 6).toNatClampNeg) < 1)) = true := decide_eq_true (cm_lt.mp h39)
                                          refine z_rcs0 hc hH 1 (pc' := 473) (lv' := [(11, .int 6), (10, .int (nB e26)), (9, .int (bif decide (su = 1) then (0 : Int32) else bif decide (su = 2) then (9 : Int32) else 18)), (8, .int (nB e10)), (6, .int (nB a6)), (5, .int (nB a5)), (4, .int (nB a4)), (3, .int (nB a3)), (2, .int (nB a2)), (1, .int (nB a1)), (7, .int su), (0, .ref 50)]) (st' := [.int 0]) (by rfl) ?_
                                          exact zJ hJ27 rfl (by simp only [h38, h39, lb_f, Int64.or_zero, nB_t, nB_f, Bool.not_true, Bool.not_false, Bool.and_true, Bool.true_and, Bool.false_and, Bool.and_false, Bool.or_true, Bool.true_or, Bool.false_or, Bool.or_false, cond_true, cond_false]) rfl
                                        · have h39 : (decide ((μ.1 58 ((bif decide (su = 1) then (0 : Int32) else bif decide (su = 2) then (9 : Int32) else 18) + 6).toNatClampNeg) < 1)) = false := decide_eq_false (cn_lt.mp h39)
                                          refine z_rcs0 hc hH 2 (pc' := 473) (lv' := [(11, .int 6), (10, .int (nB e26)), (9, .int (bif decide (su = 1) then (0 : Int32) else bif decide (su = 2) then (9 : Int32) else 18)), (8, .int (nB e10)), (6, .int (nB a6)), (5, .int (nB a5)), (4, .int (nB a4)), (3, .int (nB a3)), (2, .int (nB a2)), (1, .int (nB a1)), (7, .int su), (0, .ref 50)]) (st' := [.int 1]) (by rfl) ?_
                                          exact zJ hJ27 rfl (by simp only [h38, h39, lb_f, Int64.or_zero, nB_t, nB_f, Bool.not_true, Bool.not_false, Bool.and_true, Bool.true_and, Bool.false_and, Bool.and_false, Bool.or_true, Bool.true_or, Bool.false_or, Bool.or_false, cond_true, cond_false]) rfl
                                    refine zq_if hc hH (by rfl) (tg := 472) (by rfl) (fun h40 => ?_) (fun h40 => ?_)
                                    · have h40 : (e24) = false := nB_z.mp (cm_eq9.mp h40)
                                      refine z_rcs0 hc hH 1 (pc' := 473) (lv' := [(11, .int 5), (10, .int (nB e24)), (9, .int (bif decide (su = 1) then (0 : Int32) else bif decide (su = 2) then (9 : Int32) else 18)), (8, .int (nB e10)), (6, .int (nB a6)), (5, .int (nB a5)), (4, .int (nB a4)), (3, .int (nB a3)), (2, .int (nB a2)), (1, .int (nB a1)), (7, .int su), (0, .ref 50)]) (st' := [.int 0]) (by rfl) ?_
                                      exact zJ hJ25 rfl (by simp only [h40, lb_f, Int64.or_zero, nB_t, nB_f, Bool.not_true, Bool.not_false, Bool.and_true, Bool.true_and, Bool.false_and, Bool.and_false, Bool.or_true, Bool.true_or, Bool.false_or, Bool.or_false, cond_true, cond_false]) rfl
                                    · have h40 : (e24) = true := nB_n.mp (cn_eq.mp h40)
                                      refine z_rcs0 hc hH 5 (pc' := 447) (lv' := [(11, .int 5), (10, .int (nB e24)), (9, .int (bif decide (su = 1) then (0 : Int32) else bif decide (su = 2) then (9 : Int32) else 18)), (8, .int (nB e10)), (6, .int (nB a6)), (5, .int (nB a5)), (4, .int (nB a4)), (3, .int (nB a3)), (2, .int (nB a2)), (1, .int (nB a1)), (7, .int su), (0, .ref 50)]) (st' := [.int ((bif decide (su = 1) then (0 : Int32) else bif decide (su = 2) then (9 : Int32) else 18) + 5), .ref 58]) (by rfl) ?_
                                      refine zq_iald hc hH (by rfl) 34 (by decide +kernel) (show vp_in (_ + nI 5) 34 from ng_in 5 (by decide)) ?_
                                      refine z_rcs0 hc hH 6 (pc' := 465) (lv' := [(11, .int 5), (10, .int (nB e24)), (9, .int (bif decide (su = 1) then (0 : Int32) else bif decide (su = 2) then (9 : Int32) else 18)), (8, .int (nB e10)), (6, .int (nB a6)), (5, .int (nB a5)), (4, .int (nB a4)), (3, .int (nB a3)), (2, .int (nB a2)), (1, .int (nB a1)), (7, .int su), (0, .ref 50)]) (st' := [.int 1, .int (μ.1 58 ((bif decide (su = 1) then (0 : Int32) else bif decide (su = 2) then (9 : Int32) else 18) + 5).toNatClampNeg)]) (by rfl) ?_
                                      refine zq_ic hc hH (by rfl) (tg := 472) (by rfl) (fun h41 => ?_) (fun h41 => ?_)
                                      · have h41 : (decide ((μ.1 58 ((bif decide (su = 1) then (0 : Int32) else bif decide (su = 2) then (9 : Int32) else 18) + 5).toNatClampNeg) < 1)) = true := decide_eq_true (cm_lt.mp h41)
                                        refine z_rcs0 hc hH 1 (pc' := 473) (lv' := [(11, .int 5), (10, .int (nB e24)), (9, .int (bif decide (su = 1) then (0 : Int32) else bif decide (su = 2) then (9 : Int32) else 18)), (8, .int (nB e10)), (6, .int (nB a6)), (5, .int (nB a5)), (4, .int (nB a4)), (3, .int (nB a3)), (2, .int (nB a2)), (1, .int (nB a1)), (7, .int su), (0, .ref 50)]) (st' := [.int 0]) (by rfl) ?_
                                        exact zJ hJ25 rfl (by simp only [h40, h41, lb_f, Int64.or_zero, nB_t, nB_f, Bool.not_true, Bool.not_false, Bool.and_true, Bool.true_and, Bool.false_and, Bool.and_false, Bool.or_true, Bool.true_or, Bool.false_or, Bool.or_false, cond_true, cond_false]) rfl
                                      · have h41 : (decide ((μ.1 58 ((bif decide (su = 1) then (0 : Int32) else bif decide (su = 2) then (9 : Int32) else 18) + 5).toNatClampNeg) < 1)) = false := decide_eq_false (cn_lt.mp h41)
                                        refine z_rcs0 hc hH 2 (pc' := 473) (lv' := [(11, .int 5), (10, .int (nB e24)), (9, .int (bif decide (su = 1) then (0 : Int32) else bif decide (su = 2) then (9 : Int32) else 18)), (8, .int (nB e10)), (6, .int (nB a6)), (5, .int (nB a5)), (4, .int (nB a4)), (3, .int (nB a3)), (2, .int (nB a2)), (1, .int (nB a1)), (7, .int su), (0, .ref 50)]) (st' := [.int 1]) (by rfl) ?_
                                        exact zJ hJ25 rfl (by simp only [h40, h41, lb_f, Int64.or_zero, nB_t, nB_f, Bool.not_true, Bool.not_false, Bool.and_true, Bool.true_and, Bool.false_and, Bool.and_false, Bool.or_true, Bool.true_or, Bool.false_or, Bool.or_false, cond_true, cond_false]) rfl
                                  refine zq_if hc hH (by rfl) (tg := 472) (by rfl) (fun h42 => ?_) (fun h42 => ?_)
                                  · have h42 : (e22) = false := nB_z.mp (cm_eq9.mp h42)
                                    refine z_rcs0 hc hH 1 (pc' := 473) (lv' := [(11, .int 4), (10, .int (nB e22)), (9, .int (bif decide (su = 1) then (0 : Int32) else bif decide (su = 2) then (9 : Int32) else 18)), (8, .int (nB e10)), (6, .int (nB a6)), (5, .int (nB a5)), (4, .int (nB a4)), (3, .int (nB a3)), (2, .int (nB a2)), (1, .int (nB a1)), (7, .int su), (0, .ref 50)]) (st' := [.int 0]) (by rfl) ?_
                                    exact zJ hJ23 rfl (by simp only [h42, lb_f, Int64.or_zero, nB_t, nB_f, Bool.not_true, Bool.not_false, Bool.and_true, Bool.true_and, Bool.false_and, Bool.and_false, Bool.or_true, Bool.true_or, Bool.false_or, Bool.or_false, cond_true, cond_false]) rfl
                                  · have h42 : (e22) = true := nB_n.mp (cn_eq.mp h42)
                                    refine z_rcs0 hc hH 5 (pc' := 447) (lv' := [(11, .int 4), (10, .int (nB e22)), (9, .int (bif decide (su = 1) then (0 : Int32) else bif decide (su = 2) then (9 : Int32) else 18)), (8, .int (nB e10)), (6, .int (nB a6)), (5, .int (nB a5)), (4, .int (nB a4)), (3, .int (nB a3)), (2, .int (nB a2)), (1, .int (nB a1)), (7, .int su), (0, .ref 50)]) (st' := [.int ((bif decide (su = 1) then (0 : Int32) else bif decide (su = 2) then (9 : Int32) else 18) + 4), .ref 58]) (by rfl) ?_
                                    refine zq_iald hc hH (by rfl) 34 (by decide +kernel) (show vp_in (_ + nI 4) 34 from ng_in 4 (by decide)) ?_
                                    refine z_rcs0 hc hH 6 (pc' := 465) (lv' := [(11, .int 4), (10, .int (nB e22)), (9, .int (bif decide (su = 1) then (0 : Int32) else bif decide (su = 2) then (9 : Int32) else 18)), (8, .int (nB e10)), (6, .int (nB a6)), (5, .int (nB a5)), (4, .int (nB a4)), (3, .int (nB a3)), (2, .int (nB a2)), (1, .int (nB a1)), (7, .int su), (0, .ref 50)]) (st' := [.int 1, .int (μ.1 58 ((bif decide (su = 1) then (0 : Int32) else bif decide (su = 2) then (9 : Int32) else 18) + 4).toNatClampNeg)]) (by rfl) ?_
                                    refine zq_ic hc hH (by rfl) (tg := 472) (by rfl) (fun h43 => ?_) (fun h43 => ?_)
                                    · have h43 : (decide ((μ.1 58 ((bif decide (su = 1) then (0 : Int32) else bif decide (su = 2) then (9 : Int32) else 18) + 4).toNatClampNeg) < 1)) = true := decide_eq_true (cm_lt.mp h43)
                                      refine z_rcs0 hc hH 1 (pc' := 473) (lv' := [(11, .int 4), (10, .int (nB e22)), (9, .int (bif decide (su = 1) then (0 : Int32) else bif decide (su = 2) then (9 : Int32) else 18)), (8, .int (nB e10)), (6, .int (nB a6)), (5, .int (nB a5)), (4, .int (nB a4)), (3, .int (nB a3)), (2, .int (nB a2)), (1, .int (nB a1)), (7, .int su), (0, .ref 50)]) (st' := [.int 0]) (by rfl) ?_
                                      exact zJ hJ23 rfl (by simp only [h42, h43, lb_f, Int64.or_zero, nB_t, nB_f, Bool.not_true, Bool.not_false, Bool.and_true, Bool.true_and, Bool.false_and, Bool.and_false, Bool.or_true, Bool.true_or, Bool.false_or, Bool.or_false, cond_true, cond_false]) rfl
                                    · have h43 : (decide ((μ.1 58 ((bif decide (su = 1) then (0 : Int32) else bif decide (su = 2) then (9 : Int32) else 18) + 4).toNatClampNeg) < 1)) = false := decide_eq_false (cn_lt.mp h43)
                                      refine z_rcs0 hc hH 2 (pc' := 473) (lv' := [(11, .int 4), (10, .int (nB e22)), (9, .int (bif decide (su = 1) then (0 : Int32) else bif decide (su = 2) then (9 : Int32) else 18)), (8, .int (nB e10)), (6, .int (nB a6)), (5, .int (nB a5)), (4, .int (nB a4)), (3, .int (nB a3)), (2, .int (nB a2)), (1, .int (nB a1)), (7, .int su), (0, .ref 50)]) (st' := [.int 1]) (by rfl) ?_
                                      exact zJ hJ23 rfl (by simp only [h42, h43, lb_f, Int64.or_zero, nB_t, nB_f, Bool.not_true, Bool.not_false, Bool.and_true, Bool.true_and, Bool.false_and, Bool.and_false, Bool.or_true, Bool.true_or, Bool.false_or, Bool.or_false, cond_true, cond_false]) rfl
                                refine zq_if hc hH (by rfl) (tg := 472) (by rfl) (fun h44 => ?_) (fun h44 => ?_)
                                · have h44 : (e20) = false := nB_z.mp (cm_eq9.mp h44)
                                  refine z_rcs0 hc hH 1 (pc' := 473) (lv' := [(11, .int 3), (10, .int (nB e20)), (9, .int (bif decide (su = 1) then (0 : Int32) else bif decide (su = 2) then (9 : Int32) else 18)), (8, .int (nB e10)), (6, .int (nB a6)), (5, .int (nB a5)), (4, .int (nB a4)), (3, .int (nB a3)), (2, .int (nB a2)), (1, .int (nB a1)), (7, .int su), (0, .ref 50)]) (st' := [.int 0]) (by rfl) ?_
                                  exact zJ hJ21 rfl (by simp only [h44, lb_f, Int64.or_zero, nB_t, nB_f, Bool.not_true, Bool.not_false, Bool.and_true, Bool.true_and, Bool.false_and, Bool.and_false, Bool.or_true, Bool.true_or, Bool.false_or, Bool.or_false, cond_true, cond_false]) rfl
                                · have h44 : (e20) = true := nB_n.mp (cn_eq.mp h44)
                                  refine z_rcs0 hc hH 5 (pc' := 447) (lv' := [(11, .int 3), (10, .int (nB e20)), (9, .int (bif decide (su = 1) then (0 : Int32) else bif decide (su = 2) then (9 : Int32) else 18)), (8, .int (nB e10)), (6, .int (nB a6)), (5, .int (nB a5)), (4, .int (nB a4)), (3, .int (nB a3)), (2, .int (nB a2)), (1, .int (nB a1)), (7, .int su), (0, .ref 50)]) (st' := [.int ((bif decide (su = 1) then (0 : Int32) else bif decide (su = 2) then (9 : Int32) else 18) + 3), .ref 58]) (by rfl) ?_
                                  refine zq_iald hc hH (by rfl) 34 (by decide +kernel) (show vp_in (_ + nI 3) 34 from ng_in 3 (by decide)) ?_
                                  refine z_rcs0 hc hH 6 (pc' := 465) (lv' := [(11, .int 3), (10, .int (nB e20)), (9, .int (bif decide (su = 1) then (0 : Int32) else bif decide (su = 2) then (9 : Int32) else 18)), (8, .int (nB e10)), (6, .int (nB a6)), (5, .int (nB a5)), (4, .int (nB a4)), (3, .int (nB a3)), (2, .int (nB a2)), (1, .int (nB a1)), (7, .int su), (0, .ref 50)]) (st' := [.int 1, .int (μ.1 58 ((bif decide (su = 1) then (0 : Int32) else bif decide (su = 2) then (9 : Int32) else 18) + 3).toNatClampNeg)]) (by rfl) ?_
                                  refine zq_ic hc hH (by rfl) (tg := 472) (by rfl) (fun h45 => ?_) (fun h45 => ?_)
                                  · have h45 : (decide ((μ.1 58 ((bif decide (su = 1) then (0 : Int32) else bif decide (su = 2) then (9 : Int32) else 18) + 3).toNatClampNeg) < 1)) = true := decide_eq_true (cm_lt.mp h45)
                                    refine z_rcs0 hc hH 1 (pc' := 473) (lv' := [(11, .int 3), (10, .int (nB e20)), (9, .int (bif decide (su = 1) then (0 : Int32) else bif decide (su = 2) then (9 : Int32) else 18)), (8, .int (nB e10)), (6, .int (nB a6)), (5, .int (nB a5)), (4, .int (nB a4)), (3, .int (nB a3)), (2, .int (nB a2)), (1, .int (nB a1)), (7, .int su), (0, .ref 50)]) (st' := [.int 0]) (by rfl) ?_
                                    exact zJ hJ21 rfl (by simp only [h44, h45, lb_f, Int64.or_zero, nB_t, nB_f, Bool.not_true, Bool.not_false, Bool.and_true, Bool.true_and, Bool.false_and, Bool.and_false, Bool.or_true, Bool.true_or, Bool.false_or, Bool.or_false, cond_true, cond_false]) rfl
                                  · have h45 : (decide ((μ.1 58 ((bif decide (su = 1) then (0 : Int32) else bif decide (su = 2) then (9 : Int32) else 18) + 3).toNatClampNeg) < 1)) = false := decide_eq_false (cn_lt.mp h45)
                                    refine z_rcs0 hc hH 2 (pc' := 473) (lv' := [(11, .int 3), (10, .int (nB e20)), (9, .int (bif decide (su = 1) then (0 : Int32) else bif decide (su = 2) then (9 : Int32) else 18)), (8, .int (nB e10)), (6, .int (nB a6)), (5, .int (nB a5)), (4, .int (nB a4)), (3, .int (nB a3)), (2, .int (nB a2)), (1, .int (nB a1)), (7, .int su), (0, .ref 50)]) (st' := [.int 1]) (by rfl) ?_
                                    exact zJ hJ21 rfl (by simp only [h44, h45, lb_f, Int64.or_zero, nB_t, nB_f, Bool.not_true, Bool.not_false, Bool.and_true, Bool.true_and, Bool.false_and, Bool.and_false, Bool.or_true, Bool.true_or, Bool.false_or, Bool.or_false, cond_true, cond_false]) rfl
                              refine zq_if hc hH (by rfl) (tg := 472) (by rfl) (fun h46 => ?_) (fun h46 => ?_)
                              · have h46 : (e18) = false := nB_z.mp (cm_eq9.mp h46)
                                refine z_rcs0 hc hH 1 (pc' := 473) (lv' := [(11, .int 2), (10, .int (nB e18)), (9, .int (bif decide (su = 1) then (0 : Int32) else bif decide (su = 2) then (9 : Int32) else 18)), (8, .int (nB e10)), (6, .int (nB a6)), (5, .int (nB a5)), (4, .int (nB a4)), (3, .int (nB a3)), (2, .int (nB a2)), (1, .int (nB a1)), (7, .int su), (0, .ref 50)]) (st' := [.int 0]) (by rfl) ?_
                                exact zJ hJ19 rfl (by simp only [h46, lb_f, Int64.or_zero, nB_t, nB_f, Bool.not_true, Bool.not_false, Bool.and_true, Bool.true_and, Bool.false_and, Bool.and_false, Bool.or_true, Bool.true_or, Bool.false_or, Bool.or_false, cond_true, cond_false]) rfl
                              · have h46 : (e18) = true := nB_n.mp (cn_eq.mp h46)
                                refine z_rcs0 hc hH 5 (pc' := 447) (lv' := [(11, .int 2), (10, .int (nB e18)), (9, .int (bif decide (su = 1) then (0 : Int32) else bif decide (su = 2) then (9 : Int32) else 18)), (8, .int (nB e10)), (6, .int (nB a6)), (5, .int (nB a5)), (4, .int (nB a4)), (3, .int (nB a3)), (2, .int (nB a2)), (1, .int (nB a1)), (7, .int su), (0, .ref 50)]) (st' := [.int ((bif decide (su = 1) then (0 : Int32) else bif decide (su = 2) then (9 : Int32) else 18) + 2), .ref 58]) (by rfl) ?_
                                refine zq_iald hc hH (by rfl) 34 (by decide +kernel) (show vp_in (_ + nI 2) 34 from ng_in 2 (by decide)) ?_
                                refine z_rcs0 hc hH 6 (pc' := 465) (lv' := [(11, .int 2), (10, .int (nB e18)), (9, .int (bif decide (su = 1) then (0 : Int32) else bif decide (su = 2) then (9 : Int32) else 18)), (8, .int (nB e10)), (6, .int (nB a6)), (5, .int (nB a5)), (4, .int (nB a4)), (3, .int (nB a3)), (2, .int (nB a2)), (1, .int (nB a1)), (7, .int su), (0, .ref 50)]) (st' := [.int 1, .int (μ.1 58 ((bif decide (su = 1) then (0 : Int32) else bif decide (su = 2) then (9 : Int32) else 18) + 2).toNatClampNeg)]) (by rfl) ?_
                                refine zq_ic hc hH (by rfl) (tg := 472) (by rfl) (fun h47 => ?_) (fun h47 => ?_)
                                · have h47 : (decide ((μ.1 58 ((bif decide (su = 1) then (0 : Int32) else bif decide (su = 2) then (9 : Int32) else 18) + 2).toNatClampNeg) < 1)) = true := decide_eq_true (cm_lt.mp h47)
                                  refine z_rcs0 hc hH 1 (pc' := 473) (lv' := [(11, .int 2), (10, .int (nB e18)), (9, .int (bif decide (su = 1) then (0 : Int32) else bif decide (su = 2) then (9 : Int32) else 18)), (8, .int (nB e10)), (6, .int (nB a6)), (5, .int (nB a5)), (4, .int (nB a4)), (3, .int (nB a3)), (2, .int (nB a2)), (1, .int (nB a1)), (7, .int su), (0, .ref 50)]) (st' := [.int 0]) (by rfl) ?_
                                  exact zJ hJ19 rfl (by simp only [h46, h47, lb_f, Int64.or_zero, nB_t, nB_f, Bool.not_true, Bool.not_false, Bool.and_true, Bool.true_and, Bool.false_and, Bool.and_false, Bool.or_true, Bool.true_or, Bool.false_or, Bool.or_false, cond_true, cond_false]) rfl
                                · have h47 : (decide ((μ.1 58 ((bif decide (su = 1) then (0 : Int32) else bif decide (su = 2) then (9 : Int32) else 18) + 2).toNatClampNeg) < 1)) = false := decide_eq_false (cn_lt.mp h47)
                                  refine z_rcs0 hc hH 2 (pc' := 473) (lv' := [(11, .int 2), (10, .int (nB e18)), (9, .int (bif decide (su = 1) then (0 : Int32) else bif decide (su = 2) then (9 : Int32) else 18)), (8, .int (nB e10)), (6, .int (nB a6)), (5, .int (nB a5)), (4, .int (nB a4)), (3, .int (nB a3)), (2, .int (nB a2)), (1, .int (nB a1)), (7, .int su), (0, .ref 50)]) (st' := [.int 1]) (by rfl) ?_
                                  exact zJ hJ19 rfl (by simp only [h46, h47, lb_f, Int64.or_zero, nB_t, nB_f, Bool.not_true, Bool.not_false, Bool.and_true, Bool.true_and, Bool.false_and, Bool.and_false, Bool.or_true, Bool.true_or, Bool.false_or, Bool.or_false, cond_true, cond_false]) rfl
                            refine zq_if hc hH (by rfl) (tg := 472) (by rfl) (fun h48 => ?_) (fun h48 => ?_)
                            · have h48 : (e16) = false := nB_z.mp (cm_eq9.mp h48)
                              refine z_rcs0 hc hH 1 (pc' := 473) (lv' := [(11, .int 1), (10, .int (nB e16)), (9, .int (bif decide (su = 1) then (0 : Int32) else bif decide (su = 2) then (9 : Int32) else 18)), (8, .int (nB e10)), (6, .int (nB a6)), (5, .int (nB a5)), (4, .int (nB a4)), (3, .int (nB a3)), (2, .int (nB a2)), (1, .int (nB a1)), (7, .int su), (0, .ref 50)]) (st' := [.int 0]) (by rfl) ?_
                              exact zJ hJ17 rfl (by simp only [h48, lb_f, Int64.or_zero, nB_t, nB_f, Bool.not_true, Bool.not_false, Bool.and_true, Bool.true_and, Bool.false_and, Bool.and_false, Bool.or_true, Bool.true_or, Bool.false_or, Bool.or_false, cond_true, cond_false]) rfl
                            · have h48 : (e16) = true := nB_n.mp (cn_eq.mp h48)
                              refine z_rcs0 hc hH 5 (pc' := 447) (lv' := [(11, .int 1), (10, .int (nB e16)), (9, .int (bif decide (su = 1) then (0 : Int32) else bif decide (su = 2) then (9 : Int32) else 18)), (8, .int (nB e10)), (6, .int (nB a6)), (5, .int (nB a5)), (4, .int (nB a4)), (3, .int (nB a3)), (2, .int (nB a2)), (1, .int (nB a1)), (7, .int su), (0, .ref 50)]) (st' := [.int ((bif decide (su = 1) then (0 : Int32) else bif decide (su = 2) then (9 : Int32) else 18) + 1), .ref 58]) (by rfl) ?_
                              refine zq_iald hc hH (by rfl) 34 (by decide +kernel) (show vp_in (_ + nI 1) 34 from ng_in 1 (by decide)) ?_
                              refine z_rcs0 hc hH 6 (pc' := 465) (lv' := [(11, .int 1), (10, .int (nB e16)), (9, .int (bif decide (su = 1) then (0 : Int32) else bif decide (su = 2) then (9 : Int32) else 18)), (8, .int (nB e10)), (6, .int (nB a6)), (5, .int (nB a5)), (4, .int (nB a4)), (3, .int (nB a3)), (2, .int (nB a2)), (1, .int (nB a1)), (7, .int su), (0, .ref 50)]) (st' := [.int 1, .int (μ.1 58 ((bif decide (su = 1) then (0 : Int32) else bif decide (su = 2) then (9 : Int32) else 18) + 1).toNatClampNeg)]) (by rfl) ?_
                              refine zq_ic hc hH (by rfl) (tg := 472) (by rfl) (fun h49 => ?_) (fun h49 => ?_)
                              · have h49 : (decide ((μ.1 58 ((bif decide (su = 1) then (0 : Int32) else bif decide (su = 2) then (9 : Int32) else 18) + 1).toNatClampNeg) < 1)) = true := decide_eq_true (cm_lt.mp h49)
                                refine z_rcs0 hc hH 1 (pc' := 473) (lv' := [(11, .int 1), (10, .int (nB e16)), (9, .int (bif decide (su = 1) then (0 : Int32) else bif decide (su = 2) then (9 : Int32) else 18)), (8, .int (nB e10)), (6, .int (nB a6)), (5, .int (nB a5)), (4, .int (nB a4)), (3, .int (nB a3)), (2, .int (nB a2)), (1, .int (nB a1)), (7, .int su), (0, .ref 50)]) (st' := [.int 0]) (by rfl) ?_
                                exact zJ hJ17 rfl (by simp only [h48, h49, lb_f, Int64.or_zero, nB_t, nB_f, Bool.not_true, Bool.not_false, Bool.and_true, Bool.true_and, Bool.false_and, Bool.and_false, Bool.or_true, Bool.true_or, Bool.false_or, Bool.or_false, cond_true, cond_false]) rfl
                              · have h49 : (decide ((μ.1 58 ((bif decide (su = 1) then (0 : Int32) else bif decide (su = 2) then (9 : Int32) else 18) + 1).toNatClampNeg) < 1)) = false := decide_eq_false (cn_lt.mp h49)
                                refine z_rcs0 hc hH 2 (pc' := 473) (lv' := [(11, .int 1), (10, .int (nB e16)), (9, .int (bif decide (su = 1) then (0 : Int32) else bif decide (su = 2) then (9 : Int32) else 18)), (8, .int (nB e10)), (6, .int (nB a6)), (5, .int (nB a5)), (4, .int (nB a4)), (3, .int (nB a3)), (2, .int (nB a2)), (1, .int (nB a1)), (7, .int su), (0, .ref 50)]) (st' := [.int 1]) (by rfl) ?_
                                exact zJ hJ17 rfl (by simp only [h48, h49, lb_f, Int64.or_zero, nB_t, nB_f, Bool.not_true, Bool.not_false, Bool.and_true, Bool.true_and, Bool.false_and, Bool.and_false, Bool.or_true, Bool.true_or, Bool.false_or, Bool.or_false, cond_true, cond_false]) rfl
                          refine zq_ic hc hH (by rfl) (tg := 472) (by rfl) (fun h50 => ?_) (fun h50 => ?_)
                          · have h50 : (decide ((μ.1 58 ((bif decide (su = 1) then (0 : Int32) else bif decide (su = 2) then (9 : Int32) else 18) + 0).toNatClampNeg) < 3)) = true := decide_eq_true (cm_lt.mp h50)
                            refine z_rcs0 hc hH 1 (pc' := 473) (lv' := [(11, .int 0), (10, .int 1), (9, .int (bif decide (su = 1) then (0 : Int32) else bif decide (su = 2) then (9 : Int32) else 18)), (8, .int (nB e10)), (6, .int (nB a6)), (5, .int (nB a5)), (4, .int (nB a4)), (3, .int (nB a3)), (2, .int (nB a2)), (1, .int (nB a1)), (7, .int su), (0, .ref 50)]) (st' := [.int 0]) (by rfl) ?_
                            exact zJ hJ15 rfl (by simp only [h50, lb_f, Int64.or_zero, nB_t, nB_f, Bool.not_true, Bool.not_false, Bool.and_true, Bool.true_and, Bool.false_and, Bool.and_false, Bool.or_true, Bool.true_or, Bool.false_or, Bool.or_false, cond_true, cond_false]) rfl
                          · have h50 : (decide ((μ.1 58 ((bif decide (su = 1) then (0 : Int32) else bif decide (su = 2) then (9 : Int32) else 18) + 0).toNatClampNeg) < 3)) = false := decide_eq_false (cn_lt.mp h50)
                            refine z_rcs0 hc hH 2 (pc' := 473) (lv' := [(11, .int 0), (10, .int 1), (9, .int (bif decide (su = 1) then (0 : Int32) else bif decide (su = 2) then (9 : Int32) else 18)), (8, .int (nB e10)), (6, .int (nB a6)), (5, .int (nB a5)), (4, .int (nB a4)), (3, .int (nB a3)), (2, .int (nB a2)), (1, .int (nB a1)), (7, .int su), (0, .ref 50)]) (st' := [.int 1]) (by rfl) ?_
                            exact zJ hJ15 rfl (by simp only [h50, lb_f, Int64.or_zero, nB_t, nB_f, Bool.not_true, Bool.not_false, Bool.and_true, Bool.true_and, Bool.false_and, Bool.and_false, Bool.or_true, Bool.true_or, Bool.false_or, Bool.or_false, cond_true, cond_false]) rfl
                        refine zq_ic hc hH (by rfl) (tg := 405) (by rfl) (fun h51 => ?_) (fun h51 => ?_)
                        · have h51 : (decide (su = 1)) = false := decide_eq_false (cm_ne.mp h51)
                          refine z_rcs0 hc hH 2 (pc' := 408) (lv' := [(8, .int (nB e10)), (6, .int (nB a6)), (5, .int (nB a5)), (4, .int (nB a4)), (3, .int (nB a3)), (2, .int (nB a2)), (1, .int (nB a1)), (7, .int su), (0, .ref 50)]) (st' := [.int 2, .int su]) (by rfl) ?_
                          refine zq_ic hc hH (by rfl) (tg := 416) (by rfl) (fun h52 => ?_) (fun h52 => ?_)
                          · have h52 : (decide (su = 2)) = false := decide_eq_false (cm_ne.mp h52)
                            refine z_rcs0 hc hH 1 (pc' := 418) (lv' := [(8, .int (nB e10)), (6, .int (nB a6)), (5, .int (nB a5)), (4, .int (nB a4)), (3, .int (nB a3)), (2, .int (nB a2)), (1, .int (nB a1)), (7, .int su), (0, .ref 50)]) (st' := [.int 18]) (by rfl) ?_
                            exact zJ hJ14 rfl (by simp only [h51, h52, lb_f, Int64.or_zero, nB_t, nB_f, Bool.not_true, Bool.not_false, Bool.and_true, Bool.true_and, Bool.false_and, Bool.and_false, Bool.or_true, Bool.true_or, Bool.false_or, Bool.or_false, cond_true, cond_false]) rfl
                          · have h52 : (decide (su = 2)) = true := decide_eq_true (cn_ne.mp h52)
                            refine z_rcs0 hc hH 2 (pc' := 418) (lv' := [(8, .int (nB e10)), (6, .int (nB a6)), (5, .int (nB a5)), (4, .int (nB a4)), (3, .int (nB a3)), (2, .int (nB a2)), (1, .int (nB a1)), (7, .int su), (0, .ref 50)]) (st' := [.int 9]) (by rfl) ?_
                            exact zJ hJ14 rfl (by simp only [h51, h52, lb_f, Int64.or_zero, nB_t, nB_f, Bool.not_true, Bool.not_false, Bool.and_true, Bool.true_and, Bool.false_and, Bool.and_false, Bool.or_true, Bool.true_or, Bool.false_or, Bool.or_false, cond_true, cond_false]) rfl
                        · have h51 : (decide (su = 1)) = true := decide_eq_true (cn_ne.mp h51)
                          refine z_rcs0 hc hH 2 (pc' := 418) (lv' := [(8, .int (nB e10)), (6, .int (nB a6)), (5, .int (nB a5)), (4, .int (nB a4)), (3, .int (nB a3)), (2, .int (nB a2)), (1, .int (nB a1)), (7, .int su), (0, .ref 50)]) (st' := [.int 0]) (by rfl) ?_
                          exact zJ hJ14 rfl (by simp only [h51, lb_f, Int64.or_zero, nB_t, nB_f, Bool.not_true, Bool.not_false, Bool.and_true, Bool.true_and, Bool.false_and, Bool.and_false, Bool.or_true, Bool.true_or, Bool.false_or, Bool.or_false, cond_true, cond_false]) rfl
                refine zq_if hc hH (by rfl) (tg := 378) (by rfl) (fun h53 => ?_) (fun h53 => ?_)
                · have h53 : (a6) = false := nB_z.mp (cm_eq9.mp h53)
                  exact zJ hJ9 rfl rfl (by simp only [h53, lb_f, Int64.or_zero, nB_t, nB_f, Bool.not_true, Bool.not_false, Bool.and_true, Bool.true_and, Bool.false_and, Bool.and_false, Bool.or_true, Bool.true_or, Bool.false_or, Bool.or_false, cond_true, cond_false])
                · have h53 : (a6) = true := nB_n.mp (cn_eq.mp h53)
                  refine z_rcs hc hH 4 (pc' := 371) (lv' := [(8, .int (nB ((decide (su = 1)) || ((decide (su = 2)) || (decide (su = 4)))))), (6, .int (nB a6)), (5, .int (nB a5)), (4, .int (nB a4)), (3, .int (nB a3)), (2, .int (nB a2)), (1, .int (nB a1)), (7, .int su), (0, .ref 50)]) (st' := [.int 39, .long (((μ.2.1 50 24) ||| (lb a3 37)) ||| (lb a5 38)), .ref 50]) (μ' := mGP μ (((μ.2.1 50 24) ||| (lb a3 37)) ||| (lb a5 38)) (y5 ||| (lb (((decide (su = 1)) || ((decide (su = 2)) || (decide (su = 4)))) && (!a4)) 29)) (μ.1 50 23)) (by rfl) ?_
                  refine zq_call hc (z_cx_ok hH (by rfl)) (fb_X7_bit d' (by omega) (mGP μ (((μ.2.1 50 24) ||| (lb a3 37)) ||| (lb a5 38)) (y5 ||| (lb (((decide (su = 1)) || ((decide (su = 2)) || (decide (su = 4)))) && (!a4)) 29)) (μ.1 50 23)) 39) (by decide +kernel) (fun r9 μ9 hq => ?_)
                  obtain ⟨hμ9, rfl⟩ := hq
                  rw [hμ9]
                  clear hμ9 μ9
                  show Z 0 374 [(8, .int (nB ((decide (su = 1)) || ((decide (su = 2)) || (decide (su = 4)))))), (6, .int (nB a6)), (5, .int (nB a5)), (4, .int (nB a4)), (3, .int (nB a3)), (2, .int (nB a2)), (1, .int (nB a1)), (7, .int su), (0, .ref 50)] [.long (lb true 39), .long (((μ.2.1 50 24) ||| (lb a3 37)) ||| (lb a5 38)), .ref 50] _
                  refine z_rcs hc hH 2 (pc' := 378) (lv' := [(8, .int (nB ((decide (su = 1)) || ((decide (su = 2)) || (decide (su = 4)))))), (6, .int (nB a6)), (5, .int (nB a5)), (4, .int (nB a4)), (3, .int (nB a3)), (2, .int (nB a2)), (1, .int (nB a1)), (7, .int su), (0, .ref 50)]) (st' := []) (μ' := z_uj (mGP μ (((μ.2.1 50 24) ||| (lb a3 37)) ||| (lb a5 38)) (y5 ||| (lb (((decide (su = 1)) || ((decide (su = 2)) || (decide (su = 4)))) && (!a4)) 29)) (μ.1 50 23)) 50 24 ((((μ.2.1 50 24) ||| (lb a3 37)) ||| (lb a5 38)) ||| (lb true 39))) (by rfl) ?_
                  rw [mGP_g]
                  exact zJ hJ9 rfl rfl (by simp only [h53, lb_f, Int64.or_zero, nB_t, nB_f, Bool.not_true, Bool.not_false, Bool.and_true, Bool.true_and, Bool.false_and, Bool.and_false, Bool.or_true, Bool.true_or, Bool.false_or, Bool.or_false, cond_true, cond_false])
              refine zq_if hc hH (by rfl) (tg := 359) (by rfl) (fun h54 => ?_) (fun h54 => ?_)
              · have h54 : (a5) = false := nB_z.mp (cm_eq9.mp h54)
                exact zJ hJ8 rfl rfl (by simp only [h54, lb_f, Int64.or_zero, nB_t, nB_f, Bool.not_true, Bool.not_false, Bool.and_true, Bool.true_and, Bool.false_and, Bool.and_false, Bool.or_true, Bool.true_or, Bool.false_or, Bool.or_false, cond_true, cond_false])
              · have h54 : (a5) = true := nB_n.mp (cn_eq.mp h54)
                refine z_rcs hc hH 4 (pc' := 352) (lv' := [(8, .int (nB ((decide (su = 1)) || ((decide (su = 2)) || (decide (su = 4)))))), (6, .int (nB a6)), (5, .int (nB a5)), (4, .int (nB a4)), (3, .int (nB a3)), (2, .int (nB a2)), (1, .int (nB a1)), (7, .int su), (0, .ref 50)]) (st' := [.int 38, .long ((μ.2.1 50 24) ||| (lb a3 37)), .ref 50]) (μ' := mGP μ ((μ.2.1 50 24) ||| (lb a3 37)) (y5 ||| (lb (((decide (su = 1)) || ((decide (su = 2)) || (decide (su = 4)))) && (!a4)) 29)) (μ.1 50 23)) (by rfl) ?_
                refine zq_call hc (z_cx_ok hH (by rfl)) (fb_X7_bit d' (by omega) (mGP μ ((μ.2.1 50 24) ||| (lb a3 37)) (y5 ||| (lb (((decide (su = 1)) || ((decide (su = 2)) || (decide (su = 4)))) && (!a4)) 29)) (μ.1 50 23)) 38) (by decide +kernel) (fun r9 μ9 hq => ?_)
                obtain ⟨hμ9, rfl⟩ := hq
                rw [hμ9]
                clear hμ9 μ9
                show Z 0 355 [(8, .int (nB ((decide (su = 1)) || ((decide (su = 2)) || (decide (su = 4)))))), (6, .int (nB a6)), (5, .int (nB a5)), (4, .int (nB a4)), (3, .int (nB a3)), (2, .int (nB a2)), (1, .int (nB a1)), (7, .int su), (0, .ref 50)] [.long (lb true 38), .long ((μ.2.1 50 24) ||| (lb a3 37)), .ref 50] _
                refine z_rcs hc hH 2 (pc' := 359) (lv' := [(8, .int (nB ((decide (su = 1)) || ((decide (su = 2)) || (decide (su = 4)))))), (6, .int (nB a6)), (5, .int (nB a5)), (4, .int (nB a4)), (3, .int (nB a3)), (2, .int (nB a2)), (1, .int (nB a1)), (7, .int su), (0, .ref 50)]) (st' := []) (μ' := z_uj (mGP μ ((μ.2.1 50 24) ||| (lb a3 37)) (y5 ||| (lb (((decide (su = 1)) || ((decide (su = 2)) || (decide (su = 4)))) && (!a4)) 29)) (μ.1 50 23)) 50 24 (((μ.2.1 50 24) ||| (lb a3 37)) ||| (lb true 38))) (by rfl) ?_
                rw [mGP_g]
                exact zJ hJ8 rfl rfl (by simp only [h54, lb_f, Int64.or_zero, nB_t, nB_f, Bool.not_true, Bool.not_false, Bool.and_true, Bool.true_and, Bool.false_and, Bool.and_false, Bool.or_true, Bool.true_or, Bool.false_or, Bool.or_false, cond_true, cond_false])
            refine zq_if hc hH (by rfl) (tg := 340) (by rfl) (fun h55 => ?_) (fun h55 => ?_)
            · have h55 : (a3) = false := nB_z.mp (cm_eq9.mp h55)
              exact zJ hJ7 rfl rfl (by simp only [h55, lb_f, Int64.or_zero, nB_t, nB_f, Bool.not_true, Bool.not_false, Bool.and_true, Bool.true_and, Bool.false_and, Bool.and_false, Bool.or_true, Bool.true_or, Bool.false_or, Bool.or_false, cond_true, cond_false])
            · have h55 : (a3) = true := nB_n.mp (cn_eq.mp h55)
              refine z_rcs hc hH 4 (pc' := 333) (lv' := [(8, .int (nB ((decide (su = 1)) || ((decide (su = 2)) || (decide (su = 4)))))), (6, .int (nB a6)), (5, .int (nB a5)), (4, .int (nB a4)), (3, .int (nB a3)), (2, .int (nB a2)), (1, .int (nB a1)), (7, .int su), (0, .ref 50)]) (st' := [.int 37, .long (μ.2.1 50 24), .ref 50]) (μ' := mGP μ (μ.2.1 50 24) (y5 ||| (lb (((decide (su = 1)) || ((decide (su = 2)) || (decide (su = 4)))) && (!a4)) 29)) (μ.1 50 23)) (by rfl) ?_
              refine zq_call hc (z_cx_ok hH (by rfl)) (fb_X7_bit d' (by omega) (mGP μ (μ.2.1 50 24) (y5 ||| (lb (((decide (su = 1)) || ((decide (su = 2)) || (decide (su = 4)))) && (!a4)) 29)) (μ.1 50 23)) 37) (by decide +kernel) (fun r9 μ9 hq => ?_)
              obtain ⟨hμ9, rfl⟩ := hq
              rw [hμ9]
              clear hμ9 μ9
              show Z 0 336 [(8, .int (nB ((decide (su = 1)) || ((decide (su = 2)) || (decide (su = 4)))))), (6, .int (nB a6)), (5, .int (nB a5)), (4, .int (nB a4)), (3, .int (nB a3)), (2, .int (nB a2)), (1, .int (nB a1)), (7, .int su), (0, .ref 50)] [.long (lb true 37), .long (μ.2.1 50 24), .ref 50] _
              refine z_rcs hc hH 2 (pc' := 340) (lv' := [(8, .int (nB ((decide (su = 1)) || ((decide (su = 2)) || (decide (su = 4)))))), (6, .int (nB a6)), (5, .int (nB a5)), (4, .int (nB a4)), (3, .int (nB a3)), (2, .int (nB a2)), (1, .int (nB a1)), (7, .int su), (0, .ref 50)]) (st' := []) (μ' := z_uj (mGP μ (μ.2.1 50 24) (y5 ||| (lb (((decide (su = 1)) || ((decide (su = 2)) || (decide (su = 4)))) && (!a4)) 29)) (μ.1 50 23)) 50 24 ((μ.2.1 50 24) ||| (lb true 37))) (by rfl) ?_
              rw [mGP_g]
              exact zJ hJ7 rfl rfl (by simp only [h55, lb_f, Int64.or_zero, nB_t, nB_f, Bool.not_true, Bool.not_false, Bool.and_true, Bool.true_and, Bool.false_and, Bool.and_false, Bool.or_true, Bool.true_or, Bool.false_or, Bool.or_false, cond_true, cond_false])
          refine zq_if hc hH (by rfl) (tg := 322) (by rfl) (fun h56 => ?_) (fun h56 => ?_)
          · have h56 : ((decide (su = 1)) || ((decide (su = 2)) || (decide (su = 4)))) = false := nB_z.mp (cm_eq9.mp h56)
            exact zJ hJ6 rfl rfl (by simp only [h56, lb_f, Int64.or_zero, nB_t, nB_f, Bool.not_true, Bool.not_false, Bool.and_true, Bool.true_and, Bool.false_and, Bool.and_false, Bool.or_true, Bool.true_or, Bool.false_or, Bool.or_false, cond_true, cond_false])
          · have h56 : ((decide (su = 1)) || ((decide (su = 2)) || (decide (su = 4)))) = true := nB_n.mp (cn_eq.mp h56)
            refine z_rcs hc hH 1 (pc' := 305) (lv' := [(8, .int (nB ((decide (su = 1)) || ((decide (su = 2)) || (decide (su = 4)))))), (6, .int (nB a6)), (5, .int (nB a5)), (4, .int (nB a4)), (3, .int (nB a3)), (2, .int (nB a2)), (1, .int (nB a1)), (7, .int su), (0, .ref 50)]) (st' := [.int (nB a4)]) (μ' := mGP μ (μ.2.1 50 24) y5 (μ.1 50 23)) (by rfl) ?_
            refine zq_if hc hH (by rfl) (tg := 322) (by rfl) (fun h57 => ?_) (fun h57 => ?_)
            · have h57 : (a4) = true := nB_n.mp (cm_ne.mp h57)
              exact zJ hJ6 rfl rfl (by simp only [h56, h57, lb_f, Int64.or_zero, nB_t, nB_f, Bool.not_true, Bool.not_false, Bool.and_true, Bool.true_and, Bool.false_and, Bool.and_false, Bool.or_true, Bool.true_or, Bool.false_or, Bool.or_false, cond_true, cond_false])
            · have h57 : (a4) = false := nB_z.mp (cn_ne.mp h57)
              refine z_rcs0 hc hH 4 (pc' := 315) (lv' := [(8, .int (nB ((decide (su = 1)) || ((decide (su = 2)) || (decide (su = 4)))))), (6, .int (nB a6)), (5, .int (nB a5)), (4, .int (nB a4)), (3, .int (nB a3)), (2, .int (nB a2)), (1, .int (nB a1)), (7, .int su), (0, .ref 50)]) (st' := [.int 29, .long y5, .ref 50]) (by rfl) ?_
              refine zq_call hc (z_cx_ok hH (by rfl)) (fb_X7_bit d' (by omega) (mGP μ (μ.2.1 50 24) y5 (μ.1 50 23)) 29) (by decide +kernel) (fun r9 μ9 hq => ?_)
              obtain ⟨hμ9, rfl⟩ := hq
              rw [hμ9]
              clear hμ9 μ9
              show Z 0 318 [(8, .int (nB ((decide (su = 1)) || ((decide (su = 2)) || (decide (su = 4)))))), (6, .int (nB a6)), (5, .int (nB a5)), (4, .int (nB a4)), (3, .int (nB a3)), (2, .int (nB a2)), (1, .int (nB a1)), (7, .int su), (0, .ref 50)] [.long (lb true 29), .long y5, .ref 50] _
              refine z_rcs hc hH 2 (pc' := 322) (lv' := [(8, .int (nB ((decide (su = 1)) || ((decide (su = 2)) || (decide (su = 4)))))), (6, .int (nB a6)), (5, .int (nB a5)), (4, .int (nB a4)), (3, .int (nB a3)), (2, .int (nB a2)), (1, .int (nB a1)), (7, .int su), (0, .ref 50)]) (st' := []) (μ' := z_uj (mGP μ (μ.2.1 50 24) y5 (μ.1 50 23)) 50 25 (y5 ||| (lb true 29))) (by rfl) ?_
              rw [mGP_p]
              exact zJ hJ6 rfl rfl (by simp only [h56, h57, lb_f, Int64.or_zero, nB_t, nB_f, Bool.not_true, Bool.not_false, Bool.and_true, Bool.true_and, Bool.false_and, Bool.and_false, Bool.or_true, Bool.true_or, Bool.false_or, Bool.or_false, cond_true, cond_false])
        refine zq_if hc hH (by rfl) (tg := 298) (by rfl) (fun h58 => ?_) (fun h58 => ?_)
        · have h58 : ((decide (su = 1)) || ((decide (su = 2)) || (decide (su = 4)))) = false := nB_z.mp (cm_eq9.mp h58)
          exact zJ hJ4 rfl rfl (by simp only [h58, lb_f, Int64.or_zero, nB_t, nB_f, Bool.not_true, Bool.not_false, Bool.and_true, Bool.true_and, Bool.false_and, Bool.and_false, Bool.or_true, Bool.true_or, Bool.false_or, Bool.or_false, cond_true, cond_false])
        · have h58 : ((decide (su = 1)) || ((decide (su = 2)) || (decide (su = 4)))) = true := nB_n.mp (cn_eq.mp h58)
          refine z_rcs hc hH 1 (pc' := 281) (lv' := [(8, .int (nB ((decide (su = 1)) || ((decide (su = 2)) || (decide (su = 4)))))), (6, .int (nB a6)), (5, .int (nB a5)), (4, .int (nB a4)), (3, .int (nB a3)), (2, .int (nB a2)), (1, .int (nB a1)), (7, .int su), (0, .ref 50)]) (st' := [.int (nB a4)]) (μ' := mGP μ (μ.2.1 50 24) (((μ.2.1 50 25) ||| (lb a2 8)) ||| (lb a1 24)) (μ.1 50 23)) (by rfl) ?_
          refine zq_if hc hH (by rfl) (tg := 298) (by rfl) (fun h59 => ?_) (fun h59 => ?_)
          · have h59 : (a4) = false := nB_z.mp (cm_eq9.mp h59)
            exact zJ hJ4 rfl rfl (by simp only [h58, h59, lb_f, Int64.or_zero, nB_t, nB_f, Bool.not_true, Bool.not_false, Bool.and_true, Bool.true_and, Bool.false_and, Bool.and_false, Bool.or_true, Bool.true_or, Bool.false_or, Bool.or_false, cond_true, cond_false])
          · have h59 : (a4) = true := nB_n.mp (cn_eq.mp h59)
            refine z_rcs0 hc hH 4 (pc' := 291) (lv' := [(8, .int (nB ((decide (su = 1)) || ((decide (su = 2)) || (decide (su = 4)))))), (6, .int (nB a6)), (5, .int (nB a5)), (4, .int (nB a4)), (3, .int (nB a3)), (2, .int (nB a2)), (1, .int (nB a1)), (7, .int su), (0, .ref 50)]) (st' := [.int 26, .long (((μ.2.1 50 25) ||| (lb a2 8)) ||| (lb a1 24)), .ref 50]) (by rfl) ?_
            refine zq_call hc (z_cx_ok hH (by rfl)) (fb_X7_bit d' (by omega) (mGP μ (μ.2.1 50 24) (((μ.2.1 50 25) ||| (lb a2 8)) ||| (lb a1 24)) (μ.1 50 23)) 26) (by decide +kernel) (fun r9 μ9 hq => ?_)
            obtain ⟨hμ9, rfl⟩ := hq
            rw [hμ9]
            clear hμ9 μ9
            show Z 0 294 [(8, .int (nB ((decide (su = 1)) || ((decide (su = 2)) || (decide (su = 4)))))), (6, .int (nB a6)), (5, .int (nB a5)), (4, .int (nB a4)), (3, .int (nB a3)), (2, .int (nB a2)), (1, .int (nB a1)), (7, .int su), (0, .ref 50)] [.long (lb true 26), .long (((μ.2.1 50 25) ||| (lb a2 8)) ||| (lb a1 24)), .ref 50] _
            refine z_rcs hc hH 2 (pc' := 298) (lv' := [(8, .int (nB ((decide (su = 1)) || ((decide (su = 2)) || (decide (su = 4)))))), (6, .int (nB a6)), (5, .int (nB a5)), (4, .int (nB a4)), (3, .int (nB a3)), (2, .int (nB a2)), (1, .int (nB a1)), (7, .int su), (0, .ref 50)]) (st' := []) (μ' := z_uj (mGP μ (μ.2.1 50 24) (((μ.2.1 50 25) ||| (lb a2 8)) ||| (lb a1 24)) (μ.1 50 23)) 50 25 ((((μ.2.1 50 25) ||| (lb a2 8)) ||| (lb a1 24)) ||| (lb true 26))) (by rfl) ?_
            rw [mGP_p]
            exact zJ hJ4 rfl rfl (by simp only [h58, h59, lb_f, Int64.or_zero, nB_t, nB_f, Bool.not_true, Bool.not_false, Bool.and_true, Bool.true_and, Bool.false_and, Bool.and_false, Bool.or_true, Bool.true_or, Bool.false_or, Bool.or_false, cond_true, cond_false])
      refine zq_if hc hH (by rfl) (tg := 274) (by rfl) (fun h60 => ?_) (fun h60 => ?_)
      · have h60 : (a1) = false := nB_z.mp (cm_eq9.mp h60)
        exact zJ hJ3 rfl rfl (by simp only [h60, lb_f, Int64.or_zero, nB_t, nB_f, Bool.not_true, Bool.not_false, Bool.and_true, Bool.true_and, Bool.false_and, Bool.and_false, Bool.or_true, Bool.true_or, Bool.false_or, Bool.or_false, cond_true, cond_false])
      · have h60 : (a1) = true := nB_n.mp (cn_eq.mp h60)
        refine z_rcs hc hH 4 (pc' := 267) (lv' := [(8, .int (nB ((decide (su = 1)) || ((decide (su = 2)) || (decide (su = 4)))))), (6, .int (nB a6)), (5, .int (nB a5)), (4, .int (nB a4)), (3, .int (nB a3)), (2, .int (nB a2)), (1, .int (nB a1)), (7, .int su), (0, .ref 50)]) (st' := [.int 24, .long ((μ.2.1 50 25) ||| (lb a2 8)), .ref 50]) (μ' := mGP μ (μ.2.1 50 24) ((μ.2.1 50 25) ||| (lb a2 8)) (μ.1 50 23)) (by rfl) ?_
        refine zq_call hc (z_cx_ok hH (by rfl)) (fb_X7_bit d' (by omega) (mGP μ (μ.2.1 50 24) ((μ.2.1 50 25) ||| (lb a2 8)) (μ.1 50 23)) 24) (by decide +kernel) (fun r9 μ9 hq => ?_)
        obtain ⟨hμ9, rfl⟩ := hq
        rw [hμ9]
        clear hμ9 μ9
        show Z 0 270 [(8, .int (nB ((decide (su = 1)) || ((decide (su = 2)) || (decide (su = 4)))))), (6, .int (nB a6)), (5, .int (nB a5)), (4, .int (nB a4)), (3, .int (nB a3)), (2, .int (nB a2)), (1, .int (nB a1)), (7, .int su), (0, .ref 50)] [.long (lb true 24), .long ((μ.2.1 50 25) ||| (lb a2 8)), .ref 50] _
        refine z_rcs hc hH 2 (pc' := 274) (lv' := [(8, .int (nB ((decide (su = 1)) || ((decide (su = 2)) || (decide (su = 4)))))), (6, .int (nB a6)), (5, .int (nB a5)), (4, .int (nB a4)), (3, .int (nB a3)), (2, .int (nB a2)), (1, .int (nB a1)), (7, .int su), (0, .ref 50)]) (st' := []) (μ' := z_uj (mGP μ (μ.2.1 50 24) ((μ.2.1 50 25) ||| (lb a2 8)) (μ.1 50 23)) 50 25 (((μ.2.1 50 25) ||| (lb a2 8)) ||| (lb true 24))) (by rfl) ?_
        rw [mGP_p]
        exact zJ hJ3 rfl rfl (by simp only [h60, lb_f, Int64.or_zero, nB_t, nB_f, Bool.not_true, Bool.not_false, Bool.and_true, Bool.true_and, Bool.false_and, Bool.and_false, Bool.or_true, Bool.true_or, Bool.false_or, Bool.or_false, cond_true, cond_false])
    refine zq_if hc hH (by rfl) (tg := 256) (by rfl) (fun h61 => ?_) (fun h61 => ?_)
    · have h61 : (a2) = false := nB_z.mp (cm_eq9.mp h61)
      exact zJ hJ2 rfl rfl (by simp only [h61, lb_f, Int64.or_zero, nB_t, nB_f, Bool.not_true, Bool.not_false, Bool.and_true, Bool.true_and, Bool.false_and, Bool.and_false, Bool.or_true, Bool.true_or, Bool.false_or, Bool.or_false, cond_true, cond_false])
    · have h61 : (a2) = true := nB_n.mp (cn_eq.mp h61)
      refine z_rcs hc hH 4 (pc' := 249) (lv' := [(8, .int (nB ((decide (su = 1)) || ((decide (su = 2)) || (decide (su = 4)))))), (6, .int (nB a6)), (5, .int (nB a5)), (4, .int (nB a4)), (3, .int (nB a3)), (2, .int (nB a2)), (1, .int (nB a1)), (7, .int su), (0, .ref 50)]) (st' := [.int 8, .long (μ.2.1 50 25), .ref 50]) (μ' := mGP μ (μ.2.1 50 24) (μ.2.1 50 25) (μ.1 50 23)) (by rfl) ?_
      refine zq_call hc (z_cx_ok hH (by rfl)) (fb_X7_bit d' (by omega) (mGP μ (μ.2.1 50 24) (μ.2.1 50 25) (μ.1 50 23)) 8) (by decide +kernel) (fun r9 μ9 hq => ?_)
      obtain ⟨hμ9, rfl⟩ := hq
      rw [hμ9]
      clear hμ9 μ9
      show Z 0 252 [(8, .int (nB ((decide (su = 1)) || ((decide (su = 2)) || (decide (su = 4)))))), (6, .int (nB a6)), (5, .int (nB a5)), (4, .int (nB a4)), (3, .int (nB a3)), (2, .int (nB a2)), (1, .int (nB a1)), (7, .int su), (0, .ref 50)] [.long (lb true 8), .long (μ.2.1 50 25), .ref 50] _
      refine z_rcs hc hH 2 (pc' := 256) (lv' := [(8, .int (nB ((decide (su = 1)) || ((decide (su = 2)) || (decide (su = 4)))))), (6, .int (nB a6)), (5, .int (nB a5)), (4, .int (nB a4)), (3, .int (nB a3)), (2, .int (nB a2)), (1, .int (nB a1)), (7, .int su), (0, .ref 50)]) (st' := []) (μ' := z_uj (mGP μ (μ.2.1 50 24) (μ.2.1 50 25) (μ.1 50 23)) 50 25 ((μ.2.1 50 25) ||| (lb true 8))) (by rfl) ?_
      rw [mGP_p]
      exact zJ hJ2 rfl rfl (by simp only [h61, lb_f, Int64.or_zero, nB_t, nB_f, Bool.not_true, Bool.not_false, Bool.and_true, Bool.true_and, Bool.false_and, Bool.and_false, Bool.or_true, Bool.true_or, Bool.false_or, Bool.or_false, cond_true, cond_false])
  refine zq_ic hc hH (by rfl) (tg := 231) (by rfl) (fun h62 => ?_) (fun h62 => ?_)
  · have h62 : (decide (su = 1)) = true := decide_eq_true (cm_eq9.mp h62)
    refine z_rcs hc hH 2 (pc' := 236) (lv' := [(8, .int (nI 34)), (6, .int (nB a6)), (5, .int (nB a5)), (4, .int (nB a4)), (3, .int (nB a3)), (2, .int (nB a2)), (1, .int (nB a1)), (7, .int su), (0, .ref 50)]) (st' := [.int 1]) (μ' := mGP μ (μ.2.1 50 24) (μ.2.1 50 25) (μ.1 50 23)) (by rfl) ?_
    exact zJ hJ1 rfl (by simp only [h62, lb_f, Int64.or_zero, nB_t, nB_f, Bool.not_true, Bool.not_false, Bool.and_true, Bool.true_and, Bool.false_and, Bool.and_false, Bool.or_true, Bool.true_or, Bool.false_or, Bool.or_false, cond_true, cond_false]) rfl
  · have h62 : (decide (su = 1)) = false := decide_eq_false (cn_eq.mp h62)
    refine z_rcs0 hc hH 2 (pc' := 222) (lv' := [(8, .int (nI 34)), (6, .int (nB a6)), (5, .int (nB a5)), (4, .int (nB a4)), (3, .int (nB a3)), (2, .int (nB a2)), (1, .int (nB a1)), (7, .int su), (0, .ref 50)]) (st' := [.int 2, .int su]) (by rfl) ?_
    refine zq_ic hc hH (by rfl) (tg := 231) (by rfl) (fun h63 => ?_) (fun h63 => ?_)
    · have h63 : (decide (su = 2)) = true := decide_eq_true (cm_eq9.mp h63)
      refine z_rcs0 hc hH 2 (pc' := 236) (lv' := [(8, .int (nI 34)), (6, .int (nB a6)), (5, .int (nB a5)), (4, .int (nB a4)), (3, .int (nB a3)), (2, .int (nB a2)), (1, .int (nB a1)), (7, .int su), (0, .ref 50)]) (st' := [.int 1]) (by rfl) ?_
      exact zJ hJ1 rfl (by simp only [h62, h63, lb_f, Int64.or_zero, nB_t, nB_f, Bool.not_true, Bool.not_false, Bool.and_true, Bool.true_and, Bool.false_and, Bool.and_false, Bool.or_true, Bool.true_or, Bool.false_or, Bool.or_false, cond_true, cond_false]) rfl
    · have h63 : (decide (su = 2)) = false := decide_eq_false (cn_eq.mp h63)
      refine z_rcs0 hc hH 2 (pc' := 228) (lv' := [(8, .int (nI 34)), (6, .int (nB a6)), (5, .int (nB a5)), (4, .int (nB a4)), (3, .int (nB a3)), (2, .int (nB a2)), (1, .int (nB a1)), (7, .int su), (0, .ref 50)]) (st' := [.int 4, .int su]) (by rfl) ?_
      refine zq_ic hc hH (by rfl) (tg := 235) (by rfl) (fun h64 => ?_) (fun h64 => ?_)
      · have h64 : (decide (su = 4)) = false := decide_eq_false (cm_ne.mp h64)
        refine z_rcs0 hc hH 1 (pc' := 236) (lv' := [(8, .int (nI 34)), (6, .int (nB a6)), (5, .int (nB a5)), (4, .int (nB a4)), (3, .int (nB a3)), (2, .int (nB a2)), (1, .int (nB a1)), (7, .int su), (0, .ref 50)]) (st' := [.int 0]) (by rfl) ?_
        exact zJ hJ1 rfl (by simp only [h62, h63, h64, lb_f, Int64.or_zero, nB_t, nB_f, Bool.not_true, Bool.not_false, Bool.and_true, Bool.true_and, Bool.false_and, Bool.and_false, Bool.or_true, Bool.true_or, Bool.false_or, Bool.or_false, cond_true, cond_false]) rfl
      · have h64 : (decide (su = 4)) = true := decide_eq_true (cn_ne.mp h64)
        refine z_rcs0 hc hH 2 (pc' := 236) (lv' := [(8, .int (nI 34)), (6, .int (nB a6)), (5, .int (nB a5)), (4, .int (nB a4)), (3, .int (nB a3)), (2, .int (nB a2)), (1, .int (nB a1)), (7, .int su), (0, .ref 50)]) (st' := [.int 1]) (by rfl) ?_
        exact zJ hJ1 rfl (by simp only [h62, h63, h64, lb_f, Int64.or_zero, nB_t, nB_f, Bool.not_true, Bool.not_false, Bool.and_true, Bool.true_and, Bool.false_and, Bool.and_false, Bool.or_true, Bool.true_or, Bool.false_or, Bool.or_false, cond_true, cond_false]) rfl
theorem tl213 (d' : Nat) (Z : zK) (hd : 2 ≤ d') (μ : zM) (t : T7) (hc : z_clo z_x0 mi_X7_tiles (z_C d') Z) (hr : z_ret mi_X7_tiles (fun r μ' => r = none ∧ μ' = mGP μ (tlG μ (μ.2.1 50 24) t) (tlP μ (μ.2.1 50 25) t) (μ.1 50 23)) Z) : tKA Z μ 213 (nI 34) t := ⟨tl213_1 d' Z hd μ t hc hr, tl213_2 d' Z hd μ t hc hr⟩
noncomputable abbrev t70 : T7 := (true, true, true, false, true, true, 0)
theorem fb_X7_tiles (d : Nat) (hd : 3 ≤ d) (μ : zM) (q : Nat) (hq : q ≤ 4) (e4 : μ.1 50 4 = nI q) : z_C d mi_X7_tiles [.ref 50] μ (fun r μ' => r = none ∧ μ' = mGP μ (tlG μ (μ.2.1 50 24) (tF μ q 34 0 t70)) (tlP μ (μ.2.1 50 25) (tF μ q 34 0 t70)) (μ.1 50 23)) := by
  refine z_C_in (by decide) (by omega) (fun d' Z ed hc hr => ?_)
  have hH : zH mi_X7_tiles zt_X7_tiles 79 7 12 := hh_X7_tiles
  refine z_rcs hc hH 16 (pc' := 21) (lv' := [(8, .int 0), (7, .int 0), (6, .int 1), (5, .int 1), (4, .int 0), (3, .int 1), (2, .int 1), (1, .int 1), (0, .ref 50)]) (st' := []) (μ' := μ) (by rfl) ?_
  exact (tl21 d' Z (by omega) μ q hq e4 hc 34 0 t70 (by omega) (tl213 d' Z (by omega) μ _ hc hr)).1
/-! like RUNS, OPEN, hidden: as expressions -/
set_option maxRecDepth 8000
theorem mGP2 {μ : zM} {a b g p : Int64} {c f : Int32} : mGP (mGP μ a b c) g p f = mGP μ g p f := by
  rw [show mGP (mGP μ a b c) g p f = z_uj (z_uj (z_ui (mGP (mGP μ a b c) a b c) 50 23 f) 50 25 p) 50 24 g by rw [mGP_f, mGP_p, mGP_g]]
  rw [show mGP (mGP μ a b c) a b c = mGP μ a b c from mGP_rf (mGP μ a b c), mGP_f, mGP_p, mGP_g]
noncomputable def xOp (μ : zM) : Nat → Bool
  | 0 => false
  | i + 1 => xOp μ i || !decide (μ.1 52 i = 3)
theorem xOp_iff (μ : zM) : ∀ q, xOp μ q = true ↔ ∃ j, j < q ∧ ¬ μ.1 52 j = 3 := by
  intro q
  induction q with
  | zero => exact ⟨fun h => absurd h Bool.false_ne_true, fun ⟨j, hj, _⟩ => absurd hj (by omega)⟩
  | succ q ih =>
    show (xOp μ q || !decide (μ.1 52 q = 3)) = true ↔ _
    rw [Bool.or_eq_true, ih, Bool.not_eq_true', decide_eq_false_iff_not]
    constructor
    · rintro (⟨j, h1, h2⟩ | h)
      · exact ⟨j, by omega, h2⟩
      · exact ⟨q, by omega, h⟩
    · rintro ⟨j, h1, h2⟩
      by_cases e : j = q
      · exact Or.inr (e ▸ h2)
      · exact Or.inl ⟨j, by omega, h2⟩
theorem fb_X7_isOpen (d : Nat) (hd : 1 ≤ d) (μ : zM) (q : Nat) (hq : q ≤ 4) (e4 : μ.1 50 4 = nI q) : z_C d mi_X7_isOpen [.ref 50] μ (zR μ (.int (nB (xOp μ q)))) := by
  refine z_C_mono (fc_X7_isOpen d hd μ q hq e4) (fun r μ' h => ⟨h.1, ?_⟩)
  rcases h.2 with ⟨e, h⟩ | ⟨e, h⟩
  · rw [e, (xOp_iff μ q).mpr h]; rfl
  · rw [e, show xOp μ q = false by rw [← Bool.not_eq_true]; exact fun z => h ((xOp_iff μ q).mp z)]; rfl
theorem fb_X7_twins (d : Nat) (hd : 2 ≤ d) (μ : zM) (s l : Nat → Nat) (hA : AY μ s l) : z_C d mi_X7_twins [.ref 50] μ (fun r μ' => r = none ∧ μ' = mGP μ (μ.2.1 50 24) (((μ.2.1 50 25) ||| (lb (decide ((nI (twn s l 27)) = 1)) 10)) ||| (lb (decide ((nI (twn s l 27)) = 2)) 28)) (μ.1 50 23)) := by
  refine z_C_in (by decide) (by omega) (fun d' Z ed hc hr => ?_)
  have hH : zH mi_X7_twins zt_X7_twins 79 7 5 := hh_X7_twins
  refine z_rcs hc hH 4 (pc' := 4) (lv' := [(2, .int 0), (1, .int 0), (0, .ref 50)]) (st' := []) (μ' := μ) (by rfl) ?_
  refine (tw4 d' Z (by omega) μ s l hA hc (fun x3 => ?_) 27 0 (by omega)).2 rfl
  refine zJ (μ := mGP μ (μ.2.1 50 24) (μ.2.1 50 25) (μ.1 50 23)) ?_ rfl rfl (mGP_rf μ)
  refine z_rcs hc hH 2 (pc' := 70) (lv' := [(2, .int (nI 27)), (1, .int (nI (twn s l 27))), (4, .int (nI 4)), (3, .int x3), (0, .ref 50)]) (st' := [.int 1, .int (nI (twn s l 27))]) (μ' := mGP μ (μ.2.1 50 24) (μ.2.1 50 25) (μ.1 50 23)) (by rfl) ?_
  have hJ1 : Z 0 87 [(2, .int (nI 27)), (1, .int (nI (twn s l 27))), (4, .int (nI 4)), (3, .int x3), (0, .ref 50)] [] (mGP μ (μ.2.1 50 24) ((μ.2.1 50 25) ||| (lb (decide ((nI (twn s l 27)) = 1)) 10)) (μ.1 50 23)) := by
    refine z_rcs0 hc hH 2 (pc' := 89) (lv' := [(2, .int (nI 27)), (1, .int (nI (twn s l 27))), (4, .int (nI 4)), (3, .int x3), (0, .ref 50)]) (st' := [.int 2, .int (nI (twn s l 27))]) (by rfl) ?_
    refine zq_ic hc hH (by rfl) (tg := 106) (by rfl) (fun h2 => ?_) (fun h2 => ?_)
    · have h2 : (decide ((nI (twn s l 27)) = 2)) = false := decide_eq_false (cm_ne.mp h2)
      exact hr 0 106 _ _ _ none (by decide +kernel) (by rfl) (⟨rfl, (by simp only [h2, lb_f, Int64.or_zero, nB_t, nB_f, Bool.not_true, Bool.not_false, Bool.and_true, Bool.true_and, Bool.false_and, Bool.and_false, Bool.or_true, Bool.true_or, Bool.false_or, Bool.or_false, cond_true, cond_false])⟩)
    · have h2 : (decide ((nI (twn s l 27)) = 2)) = true := decide_eq_true (cn_ne.mp h2)
      refine z_rcs0 hc hH 4 (pc' := 99) (lv' := [(2, .int (nI 27)), (1, .int (nI (twn s l 27))), (4, .int (nI 4)), (3, .int x3), (0, .ref 50)]) (st' := [.int 28, .long ((μ.2.1 50 25) ||| (lb (decide ((nI (twn s l 27)) = 1)) 10)), .ref 50]) (by rfl) ?_
      refine zq_call hc (z_cx_ok hH (by rfl)) (fb_X7_bit d' (by omega) (mGP μ (μ.2.1 50 24) ((μ.2.1 50 25) ||| (lb (decide ((nI (twn s l 27)) = 1)) 10)) (μ.1 50 23)) 28) (by decide +kernel) (fun r9 μ9 hq => ?_)
      obtain ⟨hμ9, rfl⟩ := hq
      rw [hμ9]
      clear hμ9 μ9
      show Z 0 102 [(2, .int (nI 27)), (1, .int (nI (twn s l 27))), (4, .int (nI 4)), (3, .int x3), (0, .ref 50)] [.long (lb true 28), .long ((μ.2.1 50 25) ||| (lb (decide ((nI (twn s l 27)) = 1)) 10)), .ref 50] _
      refine z_rcs hc hH 2 (pc' := 106) (lv' := [(2, .int (nI 27)), (1, .int (nI (twn s l 27))), (4, .int (nI 4)), (3, .int x3), (0, .ref 50)]) (st' := []) (μ' := z_uj (mGP μ (μ.2.1 50 24) ((μ.2.1 50 25) ||| (lb (decide ((nI (twn s l 27)) = 1)) 10)) (μ.1 50 23)) 50 25 (((μ.2.1 50 25) ||| (lb (decide ((nI (twn s l 27)) = 1)) 10)) ||| (lb true 28))) (by rfl) ?_
      rw [mGP_p]
      exact hr 0 106 _ _ _ none (by decide +kernel) (by rfl) (⟨rfl, (by simp only [h2, lb_f, Int64.or_zero, nB_t, nB_f, Bool.not_true, Bool.not_false, Bool.and_true, Bool.true_and, Bool.false_and, Bool.and_false, Bool.or_true, Bool.true_or, Bool.false_or, Bool.or_false, cond_true, cond_false])⟩)
  refine zq_ic hc hH (by rfl) (tg := 87) (by rfl) (fun h3 => ?_) (fun h3 => ?_)
  · have h3 : (decide ((nI (twn s l 27)) = 1)) = false := decide_eq_false (cm_ne.mp h3)
    exact zJ hJ1 rfl rfl (by simp only [h3, lb_f, Int64.or_zero, nB_t, nB_f, Bool.not_true, Bool.not_false, Bool.and_true, Bool.true_and, Bool.false_and, Bool.and_false, Bool.or_true, Bool.true_or, Bool.false_or, Bool.or_false, cond_true, cond_false])
  · have h3 : (decide ((nI (twn s l 27)) = 1)) = true := decide_eq_true (cn_ne.mp h3)
    refine z_rcs hc hH 4 (pc' := 80) (lv' := [(2, .int (nI 27)), (1, .int (nI (twn s l 27))), (4, .int (nI 4)), (3, .int x3), (0, .ref 50)]) (st' := [.int 10, .long (μ.2.1 50 25), .ref 50]) (μ' := mGP μ (μ.2.1 50 24) (μ.2.1 50 25) (μ.1 50 23)) (by rfl) ?_
    refine zq_call hc (z_cx_ok hH (by rfl)) (fb_X7_bit d' (by omega) (mGP μ (μ.2.1 50 24) (μ.2.1 50 25) (μ.1 50 23)) 10) (by decide +kernel) (fun r9 μ9 hq => ?_)
    obtain ⟨hμ9, rfl⟩ := hq
    rw [hμ9]
    clear hμ9 μ9
    show Z 0 83 [(2, .int (nI 27)), (1, .int (nI (twn s l 27))), (4, .int (nI 4)), (3, .int x3), (0, .ref 50)] [.long (lb true 10), .long (μ.2.1 50 25), .ref 50] _
    refine z_rcs hc hH 2 (pc' := 87) (lv' := [(2, .int (nI 27)), (1, .int (nI (twn s l 27))), (4, .int (nI 4)), (3, .int x3), (0, .ref 50)]) (st' := []) (μ' := z_uj (mGP μ (μ.2.1 50 24) (μ.2.1 50 25) (μ.1 50 23)) 50 25 ((μ.2.1 50 25) ||| (lb true 10))) (by rfl) ?_
    rw [mGP_p]
    exact zJ hJ1 rfl rfl (by simp only [h3, lb_f, Int64.or_zero, nB_t, nB_f, Bool.not_true, Bool.not_false, Bool.and_true, Bool.true_and, Bool.false_and, Bool.and_false, Bool.or_true, Bool.true_or, Bool.false_or, Bool.or_false, cond_true, cond_false])
noncomputable def xHi0 (μ : zM) : Bool := (decide ((μ.1 56 0) = 3)) || (!(decide ((0 : Int32) < (μ.1 50 4))) && ((decide ((μ.1 56 0) = 1)) && (!(decide ((μ.1 50 11) = 0)) || (!(decide ((μ.1 50 22) = 0))))))
theorem fb_X7_isHidden0 (d : Nat) (hd : 1 ≤ d) (μ : zM) : z_C d mi_X7_isHidden [.ref 50, .int 0] μ (zR μ (.int (nB (xHi0 μ)))) := by
  refine z_C_in (by decide) (by omega) (fun d' Z ed hc hr => ?_)
  have hH : zH mi_X7_isHidden zt_X7_isHidden 79 7 2 := hh_X7_isHidden
  refine z_rcs hc hH 3 (pc' := 5) (lv' := [(0, .ref 50), (1, .int 0)]) (st' := [.int 0, .ref 56]) (μ' := μ) (by rfl) ?_
  refine zq_iald hc hH (by rfl) 4 (by decide +kernel) (show vp_in (nI 0) 4 from vp_in_nI (by decide) (by decide)) ?_
  show Z 0 6 [(0, .ref 50), (1, .int 0)] [.int (μ.1 56 0)] μ
  refine z_rcs hc hH 1 (pc' := 7) (lv' := [(0, .ref 50), (1, .int 0)]) (st' := [.int 3, .int (μ.1 56 0)]) (μ' := μ) (by rfl) ?_
  refine zq_ic hc hH (by rfl) (tg := 12) (by rfl) (fun h1 => ?_) (fun h1 => ?_)
  · have h1 : (decide ((μ.1 56 0) = 3)) = false := decide_eq_false (cm_ne.mp h1)
    refine z_rcs hc hH 3 (pc' := 17) (lv' := [(0, .ref 50), (1, .int 0)]) (st' := [.int (μ.1 50 4), .int 0]) (μ' := μ) (by rfl) ?_
    have hJ2 : Z 0 50 [(0, .ref 50), (1, .int 0)] [.int (nB (!(decide ((0 : Int32) < (μ.1 50 4))) && ((decide ((μ.1 56 0) = 1)) && (!(decide ((μ.1 50 11) = 0)) || (!(decide ((μ.1 50 22) = 0)))))))] μ := by
      generalize he3 : (!(decide ((0 : Int32) < (μ.1 50 4))) && ((decide ((μ.1 56 0) = 1)) && (!(decide ((μ.1 50 11) = 0)) || (!(decide ((μ.1 50 22) = 0)))))) = e3
      exact hr 0 50 _ _ _ (some (.int (nB e3))) (by decide +kernel) ((fun b : Bool => (by cases b <;> rfl : z_rn mi_X7_isHidden 50 [.int (nB b)] = some (some (.int (nB b))))) e3) (⟨rfl, (by unfold xHi0; try rw [he3]; simp only [h1, lb_f, Int64.or_zero, nB_t, nB_f, Bool.not_true, Bool.not_false, Bool.and_true, Bool.true_and, Bool.false_and, Bool.and_false, Bool.or_true, Bool.true_or, Bool.false_or, Bool.or_false, cond_true, cond_false])⟩)
    refine zq_ic hc hH (by rfl) (tg := 49) (by rfl) (fun h4 => ?_) (fun h4 => ?_)
    · have h4 : (decide ((0 : Int32) < (μ.1 50 4))) = true := decide_eq_true (cm_lt.mp h4)
      refine z_rcs hc hH 1 (pc' := 50) (lv' := [(0, .ref 50), (1, .int 0)]) (st' := [.int 0]) (μ' := μ) (by rfl) ?_
      exact zJ hJ2 rfl (by simp only [h4, lb_f, Int64.or_zero, nB_t, nB_f, Bool.not_true, Bool.not_false, Bool.and_true, Bool.true_and, Bool.false_and, Bool.and_false, Bool.or_true, Bool.true_or, Bool.false_or, Bool.or_false, cond_true, cond_false]) rfl
    · have h4 : (decide ((0 : Int32) < (μ.1 50 4))) = false := decide_eq_false (cn_lt.mp h4)
      refine z_rcs hc hH 3 (pc' := 25) (lv' := [(0, .ref 50), (1, .int 0)]) (st' := [.int 0, .ref 56]) (μ' := μ) (by rfl) ?_
      refine zq_iald hc hH (by rfl) 4 (by decide +kernel) (show vp_in (nI 0) 4 from vp_in_nI (by decide) (by decide)) ?_
      show Z 0 26 [(0, .ref 50), (1, .int 0)] [.int (μ.1 56 0)] μ
      refine z_rcs hc hH 1 (pc' := 27) (lv' := [(0, .ref 50), (1, .int 0)]) (st' := [.int 1, .int (μ.1 56 0)]) (μ' := μ) (by rfl) ?_
      refine zq_ic hc hH (by rfl) (tg := 49) (by rfl) (fun h5 => ?_) (fun h5 => ?_)
      · have h5 : (decide ((μ.1 56 0) = 1)) = false := decide_eq_false (cm_ne.mp h5)
        refine z_rcs hc hH 1 (pc' := 50) (lv' := [(0, .ref 50), (1, .int 0)]) (st' := [.int 0]) (μ' := μ) (by rfl) ?_
        exact zJ hJ2 rfl (by simp only [h4, h5, lb_f, Int64.or_zero, nB_t, nB_f, Bool.not_true, Bool.not_false, Bool.and_true, Bool.true_and, Bool.false_and, Bool.and_false, Bool.or_true, Bool.true_or, Bool.false_or, Bool.or_false, cond_true, cond_false]) rfl
      · have h5 : (decide ((μ.1 56 0) = 1)) = true := decide_eq_true (cn_ne.mp h5)
        refine z_rcs hc hH 2 (pc' := 34) (lv' := [(0, .ref 50), (1, .int 0)]) (st' := [.int (μ.1 50 11)]) (μ' := μ) (by rfl) ?_
        refine zq_if hc hH (by rfl) (tg := 45) (by rfl) (fun h6 => ?_) (fun h6 => ?_)
        · have h6 : (decide ((μ.1 50 11) = 0)) = false := decide_eq_false (cm_ne.mp h6)
          refine z_rcs hc hH 2 (pc' := 50) (lv' := [(0, .ref 50), (1, .int 0)]) (st' := [.int 1]) (μ' := μ) (by rfl) ?_
          exact zJ hJ2 rfl (by simp only [h4, h5, h6, lb_f, Int64.or_zero, nB_t, nB_f, Bool.not_true, Bool.not_false, Bool.and_true, Bool.true_and, Bool.false_and, Bool.and_false, Bool.or_true, Bool.true_or, Bool.false_or, Bool.or_false, cond_true, cond_false]) rfl
        · have h6 : (decide ((μ.1 50 11) = 0)) = true := decide_eq_true (cn_ne.mp h6)
          refine z_rcs hc hH 3 (pc' := 42) (lv' := [(0, .ref 50), (1, .int 0)]) (st' := [.int 0, .int (μ.1 50 22)]) (μ' := μ) (by rfl) ?_
          refine zq_ic hc hH (by rfl) (tg := 49) (by rfl) (fun h7 => ?_) (fun h7 => ?_)
          · have h7 : (decide ((μ.1 50 22) = 0)) = true := decide_eq_true (cm_eq9.mp h7)
            refine z_rcs hc hH 1 (pc' := 50) (lv' := [(0, .ref 50), (1, .int 0)]) (st' := [.int 0]) (μ' := μ) (by rfl) ?_
            exact zJ hJ2 rfl (by simp only [h4, h5, h6, h7, lb_f, Int64.or_zero, nB_t, nB_f, Bool.not_true, Bool.not_false, Bool.and_true, Bool.true_and, Bool.false_and, Bool.and_false, Bool.or_true, Bool.true_or, Bool.false_or, Bool.or_false, cond_true, cond_false]) rfl
          · have h7 : (decide ((μ.1 50 22) = 0)) = false := decide_eq_false (cn_eq.mp h7)
            refine z_rcs hc hH 2 (pc' := 50) (lv' := [(0, .ref 50), (1, .int 0)]) (st' := [.int 1]) (μ' := μ) (by rfl) ?_
            exact zJ hJ2 rfl (by simp only [h4, h5, h6, h7, lb_f, Int64.or_zero, nB_t, nB_f, Bool.not_true, Bool.not_false, Bool.and_true, Bool.true_and, Bool.false_and, Bool.and_false, Bool.or_true, Bool.true_or, Bool.false_or, Bool.or_false, cond_true, cond_false]) rfl
  · have h1 : (decide ((μ.1 56 0) = 3)) = true := decide_eq_true (cn_ne.mp h1)
    refine z_rcs hc hH 1 (pc' := 11) (lv' := [(0, .ref 50), (1, .int 0)]) (st' := [.int 1]) (μ' := μ) (by rfl) ?_
    exact hr 0 11 _ _ _ (some (.int 1)) (by decide +kernel) (z_rx_ok hH (by rfl)) (⟨rfl, (by unfold xHi0; simp only [h1, lb_f, Int64.or_zero, nB_t, nB_f, Bool.not_true, Bool.not_false, Bool.and_true, Bool.true_and, Bool.false_and, Bool.and_false, Bool.or_true, Bool.true_or, Bool.false_or, Bool.or_false, cond_true, cond_false])⟩)
noncomputable def xHi1 (μ : zM) : Bool := (decide ((μ.1 56 1) = 3)) || (!(decide ((1 : Int32) < (μ.1 50 4))) && ((decide ((μ.1 56 1) = 1)) && (!(decide ((μ.1 50 11) = 0)) || (!(decide ((μ.1 50 22) = 1))))))
theorem fb_X7_isHidden1 (d : Nat) (hd : 1 ≤ d) (μ : zM) : z_C d mi_X7_isHidden [.ref 50, .int 1] μ (zR μ (.int (nB (xHi1 μ)))) := by
  refine z_C_in (by decide) (by omega) (fun d' Z ed hc hr => ?_)
  have hH : zH mi_X7_isHidden zt_X7_isHidden 79 7 2 := hh_X7_isHidden
  refine z_rcs hc hH 3 (pc' := 5) (lv' := [(0, .ref 50), (1, .int 1)]) (st' := [.int 1, .ref 56]) (μ' := μ) (by rfl) ?_
  refine zq_iald hc hH (by rfl) 4 (by decide +kernel) (show vp_in (nI 1) 4 from vp_in_nI (by decide) (by decide)) ?_
  show Z 0 6 [(0, .ref 50), (1, .int 1)] [.int (μ.1 56 1)] μ
  refine z_rcs hc hH 1 (pc' := 7) (lv' := [(0, .ref 50), (1, .int 1)]) (st' := [.int 3, .int (μ.1 56 1)]) (μ' := μ) (by rfl) ?_
  refine zq_ic hc hH (by rfl) (tg := 12) (by rfl) (fun h1 => ?_) (fun h1 => ?_)
  · have h1 : (decide ((μ.1 56 1) = 3)) = false := decide_eq_false (cm_ne.mp h1)
    refine z_rcs hc hH 3 (pc' := 17) (lv' := [(0, .ref 50), (1, .int 1)]) (st' := [.int (μ.1 50 4), .int 1]) (μ' := μ) (by rfl) ?_
    have hJ2 : Z 0 50 [(0, .ref 50), (1, .int 1)] [.int (nB (!(decide ((1 : Int32) < (μ.1 50 4))) && ((decide ((μ.1 56 1) = 1)) && (!(decide ((μ.1 50 11) = 0)) || (!(decide ((μ.1 50 22) = 1)))))))] μ := by
      generalize he3 : (!(decide ((1 : Int32) < (μ.1 50 4))) && ((decide ((μ.1 56 1) = 1)) && (!(decide ((μ.1 50 11) = 0)) || (!(decide ((μ.1 50 22) = 1)))))) = e3
      exact hr 0 50 _ _ _ (some (.int (nB e3))) (by decide +kernel) ((fun b : Bool => (by cases b <;> rfl : z_rn mi_X7_isHidden 50 [.int (nB b)] = some (some (.int (nB b))))) e3) (⟨rfl, (by unfold xHi1; try rw [he3]; simp only [h1, lb_f, Int64.or_zero, nB_t, nB_f, Bool.not_true, Bool.not_false, Bool.and_true, Bool.true_and, Bool.false_and, Bool.and_false, Bool.or_true, Bool.true_or, Bool.false_or, Bool.or_false, cond_true, cond_false])⟩)
    refine zq_ic hc hH (by rfl) (tg := 49) (by rfl) (fun h4 => ?_) (fun h4 => ?_)
    · have h4 : (decide ((1 : Int32) < (μ.1 50 4))) = true := decide_eq_true (cm_lt.mp h4)
      refine z_rcs hc hH 1 (pc' := 50) (lv' := [(0, .ref 50), (1, .int 1)]) (st' := [.int 0]) (μ' := μ) (by rfl) ?_
      exact zJ hJ2 rfl (by simp only [h4, lb_f, Int64.or_zero, nB_t, nB_f, Bool.not_true, Bool.not_false, Bool.and_true, Bool.true_and, Bool.false_and, Bool.and_false, Bool.or_true, Bool.true_or, Bool.false_or, Bool.or_false, cond_true, cond_false]) rfl
    · have h4 : (decide ((1 : Int32) < (μ.1 50 4))) = false := decide_eq_false (cn_lt.mp h4)
      refine z_rcs hc hH 3 (pc' := 25) (lv' := [(0, .ref 50), (1, .int 1)]) (st' := [.int 1, .ref 56]) (μ' := μ) (by rfl) ?_
      refine zq_iald hc hH (by rfl) 4 (by decide +kernel) (show vp_in (nI 1) 4 from vp_in_nI (by decide) (by decide)) ?_
      show Z 0 26 [(0, .ref 50), (1, .int 1)] [.int (μ.1 56 1)] μ
      refine z_rcs hc hH 1 (pc' := 27) (lv' := [(0, .ref 50), (1, .int 1)]) (st' := [.int 1, .int (μ.1 56 1)]) (μ' := μ) (by rfl) ?_
      refine zq_ic hc hH (by rfl) (tg := 49) (by rfl) (fun h5 => ?_) (fun h5 => ?_)
      · have h5 : (decide ((μ.1 56 1) = 1)) = false := decide_eq_false (cm_ne.mp h5)
        refine z_rcs hc hH 1 (pc' := 50) (lv' := [(0, .ref 50), (1, .int 1)]) (st' := [.int 0]) (μ' := μ) (by rfl) ?_
        exact zJ hJ2 rfl (by simp only [h4, h5, lb_f, Int64.or_zero, nB_t, nB_f, Bool.not_true, Bool.not_false, Bool.and_true, Bool.true_and, Bool.false_and, Bool.and_false, Bool.or_true, Bool.true_or, Bool.false_or, Bool.or_false, cond_true, cond_false]) rfl
      · have h5 : (decide ((μ.1 56 1) = 1)) = true := decide_eq_true (cn_ne.mp h5)
        refine z_rcs hc hH 2 (pc' := 34) (lv' := [(0, .ref 50), (1, .int 1)]) (st' := [.int (μ.1 50 11)]) (μ' := μ) (by rfl) ?_
        refine zq_if hc hH (by rfl) (tg := 45) (by rfl) (fun h6 => ?_) (fun h6 => ?_)
        · have h6 : (decide ((μ.1 50 11) = 0)) = false := decide_eq_false (cm_ne.mp h6)
          refine z_rcs hc hH 2 (pc' := 50) (lv' := [(0, .ref 50), (1, .int 1)]) (st' := [.int 1]) (μ' := μ) (by rfl) ?_
          exact zJ hJ2 rfl (by simp only [h4, h5, h6, lb_f, Int64.or_zero, nB_t, nB_f, Bool.not_true, Bool.not_false, Bool.and_true, Bool.true_and, Bool.false_and, Bool.and_false, Bool.or_true, Bool.true_or, Bool.false_or, Bool.or_false, cond_true, cond_false]) rfl
        · have h6 : (decide ((μ.1 50 11) = 0)) = true := decide_eq_true (cn_ne.mp h6)
          refine z_rcs hc hH 3 (pc' := 42) (lv' := [(0, .ref 50), (1, .int 1)]) (st' := [.int 1, .int (μ.1 50 22)]) (μ' := μ) (by rfl) ?_
          refine zq_ic hc hH (by rfl) (tg := 49) (by rfl) (fun h7 => ?_) (fun h7 => ?_)
          · have h7 : (decide ((μ.1 50 22) = 1)) = true := decide_eq_true (cm_eq9.mp h7)
            refine z_rcs hc hH 1 (pc' := 50) (lv' := [(0, .ref 50), (1, .int 1)]) (st' := [.int 0]) (μ' := μ) (by rfl) ?_
            exact zJ hJ2 rfl (by simp only [h4, h5, h6, h7, lb_f, Int64.or_zero, nB_t, nB_f, Bool.not_true, Bool.not_false, Bool.and_true, Bool.true_and, Bool.false_and, Bool.and_false, Bool.or_true, Bool.true_or, Bool.false_or, Bool.or_false, cond_true, cond_false]) rfl
          · have h7 : (decide ((μ.1 50 22) = 1)) = false := decide_eq_false (cn_eq.mp h7)
            refine z_rcs hc hH 2 (pc' := 50) (lv' := [(0, .ref 50), (1, .int 1)]) (st' := [.int 1]) (μ' := μ) (by rfl) ?_
            exact zJ hJ2 rfl (by simp only [h4, h5, h6, h7, lb_f, Int64.or_zero, nB_t, nB_f, Bool.not_true, Bool.not_false, Bool.and_true, Bool.true_and, Bool.false_and, Bool.and_false, Bool.or_true, Bool.true_or, Bool.false_or, Bool.or_false, cond_true, cond_false]) rfl
  · have h1 : (decide ((μ.1 56 1) = 3)) = true := decide_eq_true (cn_ne.mp h1)
    refine z_rcs hc hH 1 (pc' := 11) (lv' := [(0, .ref 50), (1, .int 1)]) (st' := [.int 1]) (μ' := μ) (by rfl) ?_
    exact hr 0 11 _ _ _ (some (.int 1)) (by decide +kernel) (z_rx_ok hH (by rfl)) (⟨rfl, (by unfold xHi1; simp only [h1, lb_f, Int64.or_zero, nB_t, nB_f, Bool.not_true, Bool.not_false, Bool.and_true, Bool.true_and, Bool.false_and, Bool.and_false, Bool.or_true, Bool.true_or, Bool.false_or, Bool.or_false, cond_true, cond_false])⟩)
noncomputable def xHi2 (μ : zM) : Bool := (decide ((μ.1 56 2) = 3)) || (!(decide ((2 : Int32) < (μ.1 50 4))) && ((decide ((μ.1 56 2) = 1)) && (!(decide ((μ.1 50 11) = 0)) || (!(decide ((μ.1 50 22) = 2))))))
theorem fb_X7_isHidden2 (d : Nat) (hd : 1 ≤ d) (μ : zM) : z_C d mi_X7_isHidden [.ref 50, .int 2] μ (zR μ (.int (nB (xHi2 μ)))) := by
  refine z_C_in (by decide) (by omega) (fun d' Z ed hc hr => ?_)
  have hH : zH mi_X7_isHidden zt_X7_isHidden 79 7 2 := hh_X7_isHidden
  refine z_rcs hc hH 3 (pc' := 5) (lv' := [(0, .ref 50), (1, .int 2)]) (st' := [.int 2, .ref 56]) (μ' := μ) (by rfl) ?_
  refine zq_iald hc hH (by rfl) 4 (by decide +kernel) (show vp_in (nI 2) 4 from vp_in_nI (by decide) (by decide)) ?_
  show Z 0 6 [(0, .ref 50), (1, .int 2)] [.int (μ.1 56 2)] μ
  refine z_rcs hc hH 1 (pc' := 7) (lv' := [(0, .ref 50), (1, .int 2)]) (st' := [.int 3, .int (μ.1 56 2)]) (μ' := μ) (by rfl) ?_
  refine zq_ic hc hH (by rfl) (tg := 12) (by rfl) (fun h1 => ?_) (fun h1 => ?_)
  · have h1 : (decide ((μ.1 56 2) = 3)) = false := decide_eq_false (cm_ne.mp h1)
    refine z_rcs hc hH 3 (pc' := 17) (lv' := [(0, .ref 50), (1, .int 2)]) (st' := [.int (μ.1 50 4), .int 2]) (μ' := μ) (by rfl) ?_
    have hJ2 : Z 0 50 [(0, .ref 50), (1, .int 2)] [.int (nB (!(decide ((2 : Int32) < (μ.1 50 4))) && ((decide ((μ.1 56 2) = 1)) && (!(decide ((μ.1 50 11) = 0)) || (!(decide ((μ.1 50 22) = 2)))))))] μ := by
      generalize he3 : (!(decide ((2 : Int32) < (μ.1 50 4))) && ((decide ((μ.1 56 2) = 1)) && (!(decide ((μ.1 50 11) = 0)) || (!(decide ((μ.1 50 22) = 2)))))) = e3
      exact hr 0 50 _ _ _ (some (.int (nB e3))) (by decide +kernel) ((fun b : Bool => (by cases b <;> rfl : z_rn mi_X7_isHidden 50 [.int (nB b)] = some (some (.int (nB b))))) e3) (⟨rfl, (by unfold xHi2; try rw [he3]; simp only [h1, lb_f, Int64.or_zero, nB_t, nB_f, Bool.not_true, Bool.not_false, Bool.and_true, Bool.true_and, Bool.false_and, Bool.and_false, Bool.or_true, Bool.true_or, Bool.false_or, Bool.or_false, cond_true, cond_false])⟩)
    refine zq_ic hc hH (by rfl) (tg := 49) (by rfl) (fun h4 => ?_) (fun h4 => ?_)
    · have h4 : (decide ((2 : Int32) < (μ.1 50 4))) = true := decide_eq_true (cm_lt.mp h4)
      refine z_rcs hc hH 1 (pc' := 50) (lv' := [(0, .ref 50), (1, .int 2)]) (st' := [.int 0]) (μ' := μ) (by rfl) ?_
      exact zJ hJ2 rfl (by simp only [h4, lb_f, Int64.or_zero, nB_t, nB_f, Bool.not_true, Bool.not_false, Bool.and_true, Bool.true_and, Bool.false_and, Bool.and_false, Bool.or_true, Bool.true_or, Bool.false_or, Bool.or_false, cond_true, cond_false]) rfl
    · have h4 : (decide ((2 : Int32) < (μ.1 50 4))) = false := decide_eq_false (cn_lt.mp h4)
      refine z_rcs hc hH 3 (pc' := 25) (lv' := [(0, .ref 50), (1, .int 2)]) (st' := [.int 2, .ref 56]) (μ' := μ) (by rfl) ?_
      refine zq_iald hc hH (by rfl) 4 (by decide +kernel) (show vp_in (nI 2) 4 from vp_in_nI (by decide) (by decide)) ?_
      show Z 0 26 [(0, .ref 50), (1, .int 2)] [.int (μ.1 56 2)] μ
      refine z_rcs hc hH 1 (pc' := 27) (lv' := [(0, .ref 50), (1, .int 2)]) (st' := [.int 1, .int (μ.1 56 2)]) (μ' := μ) (by rfl) ?_
      refine zq_ic hc hH (by rfl) (tg := 49) (by rfl) (fun h5 => ?_) (fun h5 => ?_)
      · have h5 : (decide ((μ.1 56 2) = 1)) = false := decide_eq_false (cm_ne.mp h5)
        refine z_rcs hc hH 1 (pc' := 50) (lv' := [(0, .ref 50), (1, .int 2)]) (st' := [.int 0]) (μ' := μ) (by rfl) ?_
        exact zJ hJ2 rfl (by simp only [h4, h5, lb_f, Int64.or_zero, nB_t, nB_f, Bool.not_true, Bool.not_false, Bool.and_true, Bool.true_and, Bool.false_and, Bool.and_false, Bool.or_true, Bool.true_or, Bool.false_or, Bool.or_false, cond_true, cond_false]) rfl
      · have h5 : (decide ((μ.1 56 2) = 1)) = true := decide_eq_true (cn_ne.mp h5)
        refine z_rcs hc hH 2 (pc' := 34) (lv' := [(0, .ref 50), (1, .int 2)]) (st' := [.int (μ.1 50 11)]) (μ' := μ) (by rfl) ?_
        refine zq_if hc hH (by rfl) (tg := 45) (by rfl) (fun h6 => ?_) (fun h6 => ?_)
        · have h6 : (decide ((μ.1 50 11) = 0)) = false := decide_eq_false (cm_ne.mp h6)
          refine z_rcs hc hH 2 (pc' := 50) (lv' := [(0, .ref 50), (1, .int 2)]) (st' := [.int 1]) (μ' := μ) (by rfl) ?_
          exact zJ hJ2 rfl (by simp only [h4, h5, h6, lb_f, Int64.or_zero, nB_t, nB_f, Bool.not_true, Bool.not_false, Bool.and_true, Bool.true_and, Bool.false_and, Bool.and_false, Bool.or_true, Bool.true_or, Bool.false_or, Bool.or_false, cond_true, cond_false]) rfl
        · have h6 : (decide ((μ.1 50 11) = 0)) = true := decide_eq_true (cn_ne.mp h6)
          refine z_rcs hc hH 3 (pc' := 42) (lv' := [(0, .ref 50), (1, .int 2)]) (st' := [.int 2, .int (μ.1 50 22)]) (μ' := μ) (by rfl) ?_
          refine zq_ic hc hH (by rfl) (tg := 49) (by rfl) (fun h7 => ?_) (fun h7 => ?_)
          · have h7 : (decide ((μ.1 50 22) = 2)) = true := decide_eq_true (cm_eq9.mp h7)
            refine z_rcs hc hH 1 (pc' := 50) (lv' := [(0, .ref 50), (1, .int 2)]) (st' := [.int 0]) (μ' := μ) (by rfl) ?_
            exact zJ hJ2 rfl (by simp only [h4, h5, h6, h7, lb_f, Int64.or_zero, nB_t, nB_f, Bool.not_true, Bool.not_false, Bool.and_true, Bool.true_and, Bool.false_and, Bool.and_false, Bool.or_true, Bool.true_or, Bool.false_or, Bool.or_false, cond_true, cond_false]) rfl
          · have h7 : (decide ((μ.1 50 22) = 2)) = false := decide_eq_false (cn_eq.mp h7)
            refine z_rcs hc hH 2 (pc' := 50) (lv' := [(0, .ref 50), (1, .int 2)]) (st' := [.int 1]) (μ' := μ) (by rfl) ?_
            exact zJ hJ2 rfl (by simp only [h4, h5, h6, h7, lb_f, Int64.or_zero, nB_t, nB_f, Bool.not_true, Bool.not_false, Bool.and_true, Bool.true_and, Bool.false_and, Bool.and_false, Bool.or_true, Bool.true_or, Bool.false_or, Bool.or_false, cond_true, cond_false]) rfl
  · have h1 : (decide ((μ.1 56 2) = 3)) = true := decide_eq_true (cn_ne.mp h1)
    refine z_rcs hc hH 1 (pc' := 11) (lv' := [(0, .ref 50), (1, .int 2)]) (st' := [.int 1]) (μ' := μ) (by rfl) ?_
    exact hr 0 11 _ _ _ (some (.int 1)) (by decide +kernel) (z_rx_ok hH (by rfl)) (⟨rfl, (by unfold xHi2; simp only [h1, lb_f, Int64.or_zero, nB_t, nB_f, Bool.not_true, Bool.not_false, Bool.and_true, Bool.true_and, Bool.false_and, Bool.and_false, Bool.or_true, Bool.true_or, Bool.false_or, Bool.or_false, cond_true, cond_false])⟩)
noncomputable def xHi3 (μ : zM) : Bool := (decide ((μ.1 56 3) = 3)) || (!(decide ((3 : Int32) < (μ.1 50 4))) && ((decide ((μ.1 56 3) = 1)) && (!(decide ((μ.1 50 11) = 0)) || (!(decide ((μ.1 50 22) = 3))))))
theorem fb_X7_isHidden3 (d : Nat) (hd : 1 ≤ d) (μ : zM) : z_C d mi_X7_isHidden [.ref 50, .int 3] μ (zR μ (.int (nB (xHi3 μ)))) := by
  refine z_C_in (by decide) (by omega) (fun d' Z ed hc hr => ?_)
  have hH : zH mi_X7_isHidden zt_X7_isHidden 79 7 2 := hh_X7_isHidden
  refine z_rcs hc hH 3 (pc' := 5) (lv' := [(0, .ref 50), (1, .int 3)]) (st' := [.int 3, .ref 56]) (μ' := μ) (by rfl) ?_
  refine zq_iald hc hH (by rfl) 4 (by decide +kernel) (show vp_in (nI 3) 4 from vp_in_nI (by decide) (by decide)) ?_
  show Z 0 6 [(0, .ref 50), (1, .int 3)] [.int (μ.1 56 3)] μ
  refine z_rcs hc hH 1 (pc' := 7) (lv' := [(0, .ref 50), (1, .int 3)]) (st' := [.int 3, .int (μ.1 56 3)]) (μ' := μ) (by rfl) ?_
  refine zq_ic hc hH (by rfl) (tg := 12) (by rfl) (fun h1 => ?_) (fun h1 => ?_)
  · have h1 : (decide ((μ.1 56 3) = 3)) = false := decide_eq_false (cm_ne.mp h1)
    refine z_rcs hc hH 3 (pc' := 17) (lv' := [(0, .ref 50), (1, .int 3)]) (st' := [.int (μ.1 50 4), .int 3]) (μ' := μ) (by rfl) ?_
    have hJ2 : Z 0 50 [(0, .ref 50), (1, .int 3)] [.int (nB (!(decide ((3 : Int32) < (μ.1 50 4))) && ((decide ((μ.1 56 3) = 1)) && (!(decide ((μ.1 50 11) = 0)) || (!(decide ((μ.1 50 22) = 3)))))))] μ := by
      generalize he3 : (!(decide ((3 : Int32) < (μ.1 50 4))) && ((decide ((μ.1 56 3) = 1)) && (!(decide ((μ.1 50 11) = 0)) || (!(decide ((μ.1 50 22) = 3)))))) = e3
      exact hr 0 50 _ _ _ (some (.int (nB e3))) (by decide +kernel) ((fun b : Bool => (by cases b <;> rfl : z_rn mi_X7_isHidden 50 [.int (nB b)] = some (some (.int (nB b))))) e3) (⟨rfl, (by unfold xHi3; try rw [he3]; simp only [h1, lb_f, Int64.or_zero, nB_t, nB_f, Bool.not_true, Bool.not_false, Bool.and_true, Bool.true_and, Bool.false_and, Bool.and_false, Bool.or_true, Bool.true_or, Bool.false_or, Bool.or_false, cond_true, cond_false])⟩)
    refine zq_ic hc hH (by rfl) (tg := 49) (by rfl) (fun h4 => ?_) (fun h4 => ?_)
    · have h4 : (decide ((3 : Int32) < (μ.1 50 4))) = true := decide_eq_true (cm_lt.mp h4)
      refine z_rcs hc hH 1 (pc' := 50) (lv' := [(0, .ref 50), (1, .int 3)]) (st' := [.int 0]) (μ' := μ) (by rfl) ?_
      exact zJ hJ2 rfl (by simp only [h4, lb_f, Int64.or_zero, nB_t, nB_f, Bool.not_true, Bool.not_false, Bool.and_true, Bool.true_and, Bool.false_and, Bool.and_false, Bool.or_true, Bool.true_or, Bool.false_or, Bool.or_false, cond_true, cond_false]) rfl
    · have h4 : (decide ((3 : Int32) < (μ.1 50 4))) = false := decide_eq_false (cn_lt.mp h4)
      refine z_rcs hc hH 3 (pc' := 25) (lv' := [(0, .ref 50), (1, .int 3)]) (st' := [.int 3, .ref 56]) (μ' := μ) (by rfl) ?_
      refine zq_iald hc hH (by rfl) 4 (by decide +kernel) (show vp_in (nI 3) 4 from vp_in_nI (by decide) (by decide)) ?_
      show Z 0 26 [(0, .ref 50), (1, .int 3)] [.int (μ.1 56 3)] μ
      refine z_rcs hc hH 1 (pc' := 27) (lv' := [(0, .ref 50), (1, .int 3)]) (st' := [.int 1, .int (μ.1 56 3)]) (μ' := μ) (by rfl) ?_
      refine zq_ic hc hH (by rfl) (tg := 49) (by rfl) (fun h5 => ?_) (fun h5 => ?_)
      · have h5 : (decide ((μ.1 56 3) = 1)) = false := decide_eq_false (cm_ne.mp h5)
        refine z_rcs hc hH 1 (pc' := 50) (lv' := [(0, .ref 50), (1, .int 3)]) (st' := [.int 0]) (μ' := μ) (by rfl) ?_
        exact zJ hJ2 rfl (by simp only [h4, h5, lb_f, Int64.or_zero, nB_t, nB_f, Bool.not_true, Bool.not_false, Bool.and_true, Bool.true_and, Bool.false_and, Bool.and_false, Bool.or_true, Bool.true_or, Bool.false_or, Bool.or_false, cond_true, cond_false]) rfl
      · have h5 : (decide ((μ.1 56 3) = 1)) = true := decide_eq_true (cn_ne.mp h5)
        refine z_rcs hc hH 2 (pc' := 34) (lv' := [(0, .ref 50), (1, .int 3)]) (st' := [.int (μ.1 50 11)]) (μ' := μ) (by rfl) ?_
        refine zq_if hc hH (by rfl) (tg := 45) (by rfl) (fun h6 => ?_) (fun h6 => ?_)
        · have h6 : (decide ((μ.1 50 11) = 0)) = false := decide_eq_false (cm_ne.mp h6)
          refine z_rcs hc hH 2 (pc' := 50) (lv' := [(0, .ref 50), (1, .int 3)]) (st' := [.int 1]) (μ' := μ) (by rfl) ?_
          exact zJ hJ2 rfl (by simp only [h4, h5, h6, lb_f, Int64.or_zero, nB_t, nB_f, Bool.not_true, Bool.not_false, Bool.and_true, Bool.true_and, Bool.false_and, Bool.and_false, Bool.or_true, Bool.true_or, Bool.false_or, Bool.or_false, cond_true, cond_false]) rfl
        · have h6 : (decide ((μ.1 50 11) = 0)) = true := decide_eq_true (cn_ne.mp h6)
          refine z_rcs hc hH 3 (pc' := 42) (lv' := [(0, .ref 50), (1, .int 3)]) (st' := [.int 3, .int (μ.1 50 22)]) (μ' := μ) (by rfl) ?_
          refine zq_ic hc hH (by rfl) (tg := 49) (by rfl) (fun h7 => ?_) (fun h7 => ?_)
          · have h7 : (decide ((μ.1 50 22) = 3)) = true := decide_eq_true (cm_eq9.mp h7)
            refine z_rcs hc hH 1 (pc' := 50) (lv' := [(0, .ref 50), (1, .int 3)]) (st' := [.int 0]) (μ' := μ) (by rfl) ?_
            exact zJ hJ2 rfl (by simp only [h4, h5, h6, h7, lb_f, Int64.or_zero, nB_t, nB_f, Bool.not_true, Bool.not_false, Bool.and_true, Bool.true_and, Bool.false_and, Bool.and_false, Bool.or_true, Bool.true_or, Bool.false_or, Bool.or_false, cond_true, cond_false]) rfl
          · have h7 : (decide ((μ.1 50 22) = 3)) = false := decide_eq_false (cn_eq.mp h7)
            refine z_rcs hc hH 2 (pc' := 50) (lv' := [(0, .ref 50), (1, .int 3)]) (st' := [.int 1]) (μ' := μ) (by rfl) ?_
            exact zJ hJ2 rfl (by simp only [h4, h5, h6, h7, lb_f, Int64.or_zero, nB_t, nB_f, Bool.not_true, Bool.not_false, Bool.and_true, Bool.true_and, Bool.false_and, Bool.and_false, Bool.or_true, Bool.true_or, Bool.false_or, Bool.or_false, cond_true, cond_false]) rfl
  · have h1 : (decide ((μ.1 56 3) = 3)) = true := decide_eq_true (cn_ne.mp h1)
    refine z_rcs hc hH 1 (pc' := 11) (lv' := [(0, .ref 50), (1, .int 3)]) (st' := [.int 1]) (μ' := μ) (by rfl) ?_
    exact hr 0 11 _ _ _ (some (.int 1)) (by decide +kernel) (z_rx_ok hH (by rfl)) (⟨rfl, (by unfold xHi3; simp only [h1, lb_f, Int64.or_zero, nB_t, nB_f, Bool.not_true, Bool.not_false, Bool.and_true, Bool.true_and, Bool.false_and, Bool.and_false, Bool.or_true, Bool.true_or, Bool.false_or, Bool.or_false, cond_true, cond_false])⟩)
/-! a way of the first sort: FORMS and FU as the reference has them, piece by piece -/
set_option maxRecDepth 8000
theorem in4a {x : Int32} (h : vp_in x 5) (h4 : decide ((4 : Int32) ≤ x) = false) : vp_in x 4 := by
  have h5 := of_decide_eq_false h4
  rw [Int32.le_iff_toInt_le, show (4 : Int32).toInt = 4 from rfl] at h5
  have := vp_in_iff.mp h
  exact vp_in_iff.mpr ⟨this.1, by omega⟩
theorem in4b {a b : Bool} (h : (!a && b) = true) : a = false := by cases a <;> simp_all
theorem xOp_mGP {μ : zM} {g p : Int64} {f : Int32} : ∀ q, xOp (mGP μ g p f) q = xOp μ q := by
  intro q
  induction q with
  | zero => rfl
  | succ q ih => show (xOp (mGP μ g p f) q || !decide (μ.1 52 q = 3)) = (xOp μ q || !decide (μ.1 52 q = 3)); rw [ih]
theorem tF_mGP {μ : zM} {g p : Int64} {f : Int32} {q : Nat} : ∀ n i t, tF (mGP μ g p f) q n i t = tF μ q n i t := by
  intro n
  induction n with
  | zero => intro i t; rfl
  | succ n ih => intro i t; show tF (mGP μ g p f) q n (i + 1) (tSt (mGP μ g p f) q i t) = tF μ q n (i + 1) (tSt μ q i t); rw [ih]; rfl
theorem fs0 (d' : Nat) (Z : zK) (hd : 4 ≤ d') (μ : zM) (q : Nat) (hq : q ≤ 4) (e4 : μ.1 50 4 = nI q) (s l : Nat → Nat) (hA : AY μ s l) (hco : vp_in (μ.1 50 22) 5) (hc : z_clo z_x0 mi_X7_firstSort (z_C d') Z)  (g p : Int64) (f : Int32) (K : Z 0 92 [(5, .int 4), (3, .int ((((0 + (nB ((decide ((μ.1 56 0) = 2)) || (decide ((μ.1 56 0) = 3))))) + (nB ((decide ((μ.1 56 1) = 2)) || (decide ((μ.1 56 1) = 3))))) + (nB ((decide ((μ.1 56 2) = 2)) || (decide ((μ.1 56 2) = 3))))) + (nB ((decide ((μ.1 56 3) = 2)) || (decide ((μ.1 56 3) = 3)))))), (2, .int ((((0 + (nB (xHi0 μ))) + (nB (xHi1 μ))) + (nB (xHi2 μ))) + (nB (xHi3 μ)))), (1, .int ((((0 + (nB (decide ((μ.1 56 0) = 0)))) + (nB (decide ((μ.1 56 1) = 0)))) + (nB (decide ((μ.1 56 2) = 0)))) + (nB (decide ((μ.1 56 3) = 0))))), (4, .int (nB (xOp μ q))), (0, .ref 50)] [] (mGP μ g p f)) : Z 0 0 [(0, .ref 50)] [] (mGP μ g p f) := by
  have hH : zH mi_X7_firstSort zt_X7_firstSort 79 7 14 := hh_X7_firstSort
  refine z_rcs hc hH 7 (pc' := 7) (lv' := [(3, .int 0), (2, .int 0), (1, .int 0), (0, .ref 50)]) (st' := [.ref 50]) (μ' := mGP μ g p f) (by rfl) ?_
  refine zq_call hc (z_cx_ok hH (by rfl)) (fb_X7_isOpen d' (by omega) (mGP μ g p f) q hq e4) (by decide +kernel) (fun r9 μ9 hq => ?_)
  obtain ⟨hμ9, rfl⟩ := hq
  rw [hμ9]
  clear hμ9 μ9
  rw [xOp_mGP]
  show Z 0 10 [(3, .int 0), (2, .int 0), (1, .int 0), (0, .ref 50)] [.int (nB (xOp μ q))] (mGP μ g p f)
  refine z_rcs hc hH 10 (pc' := 28) (lv' := [(5, .int 0), (4, .int (nB (xOp μ q))), (3, .int 0), (2, .int 0), (1, .int 0), (0, .ref 50)]) (st' := [.int 0, .ref 56, .int 0]) (μ' := mGP μ g p f) (by rfl) ?_
  refine zq_iald hc hH (by rfl) 4 (by decide +kernel) (show vp_in (nI 0) 4 from vp_in_nI (by decide) (by decide)) ?_
  show Z 0 29 [(5, .int 0), (4, .int (nB (xOp μ q))), (3, .int 0), (2, .int 0), (1, .int 0), (0, .ref 50)] [.int (μ.1 56 0), .int 0] (mGP μ g p f)
  have hJ1 : Z 0 37 [(5, .int 0), (4, .int (nB (xOp μ q))), (3, .int 0), (2, .int 0), (1, .int 0), (0, .ref 50)] [.int (nB (decide ((μ.1 56 0) = 0))), .int 0] (mGP μ g p f) := by
    refine z_rcs hc hH 5 (pc' := 43) (lv' := [(1, .int (0 + (nB (decide ((μ.1 56 0) = 0))))), (5, .int 0), (4, .int (nB (xOp μ q))), (3, .int 0), (2, .int 0), (0, .ref 50)]) (st' := [.int 0, .ref 50, .int 0]) (μ' := mGP μ g p f) (by rfl) ?_
    refine zq_call hc (z_cx_ok hH (by rfl)) (fb_X7_isHidden0 d' (by omega) (mGP μ g p f)) (by decide +kernel) (fun r9 μ9 hq => ?_)
    obtain ⟨hμ9, rfl⟩ := hq
    rw [hμ9]
    clear hμ9 μ9
    show Z 0 46 [(1, .int (0 + (nB (decide ((μ.1 56 0) = 0))))), (5, .int 0), (4, .int (nB (xOp μ q))), (3, .int 0), (2, .int 0), (0, .ref 50)] [.int (nB (xHi0 μ)), .int 0] (mGP μ g p f)
    have hJ2 : Z 0 54 [(1, .int (0 + (nB (decide ((μ.1 56 0) = 0))))), (5, .int 0), (4, .int (nB (xOp μ q))), (3, .int 0), (2, .int 0), (0, .ref 50)] [.int (nB (xHi0 μ)), .int 0] (mGP μ g p f) := by
      refine z_rcs hc hH 6 (pc' := 63) (lv' := [(2, .int (0 + (nB (xHi0 μ)))), (1, .int (0 + (nB (decide ((μ.1 56 0) = 0))))), (5, .int 0), (4, .int (nB (xOp μ q))), (3, .int 0), (0, .ref 50)]) (st' := [.int 0, .ref 56, .int 0]) (μ' := mGP μ g p f) (by rfl) ?_
      refine zq_iald hc hH (by rfl) 4 (by decide +kernel) (show vp_in (nI 0) 4 from vp_in_nI (by decide) (by decide)) ?_
      show Z 0 64 [(2, .int (0 + (nB (xHi0 μ)))), (1, .int (0 + (nB (decide ((μ.1 56 0) = 0))))), (5, .int 0), (4, .int (nB (xOp μ q))), (3, .int 0), (0, .ref 50)] [.int (μ.1 56 0), .int 0] (mGP μ g p f)
      refine z_rcs hc hH 1 (pc' := 65) (lv' := [(2, .int (0 + (nB (xHi0 μ)))), (1, .int (0 + (nB (decide ((μ.1 56 0) = 0))))), (5, .int 0), (4, .int (nB (xOp μ q))), (3, .int 0), (0, .ref 50)]) (st' := [.int 2, .int (μ.1 56 0), .int 0]) (μ' := mGP μ g p f) (by rfl) ?_
      have hJ3 : Z 0 84 [(2, .int (0 + (nB (xHi0 μ)))), (1, .int (0 + (nB (decide ((μ.1 56 0) = 0))))), (5, .int 0), (4, .int (nB (xOp μ q))), (3, .int 0), (0, .ref 50)] [.int (nB ((decide ((μ.1 56 0) = 2)) || (decide ((μ.1 56 0) = 3)))), .int 0] (mGP μ g p f) := by
        refine z_rcs hc hH 11 (pc' := 28) (lv' := [(5, .int 1), (3, .int (0 + (nB ((decide ((μ.1 56 0) = 2)) || (decide ((μ.1 56 0) = 3)))))), (2, .int (0 + (nB (xHi0 μ)))), (1, .int (0 + (nB (decide ((μ.1 56 0) = 0))))), (4, .int (nB (xOp μ q))), (0, .ref 50)]) (st' := [.int 1, .ref 56, .int (0 + (nB (decide ((μ.1 56 0) = 0))))]) (μ' := mGP μ g p f) (by rfl) ?_
        refine zq_iald hc hH (by rfl) 4 (by decide +kernel) (show vp_in (nI 1) 4 from vp_in_nI (by decide) (by decide)) ?_
        show Z 0 29 [(5, .int 1), (3, .int (0 + (nB ((decide ((μ.1 56 0) = 2)) || (decide ((μ.1 56 0) = 3)))))), (2, .int (0 + (nB (xHi0 μ)))), (1, .int (0 + (nB (decide ((μ.1 56 0) = 0))))), (4, .int (nB (xOp μ q))), (0, .ref 50)] [.int (μ.1 56 1), .int (0 + (nB (decide ((μ.1 56 0) = 0))))] (mGP μ g p f)
        have hJ4 : Z 0 37 [(5, .int 1), (3, .int (0 + (nB ((decide ((μ.1 56 0) = 2)) || (decide ((μ.1 56 0) = 3)))))), (2, .int (0 + (nB (xHi0 μ)))), (1, .int (0 + (nB (decide ((μ.1 56 0) = 0))))), (4, .int (nB (xOp μ q))), (0, .ref 50)] [.int (nB (decide ((μ.1 56 1) = 0))), .int (0 + (nB (decide ((μ.1 56 0) = 0))))] (mGP μ g p f) := by
          refine z_rcs hc hH 5 (pc' := 43) (lv' := [(1, .int ((0 + (nB (decide ((μ.1 56 0) = 0)))) + (nB (decide ((μ.1 56 1) = 0))))), (5, .int 1), (3, .int (0 + (nB ((decide ((μ.1 56 0) = 2)) || (decide ((μ.1 56 0) = 3)))))), (2, .int (0 + (nB (xHi0 μ)))), (4, .int (nB (xOp μ q))), (0, .ref 50)]) (st' := [.int 1, .ref 50, .int (0 + (nB (xHi0 μ)))]) (μ' := mGP μ g p f) (by rfl) ?_
          refine zq_call hc (z_cx_ok hH (by rfl)) (fb_X7_isHidden1 d' (by omega) (mGP μ g p f)) (by decide +kernel) (fun r9 μ9 hq => ?_)
          obtain ⟨hμ9, rfl⟩ := hq
          rw [hμ9]
          clear hμ9 μ9
          show Z 0 46 [(1, .int ((0 + (nB (decide ((μ.1 56 0) = 0)))) + (nB (decide ((μ.1 56 1) = 0))))), (5, .int 1), (3, .int (0 + (nB ((decide ((μ.1 56 0) = 2)) || (decide ((μ.1 56 0) = 3)))))), (2, .int (0 + (nB (xHi0 μ)))), (4, .int (nB (xOp μ q))), (0, .ref 50)] [.int (nB (xHi1 μ)), .int (0 + (nB (xHi0 μ)))] (mGP μ g p f)
          have hJ5 : Z 0 54 [(1, .int ((0 + (nB (decide ((μ.1 56 0) = 0)))) + (nB (decide ((μ.1 56 1) = 0))))), (5, .int 1), (3, .int (0 + (nB ((decide ((μ.1 56 0) = 2)) || (decide ((μ.1 56 0) = 3)))))), (2, .int (0 + (nB (xHi0 μ)))), (4, .int (nB (xOp μ q))), (0, .ref 50)] [.int (nB (xHi1 μ)), .int (0 + (nB (xHi0 μ)))] (mGP μ g p f) := by
            refine z_rcs hc hH 6 (pc' := 63) (lv' := [(2, .int ((0 + (nB (xHi0 μ))) + (nB (xHi1 μ)))), (1, .int ((0 + (nB (decide ((μ.1 56 0) = 0)))) + (nB (decide ((μ.1 56 1) = 0))))), (5, .int 1), (3, .int (0 + (nB ((decide ((μ.1 56 0) = 2)) || (decide ((μ.1 56 0) = 3)))))), (4, .int (nB (xOp μ q))), (0, .ref 50)]) (st' := [.int 1, .ref 56, .int (0 + (nB ((decide ((μ.1 56 0) = 2)) || (decide ((μ.1 56 0) = 3)))))]) (μ' := mGP μ g p f) (by rfl) ?_
            refine zq_iald hc hH (by rfl) 4 (by decide +kernel) (show vp_in (nI 1) 4 from vp_in_nI (by decide) (by decide)) ?_
            show Z 0 64 [(2, .int ((0 + (nB (xHi0 μ))) + (nB (xHi1 μ)))), (1, .int ((0 + (nB (decide ((μ.1 56 0) = 0)))) + (nB (decide ((μ.1 56 1) = 0))))), (5, .int 1), (3, .int (0 + (nB ((decide ((μ.1 56 0) = 2)) || (decide ((μ.1 56 0) = 3)))))), (4, .int (nB (xOp μ q))), (0, .ref 50)] [.int (μ.1 56 1), .int (0 + (nB ((decide ((μ.1 56 0) = 2)) || (decide ((μ.1 56 0) = 3)))))] (mGP μ g p f)
            refine z_rcs hc hH 1 (pc' := 65) (lv' := [(2, .int ((0 + (nB (xHi0 μ))) + (nB (xHi1 μ)))), (1, .int ((0 + (nB (decide ((μ.1 56 0) = 0)))) + (nB (decide ((μ.1 56 1) = 0))))), (5, .int 1), (3, .int (0 + (nB ((decide ((μ.1 56 0) = 2)) || (decide ((μ.1 56 0) = 3)))))), (4, .int (nB (xOp μ q))), (0, .ref 50)]) (st' := [.int 2, .int (μ.1 56 1), .int (0 + (nB ((decide ((μ.1 56 0) = 2)) || (decide ((μ.1 56 0) = 3)))))]) (μ' := mGP μ g p f) (by rfl) ?_
            have hJ6 : Z 0 84 [(2, .int ((0 + (nB (xHi0 μ))) + (nB (xHi1 μ)))), (1, .int ((0 + (nB (decide ((μ.1 56 0) = 0)))) + (nB (decide ((μ.1 56 1) = 0))))), (5, .int 1), (3, .int (0 + (nB ((decide ((μ.1 56 0) = 2)) || (decide ((μ.1 56 0) = 3)))))), (4, .int (nB (xOp μ q))), (0, .ref 50)] [.int (nB ((decide ((μ.1 56 1) = 2)) || (decide ((μ.1 56 1) = 3)))), .int (0 + (nB ((decide ((μ.1 56 0) = 2)) || (decide ((μ.1 56 0) = 3)))))] (mGP μ g p f) := by
              refine z_rcs hc hH 11 (pc' := 28) (lv' := [(5, .int 2), (3, .int ((0 + (nB ((decide ((μ.1 56 0) = 2)) || (decide ((μ.1 56 0) = 3))))) + (nB ((decide ((μ.1 56 1) = 2)) || (decide ((μ.1 56 1) = 3)))))), (2, .int ((0 + (nB (xHi0 μ))) + (nB (xHi1 μ)))), (1, .int ((0 + (nB (decide ((μ.1 56 0) = 0)))) + (nB (decide ((μ.1 56 1) = 0))))), (4, .int (nB (xOp μ q))), (0, .ref 50)]) (st' := [.int 2, .ref 56, .int ((0 + (nB (decide ((μ.1 56 0) = 0)))) + (nB (decide ((μ.1 56 1) = 0))))]) (μ' := mGP μ g p f) (by rfl) ?_
              refine zq_iald hc hH (by rfl) 4 (by decide +kernel) (show vp_in (nI 2) 4 from vp_in_nI (by decide) (by decide)) ?_
              show Z 0 29 [(5, .int 2), (3, .int ((0 + (nB ((decide ((μ.1 56 0) = 2)) || (decide ((μ.1 56 0) = 3))))) + (nB ((decide ((μ.1 56 1) = 2)) || (decide ((μ.1 56 1) = 3)))))), (2, .int ((0 + (nB (xHi0 μ))) + (nB (xHi1 μ)))), (1, .int ((0 + (nB (decide ((μ.1 56 0) = 0)))) + (nB (decide ((μ.1 56 1) = 0))))), (4, .int (nB (xOp μ q))), (0, .ref 50)] [.int (μ.1 56 2), .int ((0 + (nB (decide ((μ.1 56 0) = 0)))) + (nB (decide ((μ.1 56 1) = 0))))] (mGP μ g p f)
              have hJ7 : Z 0 37 [(5, .int 2), (3, .int ((0 + (nB ((decide ((μ.1 56 0) = 2)) || (decide ((μ.1 56 0) = 3))))) + (nB ((decide ((μ.1 56 1) = 2)) || (decide ((μ.1 56 1) = 3)))))), (2, .int ((0 + (nB (xHi0 μ))) + (nB (xHi1 μ)))), (1, .int ((0 + (nB (decide ((μ.1 56 0) = 0)))) + (nB (decide ((μ.1 56 1) = 0))))), (4, .int (nB (xOp μ q))), (0, .ref 50)] [.int (nB (decide ((μ.1 56 2) = 0))), .int ((0 + (nB (decide ((μ.1 56 0) = 0)))) + (nB (decide ((μ.1 56 1) = 0))))] (mGP μ g p f) := by
                generalize hyy8 : ((0 + (nB ((decide ((μ.1 56 0) = 2)) || (decide ((μ.1 56 0) = 3))))) + (nB ((decide ((μ.1 56 1) = 2)) || (decide ((μ.1 56 1) = 3)))) : Int32) = yy8
                refine z_rcs hc hH 5 (pc' := 43) (lv' := [(1, .int (((0 + (nB (decide ((μ.1 56 0) = 0)))) + (nB (decide ((μ.1 56 1) = 0)))) + (nB (decide ((μ.1 56 2) = 0))))), (5, .int 2), (3, .int yy8), (2, .int ((0 + (nB (xHi0 μ))) + (nB (xHi1 μ)))), (4, .int (nB (xOp μ q))), (0, .ref 50)]) (st' := [.int 2, .ref 50, .int ((0 + (nB (xHi0 μ))) + (nB (xHi1 μ)))]) (μ' := mGP μ g p f) (by rfl) ?_
                refine zq_call hc (z_cx_ok hH (by rfl)) (fb_X7_isHidden2 d' (by omega) (mGP μ g p f)) (by decide +kernel) (fun r9 μ9 hq => ?_)
                obtain ⟨hμ9, rfl⟩ := hq
                rw [hμ9]
                clear hμ9 μ9
                show Z 0 46 [(1, .int (((0 + (nB (decide ((μ.1 56 0) = 0)))) + (nB (decide ((μ.1 56 1) = 0)))) + (nB (decide ((μ.1 56 2) = 0))))), (5, .int 2), (3, .int yy8), (2, .int ((0 + (nB (xHi0 μ))) + (nB (xHi1 μ)))), (4, .int (nB (xOp μ q))), (0, .ref 50)] [.int (nB (xHi2 μ)), .int ((0 + (nB (xHi0 μ))) + (nB (xHi1 μ)))] (mGP μ g p f)
                have hJ9 : Z 0 54 [(1, .int (((0 + (nB (decide ((μ.1 56 0) = 0)))) + (nB (decide ((μ.1 56 1) = 0)))) + (nB (decide ((μ.1 56 2) = 0))))), (5, .int 2), (3, .int yy8), (2, .int ((0 + (nB (xHi0 μ))) + (nB (xHi1 μ)))), (4, .int (nB (xOp μ q))), (0, .ref 50)] [.int (nB (xHi2 μ)), .int ((0 + (nB (xHi0 μ))) + (nB (xHi1 μ)))] (mGP μ g p f) := by
                  generalize hyy10 : (((0 + (nB (decide ((μ.1 56 0) = 0)))) + (nB (decide ((μ.1 56 1) = 0)))) + (nB (decide ((μ.1 56 2) = 0))) : Int32) = yy10
                  refine z_rcs hc hH 6 (pc' := 63) (lv' := [(2, .int (((0 + (nB (xHi0 μ))) + (nB (xHi1 μ))) + (nB (xHi2 μ)))), (1, .int yy10), (5, .int 2), (3, .int yy8), (4, .int (nB (xOp μ q))), (0, .ref 50)]) (st' := [.int 2, .ref 56, .int yy8]) (μ' := mGP μ g p f) (by rfl) ?_
                  refine zq_iald hc hH (by rfl) 4 (by decide +kernel) (show vp_in (nI 2) 4 from vp_in_nI (by decide) (by decide)) ?_
                  show Z 0 64 [(2, .int (((0 + (nB (xHi0 μ))) + (nB (xHi1 μ))) + (nB (xHi2 μ)))), (1, .int yy10), (5, .int 2), (3, .int yy8), (4, .int (nB (xOp μ q))), (0, .ref 50)] [.int (μ.1 56 2), .int yy8] (mGP μ g p f)
                  refine z_rcs hc hH 1 (pc' := 65) (lv' := [(2, .int (((0 + (nB (xHi0 μ))) + (nB (xHi1 μ))) + (nB (xHi2 μ)))), (1, .int yy10), (5, .int 2), (3, .int yy8), (4, .int (nB (xOp μ q))), (0, .ref 50)]) (st' := [.int 2, .int (μ.1 56 2), .int yy8]) (μ' := mGP μ g p f) (by rfl) ?_
                  have hJ11 : Z 0 84 [(2, .int (((0 + (nB (xHi0 μ))) + (nB (xHi1 μ))) + (nB (xHi2 μ)))), (1, .int yy10), (5, .int 2), (3, .int yy8), (4, .int (nB (xOp μ q))), (0, .ref 50)] [.int (nB ((decide ((μ.1 56 2) = 2)) || (decide ((μ.1 56 2) = 3)))), .int yy8] (mGP μ g p f) := by
                    refine z_rcs hc hH 11 (pc' := 28) (lv' := [(5, .int 3), (3, .int (yy8 + (nB ((decide ((μ.1 56 2) = 2)) || (decide ((μ.1 56 2) = 3)))))), (2, .int (((0 + (nB (xHi0 μ))) + (nB (xHi1 μ))) + (nB (xHi2 μ)))), (1, .int yy10), (4, .int (nB (xOp μ q))), (0, .ref 50)]) (st' := [.int 3, .ref 56, .int yy10]) (μ' := mGP μ g p f) (by rfl) ?_
                    refine zq_iald hc hH (by rfl) 4 (by decide +kernel) (show vp_in (nI 3) 4 from vp_in_nI (by decide) (by decide)) ?_
                    show Z 0 29 [(5, .int 3), (3, .int (yy8 + (nB ((decide ((μ.1 56 2) = 2)) || (decide ((μ.1 56 2) = 3)))))), (2, .int (((0 + (nB (xHi0 μ))) + (nB (xHi1 μ))) + (nB (xHi2 μ)))), (1, .int yy10), (4, .int (nB (xOp μ q))), (0, .ref 50)] [.int (μ.1 56 3), .int yy10] (mGP μ g p f)
                    have hJ12 : Z 0 37 [(5, .int 3), (3, .int (yy8 + (nB ((decide ((μ.1 56 2) = 2)) || (decide ((μ.1 56 2) = 3)))))), (2, .int (((0 + (nB (xHi0 μ))) + (nB (xHi1 μ))) + (nB (xHi2 μ)))), (1, .int yy10), (4, .int (nB (xOp μ q))), (0, .ref 50)] [.int (nB (decide ((μ.1 56 3) = 0))), .int yy10] (mGP μ g p f) := by
                      refine z_rcs hc hH 5 (pc' := 43) (lv' := [(1, .int (yy10 + (nB (decide ((μ.1 56 3) = 0))))), (5, .int 3), (3, .int (yy8 + (nB ((decide ((μ.1 56 2) = 2)) || (decide ((μ.1 56 2) = 3)))))), (2, .int (((0 + (nB (xHi0 μ))) + (nB (xHi1 μ))) + (nB (xHi2 μ)))), (4, .int (nB (xOp μ q))), (0, .ref 50)]) (st' := [.int 3, .ref 50, .int (((0 + (nB (xHi0 μ))) + (nB (xHi1 μ))) + (nB (xHi2 μ)))]) (μ' := mGP μ g p f) (by rfl) ?_
                      refine zq_call hc (z_cx_ok hH (by rfl)) (fb_X7_isHidden3 d' (by omega) (mGP μ g p f)) (by decide +kernel) (fun r9 μ9 hq => ?_)
                      obtain ⟨hμ9, rfl⟩ := hq
                      rw [hμ9]
                      clear hμ9 μ9
                      show Z 0 46 [(1, .int (yy10 + (nB (decide ((μ.1 56 3) = 0))))), (5, .int 3), (3, .int (yy8 + (nB ((decide ((μ.1 56 2) = 2)) || (decide ((μ.1 56 2) = 3)))))), (2, .int (((0 + (nB (xHi0 μ))) + (nB (xHi1 μ))) + (nB (xHi2 μ)))), (4, .int (nB (xOp μ q))), (0, .ref 50)] [.int (nB (xHi3 μ)), .int (((0 + (nB (xHi0 μ))) + (nB (xHi1 μ))) + (nB (xHi2 μ)))] (mGP μ g p f)
                      have hJ13 : Z 0 54 [(1, .int (yy10 + (nB (decide ((μ.1 56 3) = 0))))), (5, .int 3), (3, .int (yy8 + (nB ((decide ((μ.1 56 2) = 2)) || (decide ((μ.1 56 2) = 3)))))), (2, .int (((0 + (nB (xHi0 μ))) + (nB (xHi1 μ))) + (nB (xHi2 μ)))), (4, .int (nB (xOp μ q))), (0, .ref 50)] [.int (nB (xHi3 μ)), .int (((0 + (nB (xHi0 μ))) + (nB (xHi1 μ))) + (nB (xHi2 μ)))] (mGP μ g p f) := by
                        refine z_rcs hc hH 6 (pc' := 63) (lv' := [(2, .int ((((0 + (nB (xHi0 μ))) + (nB (xHi1 μ))) + (nB (xHi2 μ))) + (nB (xHi3 μ)))), (1, .int (yy10 + (nB (decide ((μ.1 56 3) = 0))))), (5, .int 3), (3, .int (yy8 + (nB ((decide ((μ.1 56 2) = 2)) || (decide ((μ.1 56 2) = 3)))))), (4, .int (nB (xOp μ q))), (0, .ref 50)]) (st' := [.int 3, .ref 56, .int (yy8 + (nB ((decide ((μ.1 56 2) = 2)) || (decide ((μ.1 56 2) = 3)))))]) (μ' := mGP μ g p f) (by rfl) ?_
                        refine zq_iald hc hH (by rfl) 4 (by decide +kernel) (show vp_in (nI 3) 4 from vp_in_nI (by decide) (by decide)) ?_
                        show Z 0 64 [(2, .int ((((0 + (nB (xHi0 μ))) + (nB (xHi1 μ))) + (nB (xHi2 μ))) + (nB (xHi3 μ)))), (1, .int (yy10 + (nB (decide ((μ.1 56 3) = 0))))), (5, .int 3), (3, .int (yy8 + (nB ((decide ((μ.1 56 2) = 2)) || (decide ((μ.1 56 2) = 3)))))), (4, .int (nB (xOp μ q))), (0, .ref 50)] [.int (μ.1 56 3), .int (yy8 + (nB ((decide ((μ.1 56 2) = 2)) || (decide ((μ.1 56 2) = 3)))))] (mGP μ g p f)
                        refine z_rcs hc hH 1 (pc' := 65) (lv' := [(2, .int ((((0 + (nB (xHi0 μ))) + (nB (xHi1 μ))) + (nB (xHi2 μ))) + (nB (xHi3 μ)))), (1, .int (yy10 + (nB (decide ((μ.1 56 3) = 0))))), (5, .int 3), (3, .int (yy8 + (nB ((decide ((μ.1 56 2) = 2)) || (decide ((μ.1 56 2) = 3)))))), (4, .int (nB (xOp μ q))), (0, .ref 50)]) (st' := [.int 2, .int (μ.1 56 3), .int (yy8 + (nB ((decide ((μ.1 56 2) = 2)) || (decide ((μ.1 56 2) = 3)))))]) (μ' := mGP μ g p f) (by rfl) ?_
                        have hJ14 : Z 0 84 [(2, .int ((((0 + (nB (xHi0 μ))) + (nB (xHi1 μ))) + (nB (xHi2 μ))) + (nB (xHi3 μ)))), (1, .int (yy10 + (nB (decide ((μ.1 56 3) = 0))))), (5, .int 3), (3, .int (yy8 + (nB ((decide ((μ.1 56 2) = 2)) || (decide ((μ.1 56 2) = 3)))))), (4, .int (nB (xOp μ q))), (0, .ref 50)] [.int (nB ((decide ((μ.1 56 3) = 2)) || (decide ((μ.1 56 3) = 3)))), .int (yy8 + (nB ((decide ((μ.1 56 2) = 2)) || (decide ((μ.1 56 2) = 3)))))] (mGP μ g p f) := by
                          generalize hyy15 : ((((0 + (nB (xHi0 μ))) + (nB (xHi1 μ))) + (nB (xHi2 μ))) + (nB (xHi3 μ)) : Int32) = yy15
                          refine z_rcs hc hH 7 (pc' := 92) (lv' := [(5, .int 4), (3, .int ((yy8 + (nB ((decide ((μ.1 56 2) = 2)) || (decide ((μ.1 56 2) = 3))))) + (nB ((decide ((μ.1 56 3) = 2)) || (decide ((μ.1 56 3) = 3)))))), (2, .int yy15), (1, .int (yy10 + (nB (decide ((μ.1 56 3) = 0))))), (4, .int (nB (xOp μ q))), (0, .ref 50)]) (st' := []) (μ' := mGP μ g p f) (by rfl) ?_
                          subst hyy15
                          subst hyy10
                          subst hyy8
                          exact K
                        refine zq_ic hc hH (by rfl) (tg := 79) (by rfl) (fun h16 => ?_) (fun h16 => ?_)
                        · have h16 : (decide ((μ.1 56 3) = 2)) = true := decide_eq_true (cm_eq9.mp h16)
                          refine z_rcs hc hH 2 (pc' := 84) (lv' := [(2, .int ((((0 + (nB (xHi0 μ))) + (nB (xHi1 μ))) + (nB (xHi2 μ))) + (nB (xHi3 μ)))), (1, .int (yy10 + (nB (decide ((μ.1 56 3) = 0))))), (5, .int 3), (3, .int (yy8 + (nB ((decide ((μ.1 56 2) = 2)) || (decide ((μ.1 56 2) = 3)))))), (4, .int (nB (xOp μ q))), (0, .ref 50)]) (st' := [.int 1, .int (yy8 + (nB ((decide ((μ.1 56 2) = 2)) || (decide ((μ.1 56 2) = 3)))))]) (μ' := mGP μ g p f) (by rfl) ?_
                          exact zJ hJ14 rfl (by simp only [h16, lb_f, Int64.or_zero, nB_t, nB_f, Bool.not_true, Bool.not_false, Bool.and_true, Bool.true_and, Bool.false_and, Bool.and_false, Bool.or_true, Bool.true_or, Bool.false_or, Bool.or_false, cond_true, cond_false]) rfl
                        · have h16 : (decide ((μ.1 56 3) = 2)) = false := decide_eq_false (cn_eq.mp h16)
                          refine z_rcs hc hH 3 (pc' := 74) (lv' := [(2, .int ((((0 + (nB (xHi0 μ))) + (nB (xHi1 μ))) + (nB (xHi2 μ))) + (nB (xHi3 μ)))), (1, .int (yy10 + (nB (decide ((μ.1 56 3) = 0))))), (5, .int 3), (3, .int (yy8 + (nB ((decide ((μ.1 56 2) = 2)) || (decide ((μ.1 56 2) = 3)))))), (4, .int (nB (xOp μ q))), (0, .ref 50)]) (st' := [.int 3, .ref 56, .int (yy8 + (nB ((decide ((μ.1 56 2) = 2)) || (decide ((μ.1 56 2) = 3)))))]) (μ' := mGP μ g p f) (by rfl) ?_
                          refine zq_iald hc hH (by rfl) 4 (by decide +kernel) (show vp_in (nI 3) 4 from vp_in_nI (by decide) (by decide)) ?_
                          show Z 0 75 [(2, .int ((((0 + (nB (xHi0 μ))) + (nB (xHi1 μ))) + (nB (xHi2 μ))) + (nB (xHi3 μ)))), (1, .int (yy10 + (nB (decide ((μ.1 56 3) = 0))))), (5, .int 3), (3, .int (yy8 + (nB ((decide ((μ.1 56 2) = 2)) || (decide ((μ.1 56 2) = 3)))))), (4, .int (nB (xOp μ q))), (0, .ref 50)] [.int (μ.1 56 3), .int (yy8 + (nB ((decide ((μ.1 56 2) = 2)) || (decide ((μ.1 56 2) = 3)))))] (mGP μ g p f)
                          refine z_rcs hc hH 1 (pc' := 76) (lv' := [(2, .int ((((0 + (nB (xHi0 μ))) + (nB (xHi1 μ))) + (nB (xHi2 μ))) + (nB (xHi3 μ)))), (1, .int (yy10 + (nB (decide ((μ.1 56 3) = 0))))), (5, .int 3), (3, .int (yy8 + (nB ((decide ((μ.1 56 2) = 2)) || (decide ((μ.1 56 2) = 3)))))), (4, .int (nB (xOp μ q))), (0, .ref 50)]) (st' := [.int 3, .int (μ.1 56 3), .int (yy8 + (nB ((decide ((μ.1 56 2) = 2)) || (decide ((μ.1 56 2) = 3)))))]) (μ' := mGP μ g p f) (by rfl) ?_
                          refine zq_ic hc hH (by rfl) (tg := 83) (by rfl) (fun h17 => ?_) (fun h17 => ?_)
                          · have h17 : (decide ((μ.1 56 3) = 3)) = false := decide_eq_false (cm_ne.mp h17)
                            refine z_rcs hc hH 1 (pc' := 84) (lv' := [(2, .int ((((0 + (nB (xHi0 μ))) + (nB (xHi1 μ))) + (nB (xHi2 μ))) + (nB (xHi3 μ)))), (1, .int (yy10 + (nB (decide ((μ.1 56 3) = 0))))), (5, .int 3), (3, .int (yy8 + (nB ((decide ((μ.1 56 2) = 2)) || (decide ((μ.1 56 2) = 3)))))), (4, .int (nB (xOp μ q))), (0, .ref 50)]) (st' := [.int 0, .int (yy8 + (nB ((decide ((μ.1 56 2) = 2)) || (decide ((μ.1 56 2) = 3)))))]) (μ' := mGP μ g p f) (by rfl) ?_
                            exact zJ hJ14 rfl (by simp only [h16, h17, lb_f, Int64.or_zero, nB_t, nB_f, Bool.not_true, Bool.not_false, Bool.and_true, Bool.true_and, Bool.false_and, Bool.and_false, Bool.or_true, Bool.true_or, Bool.false_or, Bool.or_false, cond_true, cond_false]) rfl
                          · have h17 : (decide ((μ.1 56 3) = 3)) = true := decide_eq_true (cn_ne.mp h17)
                            refine z_rcs hc hH 2 (pc' := 84) (lv' := [(2, .int ((((0 + (nB (xHi0 μ))) + (nB (xHi1 μ))) + (nB (xHi2 μ))) + (nB (xHi3 μ)))), (1, .int (yy10 + (nB (decide ((μ.1 56 3) = 0))))), (5, .int 3), (3, .int (yy8 + (nB ((decide ((μ.1 56 2) = 2)) || (decide ((μ.1 56 2) = 3)))))), (4, .int (nB (xOp μ q))), (0, .ref 50)]) (st' := [.int 1, .int (yy8 + (nB ((decide ((μ.1 56 2) = 2)) || (decide ((μ.1 56 2) = 3)))))]) (μ' := mGP μ g p f) (by rfl) ?_
                            exact zJ hJ14 rfl (by simp only [h16, h17, lb_f, Int64.or_zero, nB_t, nB_f, Bool.not_true, Bool.not_false, Bool.and_true, Bool.true_and, Bool.false_and, Bool.and_false, Bool.or_true, Bool.true_or, Bool.false_or, Bool.or_false, cond_true, cond_false]) rfl
                      refine zq_if hc hH (by rfl) (tg := 53) (by rfl) (fun h18 => ?_) (fun h18 => ?_)
                      · have h18 : (xHi3 μ) = false := nB_z.mp (cm_eq9.mp h18)
                        refine z_rcs hc hH 1 (pc' := 54) (lv' := [(1, .int (yy10 + (nB (decide ((μ.1 56 3) = 0))))), (5, .int 3), (3, .int (yy8 + (nB ((decide ((μ.1 56 2) = 2)) || (decide ((μ.1 56 2) = 3)))))), (2, .int (((0 + (nB (xHi0 μ))) + (nB (xHi1 μ))) + (nB (xHi2 μ)))), (4, .int (nB (xOp μ q))), (0, .ref 50)]) (st' := [.int 0, .int (((0 + (nB (xHi0 μ))) + (nB (xHi1 μ))) + (nB (xHi2 μ)))]) (μ' := mGP μ g p f) (by rfl) ?_
                        exact zJ hJ13 rfl (by simp only [h18, lb_f, Int64.or_zero, nB_t, nB_f, Bool.not_true, Bool.not_false, Bool.and_true, Bool.true_and, Bool.false_and, Bool.and_false, Bool.or_true, Bool.true_or, Bool.false_or, Bool.or_false, cond_true, cond_false]) rfl
                      · have h18 : (xHi3 μ) = true := nB_n.mp (cn_eq.mp h18)
                        refine z_rcs hc hH 2 (pc' := 54) (lv' := [(1, .int (yy10 + (nB (decide ((μ.1 56 3) = 0))))), (5, .int 3), (3, .int (yy8 + (nB ((decide ((μ.1 56 2) = 2)) || (decide ((μ.1 56 2) = 3)))))), (2, .int (((0 + (nB (xHi0 μ))) + (nB (xHi1 μ))) + (nB (xHi2 μ)))), (4, .int (nB (xOp μ q))), (0, .ref 50)]) (st' := [.int 1, .int (((0 + (nB (xHi0 μ))) + (nB (xHi1 μ))) + (nB (xHi2 μ)))]) (μ' := mGP μ g p f) (by rfl) ?_
                        exact zJ hJ13 rfl (by simp only [h18, lb_f, Int64.or_zero, nB_t, nB_f, Bool.not_true, Bool.not_false, Bool.and_true, Bool.true_and, Bool.false_and, Bool.and_false, Bool.or_true, Bool.true_or, Bool.false_or, Bool.or_false, cond_true, cond_false]) rfl
                    refine zq_if hc hH (by rfl) (tg := 36) (by rfl) (fun h19 => ?_) (fun h19 => ?_)
                    · have h19 : (decide ((μ.1 56 3) = 0)) = false := decide_eq_false (cm_ne.mp h19)
                      refine z_rcs hc hH 1 (pc' := 37) (lv' := [(5, .int 3), (3, .int (yy8 + (nB ((decide ((μ.1 56 2) = 2)) || (decide ((μ.1 56 2) = 3)))))), (2, .int (((0 + (nB (xHi0 μ))) + (nB (xHi1 μ))) + (nB (xHi2 μ)))), (1, .int yy10), (4, .int (nB (xOp μ q))), (0, .ref 50)]) (st' := [.int 0, .int yy10]) (μ' := mGP μ g p f) (by rfl) ?_
                      exact zJ hJ12 rfl (by simp only [h19, lb_f, Int64.or_zero, nB_t, nB_f, Bool.not_true, Bool.not_false, Bool.and_true, Bool.true_and, Bool.false_and, Bool.and_false, Bool.or_true, Bool.true_or, Bool.false_or, Bool.or_false, cond_true, cond_false]) rfl
                    · have h19 : (decide ((μ.1 56 3) = 0)) = true := decide_eq_true (cn_ne.mp h19)
                      refine z_rcs hc hH 2 (pc' := 37) (lv' := [(5, .int 3), (3, .int (yy8 + (nB ((decide ((μ.1 56 2) = 2)) || (decide ((μ.1 56 2) = 3)))))), (2, .int (((0 + (nB (xHi0 μ))) + (nB (xHi1 μ))) + (nB (xHi2 μ)))), (1, .int yy10), (4, .int (nB (xOp μ q))), (0, .ref 50)]) (st' := [.int 1, .int yy10]) (μ' := mGP μ g p f) (by rfl) ?_
                      exact zJ hJ12 rfl (by simp only [h19, lb_f, Int64.or_zero, nB_t, nB_f, Bool.not_true, Bool.not_false, Bool.and_true, Bool.true_and, Bool.false_and, Bool.and_false, Bool.or_true, Bool.true_or, Bool.false_or, Bool.or_false, cond_true, cond_false]) rfl
                  refine zq_ic hc hH (by rfl) (tg := 79) (by rfl) (fun h20 => ?_) (fun h20 => ?_)
                  · have h20 : (decide ((μ.1 56 2) = 2)) = true := decide_eq_true (cm_eq9.mp h20)
                    refine z_rcs hc hH 2 (pc' := 84) (lv' := [(2, .int (((0 + (nB (xHi0 μ))) + (nB (xHi1 μ))) + (nB (xHi2 μ)))), (1, .int yy10), (5, .int 2), (3, .int yy8), (4, .int (nB (xOp μ q))), (0, .ref 50)]) (st' := [.int 1, .int yy8]) (μ' := mGP μ g p f) (by rfl) ?_
                    exact zJ hJ11 rfl (by simp only [h20, lb_f, Int64.or_zero, nB_t, nB_f, Bool.not_true, Bool.not_false, Bool.and_true, Bool.true_and, Bool.false_and, Bool.and_false, Bool.or_true, Bool.true_or, Bool.false_or, Bool.or_false, cond_true, cond_false]) rfl
                  · have h20 : (decide ((μ.1 56 2) = 2)) = false := decide_eq_false (cn_eq.mp h20)
                    refine z_rcs hc hH 3 (pc' := 74) (lv' := [(2, .int (((0 + (nB (xHi0 μ))) + (nB (xHi1 μ))) + (nB (xHi2 μ)))), (1, .int yy10), (5, .int 2), (3, .int yy8), (4, .int (nB (xOp μ q))), (0, .ref 50)]) (st' := [.int 2, .ref 56, .int yy8]) (μ' := mGP μ g p f) (by rfl) ?_
                    refine zq_iald hc hH (by rfl) 4 (by decide +kernel) (show vp_in (nI 2) 4 from vp_in_nI (by decide) (by decide)) ?_
                    show Z 0 75 [(2, .int (((0 + (nB (xHi0 μ))) + (nB (xHi1 μ))) + (nB (xHi2 μ)))), (1, .int yy10), (5, .int 2), (3, .int yy8), (4, .int (nB (xOp μ q))), (0, .ref 50)] [.int (μ.1 56 2), .int yy8] (mGP μ g p f)
                    refine z_rcs hc hH 1 (pc' := 76) (lv' := [(2, .int (((0 + (nB (xHi0 μ))) + (nB (xHi1 μ))) + (nB (xHi2 μ)))), (1, .int yy10), (5, .int 2), (3, .int yy8), (4, .int (nB (xOp μ q))), (0, .ref 50)]) (st' := [.int 3, .int (μ.1 56 2), .int yy8]) (μ' := mGP μ g p f) (by rfl) ?_
                    refine zq_ic hc hH (by rfl) (tg := 83) (by rfl) (fun h21 => ?_) (fun h21 => ?_)
                    · have h21 : (decide ((μ.1 56 2) = 3)) = false := decide_eq_false (cm_ne.mp h21)
                      refine z_rcs hc hH 1 (pc' := 84) (lv' := [(2, .int (((0 + (nB (xHi0 μ))) + (nB (xHi1 μ))) + (nB (xHi2 μ)))), (1, .int yy10), (5, .int 2), (3, .int yy8), (4, .int (nB (xOp μ q))), (0, .ref 50)]) (st' := [.int 0, .int yy8]) (μ' := mGP μ g p f) (by rfl) ?_
                      exact zJ hJ11 rfl (by simp only [h20, h21, lb_f, Int64.or_zero, nB_t, nB_f, Bool.not_true, Bool.not_false, Bool.and_true, Bool.true_and, Bool.false_and, Bool.and_false, Bool.or_true, Bool.true_or, Bool.false_or, Bool.or_false, cond_true, cond_false]) rfl
                    · have h21 : (decide ((μ.1 56 2) = 3)) = true := decide_eq_true (cn_ne.mp h21)
                      refine z_rcs hc hH 2 (pc' := 84) (lv' := [(2, .int (((0 + (nB (xHi0 μ))) + (nB (xHi1 μ))) + (nB (xHi2 μ)))), (1, .int yy10), (5, .int 2), (3, .int yy8), (4, .int (nB (xOp μ q))), (0, .ref 50)]) (st' := [.int 1, .int yy8]) (μ' := mGP μ g p f) (by rfl) ?_
                      exact zJ hJ11 rfl (by simp only [h20, h21, lb_f, Int64.or_zero, nB_t, nB_f, Bool.not_true, Bool.not_false, Bool.and_true, Bool.true_and, Bool.false_and, Bool.and_false, Bool.or_true, Bool.true_or, Bool.false_or, Bool.or_false, cond_true, cond_false]) rfl
                refine zq_if hc hH (by rfl) (tg := 53) (by rfl) (fun h22 => ?_) (fun h22 => ?_)
                · have h22 : (xHi2 μ) = false := nB_z.mp (cm_eq9.mp h22)
                  refine z_rcs hc hH 1 (pc' := 54) (lv' := [(1, .int (((0 + (nB (decide ((μ.1 56 0) = 0)))) + (nB (decide ((μ.1 56 1) = 0)))) + (nB (decide ((μ.1 56 2) = 0))))), (5, .int 2), (3, .int yy8), (2, .int ((0 + (nB (xHi0 μ))) + (nB (xHi1 μ)))), (4, .int (nB (xOp μ q))), (0, .ref 50)]) (st' := [.int 0, .int ((0 + (nB (xHi0 μ))) + (nB (xHi1 μ)))]) (μ' := mGP μ g p f) (by rfl) ?_
                  exact zJ hJ9 rfl (by simp only [h22, lb_f, Int64.or_zero, nB_t, nB_f, Bool.not_true, Bool.not_false, Bool.and_true, Bool.true_and, Bool.false_and, Bool.and_false, Bool.or_true, Bool.true_or, Bool.false_or, Bool.or_false, cond_true, cond_false]) rfl
                · have h22 : (xHi2 μ) = true := nB_n.mp (cn_eq.mp h22)
                  refine z_rcs hc hH 2 (pc' := 54) (lv' := [(1, .int (((0 + (nB (decide ((μ.1 56 0) = 0)))) + (nB (decide ((μ.1 56 1) = 0)))) + (nB (decide ((μ.1 56 2) = 0))))), (5, .int 2), (3, .int yy8), (2, .int ((0 + (nB (xHi0 μ))) + (nB (xHi1 μ)))), (4, .int (nB (xOp μ q))), (0, .ref 50)]) (st' := [.int 1, .int ((0 + (nB (xHi0 μ))) + (nB (xHi1 μ)))]) (μ' := mGP μ g p f) (by rfl) ?_
                  exact zJ hJ9 rfl (by simp only [h22, lb_f, Int64.or_zero, nB_t, nB_f, Bool.not_true, Bool.not_false, Bool.and_true, Bool.true_and, Bool.false_and, Bool.and_false, Bool.or_true, Bool.true_or, Bool.false_or, Bool.or_false, cond_true, cond_false]) rfl
              refine zq_if hc hH (by rfl) (tg := 36) (by rfl) (fun h23 => ?_) (fun h23 => ?_)
              · have h23 : (decide ((μ.1 56 2) = 0)) = false := decide_eq_false (cm_ne.mp h23)
                refine z_rcs hc hH 1 (pc' := 37) (lv' := [(5, .int 2), (3, .int ((0 + (nB ((decide ((μ.1 56 0) = 2)) || (decide ((μ.1 56 0) = 3))))) + (nB ((decide ((μ.1 56 1) = 2)) || (decide ((μ.1 56 1) = 3)))))), (2, .int ((0 + (nB (xHi0 μ))) + (nB (xHi1 μ)))), (1, .int ((0 + (nB (decide ((μ.1 56 0) = 0)))) + (nB (decide ((μ.1 56 1) = 0))))), (4, .int (nB (xOp μ q))), (0, .ref 50)]) (st' := [.int 0, .int ((0 + (nB (decide ((μ.1 56 0) = 0)))) + (nB (decide ((μ.1 56 1) = 0))))]) (μ' := mGP μ g p f) (by rfl) ?_
                exact zJ hJ7 rfl (by simp only [h23, lb_f, Int64.or_zero, nB_t, nB_f, Bool.not_true, Bool.not_false, Bool.and_true, Bool.true_and, Bool.false_and, Bool.and_false, Bool.or_true, Bool.true_or, Bool.false_or, Bool.or_false, cond_true, cond_false]) rfl
              · have h23 : (decide ((μ.1 56 2) = 0)) = true := decide_eq_true (cn_ne.mp h23)
                refine z_rcs hc hH 2 (pc' := 37) (lv' := [(5, .int 2), (3, .int ((0 + (nB ((decide ((μ.1 56 0) = 2)) || (decide ((μ.1 56 0) = 3))))) + (nB ((decide ((μ.1 56 1) = 2)) || (decide ((μ.1 56 1) = 3)))))), (2, .int ((0 + (nB (xHi0 μ))) + (nB (xHi1 μ)))), (1, .int ((0 + (nB (decide ((μ.1 56 0) = 0)))) + (nB (decide ((μ.1 56 1) = 0))))), (4, .int (nB (xOp μ q))), (0, .ref 50)]) (st' := [.int 1, .int ((0 + (nB (decide ((μ.1 56 0) = 0)))) + (nB (decide ((μ.1 56 1) = 0))))]) (μ' := mGP μ g p f) (by rfl) ?_
                exact zJ hJ7 rfl (by simp only [h23, lb_f, Int64.or_zero, nB_t, nB_f, Bool.not_true, Bool.not_false, Bool.and_true, Bool.true_and, Bool.false_and, Bool.and_false, Bool.or_true, Bool.true_or, Bool.false_or, Bool.or_false, cond_true, cond_false]) rfl
            refine zq_ic hc hH (by rfl) (tg := 79) (by rfl) (fun h24 => ?_) (fun h24 => ?_)
            · have h24 : (decide ((μ.1 56 1) = 2)) = true := decide_eq_true (cm_eq9.mp h24)
              refine z_rcs hc hH 2 (pc' := 84) (lv' := [(2, .int ((0 + (nB (xHi0 μ))) + (nB (xHi1 μ)))), (1, .int ((0 + (nB (decide ((μ.1 56 0) = 0)))) + (nB (decide ((μ.1 56 1) = 0))))), (5, .int 1), (3, .int (0 + (nB ((decide ((μ.1 56 0) = 2)) || (decide ((μ.1 56 0) = 3)))))), (4, .int (nB (xOp μ q))), (0, .ref 50)]) (st' := [.int 1, .int (0 + (nB ((decide ((μ.1 56 0) = 2)) || (decide ((μ.1 56 0) = 3)))))]) (μ' := mGP μ g p f) (by rfl) ?_
              exact zJ hJ6 rfl (by simp only [h24, lb_f, Int64.or_zero, nB_t, nB_f, Bool.not_true, Bool.not_false, Bool.and_true, Bool.true_and, Bool.false_and, Bool.and_false, Bool.or_true, Bool.true_or, Bool.false_or, Bool.or_false, cond_true, cond_false]) rfl
            · have h24 : (decide ((μ.1 56 1) = 2)) = false := decide_eq_false (cn_eq.mp h24)
              refine z_rcs hc hH 3 (pc' := 74) (lv' := [(2, .int ((0 + (nB (xHi0 μ))) + (nB (xHi1 μ)))), (1, .int ((0 + (nB (decide ((μ.1 56 0) = 0)))) + (nB (decide ((μ.1 56 1) = 0))))), (5, .int 1), (3, .int (0 + (nB ((decide ((μ.1 56 0) = 2)) || (decide ((μ.1 56 0) = 3)))))), (4, .int (nB (xOp μ q))), (0, .ref 50)]) (st' := [.int 1, .ref 56, .int (0 + (nB ((decide ((μ.1 56 0) = 2)) || (decide ((μ.1 56 0) = 3)))))]) (μ' := mGP μ g p f) (by rfl) ?_
              refine zq_iald hc hH (by rfl) 4 (by decide +kernel) (show vp_in (nI 1) 4 from vp_in_nI (by decide) (by decide)) ?_
              show Z 0 75 [(2, .int ((0 + (nB (xHi0 μ))) + (nB (xHi1 μ)))), (1, .int ((0 + (nB (decide ((μ.1 56 0) = 0)))) + (nB (decide ((μ.1 56 1) = 0))))), (5, .int 1), (3, .int (0 + (nB ((decide ((μ.1 56 0) = 2)) || (decide ((μ.1 56 0) = 3)))))), (4, .int (nB (xOp μ q))), (0, .ref 50)] [.int (μ.1 56 1), .int (0 + (nB ((decide ((μ.1 56 0) = 2)) || (decide ((μ.1 56 0) = 3)))))] (mGP μ g p f)
              refine z_rcs hc hH 1 (pc' := 76) (lv' := [(2, .int ((0 + (nB (xHi0 μ))) + (nB (xHi1 μ)))), (1, .int ((0 + (nB (decide ((μ.1 56 0) = 0)))) + (nB (decide ((μ.1 56 1) = 0))))), (5, .int 1), (3, .int (0 + (nB ((decide ((μ.1 56 0) = 2)) || (decide ((μ.1 56 0) = 3)))))), (4, .int (nB (xOp μ q))), (0, .ref 50)]) (st' := [.int 3, .int (μ.1 56 1), .int (0 + (nB ((decide ((μ.1 56 0) = 2)) || (decide ((μ.1 56 0) = 3)))))]) (μ' := mGP μ g p f) (by rfl) ?_
              refine zq_ic hc hH (by rfl) (tg := 83) (by rfl) (fun h25 => ?_) (fun h25 => ?_)
              · have h25 : (decide ((μ.1 56 1) = 3)) = false := decide_eq_false (cm_ne.mp h25)
                refine z_rcs hc hH 1 (pc' := 84) (lv' := [(2, .int ((0 + (nB (xHi0 μ))) + (nB (xHi1 μ)))), (1, .int ((0 + (nB (decide ((μ.1 56 0) = 0)))) + (nB (decide ((μ.1 56 1) = 0))))), (5, .int 1), (3, .int (0 + (nB ((decide ((μ.1 56 0) = 2)) || (decide ((μ.1 56 0) = 3)))))), (4, .int (nB (xOp μ q))), (0, .ref 50)]) (st' := [.int 0, .int (0 + (nB ((decide ((μ.1 56 0) = 2)) || (decide ((μ.1 56 0) = 3)))))]) (μ' := mGP μ g p f) (by rfl) ?_
                exact zJ hJ6 rfl (by simp only [h24, h25, lb_f, Int64.or_zero, nB_t, nB_f, Bool.not_true, Bool.not_false, Bool.and_true, Bool.true_and, Bool.false_and, Bool.and_false, Bool.or_true, Bool.true_or, Bool.false_or, Bool.or_false, cond_true, cond_false]) rfl
              · have h25 : (decide ((μ.1 56 1) = 3)) = true := decide_eq_true (cn_ne.mp h25)
                refine z_rcs hc hH 2 (pc' := 84) (lv' := [(2, .int ((0 + (nB (xHi0 μ))) + (nB (xHi1 μ)))), (1, .int ((0 + (nB (decide ((μ.1 56 0) = 0)))) + (nB (decide ((μ.1 56 1) = 0))))), (5, .int 1), (3, .int (0 + (nB ((decide ((μ.1 56 0) = 2)) || (decide ((μ.1 56 0) = 3)))))), (4, .int (nB (xOp μ q))), (0, .ref 50)]) (st' := [.int 1, .int (0 + (nB ((decide ((μ.1 56 0) = 2)) || (decide ((μ.1 56 0) = 3)))))]) (μ' := mGP μ g p f) (by rfl) ?_
                exact zJ hJ6 rfl (by simp only [h24, h25, lb_f, Int64.or_zero, nB_t, nB_f, Bool.not_true, Bool.not_false, Bool.and_true, Bool.true_and, Bool.false_and, Bool.and_false, Bool.or_true, Bool.true_or, Bool.false_or, Bool.or_false, cond_true, cond_false]) rfl
          refine zq_if hc hH (by rfl) (tg := 53) (by rfl) (fun h26 => ?_) (fun h26 => ?_)
          · have h26 : (xHi1 μ) = false := nB_z.mp (cm_eq9.mp h26)
            refine z_rcs hc hH 1 (pc' := 54) (lv' := [(1, .int ((0 + (nB (decide ((μ.1 56 0) = 0)))) + (nB (decide ((μ.1 56 1) = 0))))), (5, .int 1), (3, .int (0 + (nB ((decide ((μ.1 56 0) = 2)) || (decide ((μ.1 56 0) = 3)))))), (2, .int (0 + (nB (xHi0 μ)))), (4, .int (nB (xOp μ q))), (0, .ref 50)]) (st' := [.int 0, .int (0 + (nB (xHi0 μ)))]) (μ' := mGP μ g p f) (by rfl) ?_
            exact zJ hJ5 rfl (by simp only [h26, lb_f, Int64.or_zero, nB_t, nB_f, Bool.not_true, Bool.not_false, Bool.and_true, Bool.true_and, Bool.false_and, Bool.and_false, Bool.or_true, Bool.true_or, Bool.false_or, Bool.or_false, cond_true, cond_false]) rfl
          · have h26 : (xHi1 μ) = true := nB_n.mp (cn_eq.mp h26)
            refine z_rcs hc hH 2 (pc' := 54) (lv' := [(1, .int ((0 + (nB (decide ((μ.1 56 0) = 0)))) + (nB (decide ((μ.1 56 1) = 0))))), (5, .int 1), (3, .int (0 + (nB ((decide ((μ.1 56 0) = 2)) || (decide ((μ.1 56 0) = 3)))))), (2, .int (0 + (nB (xHi0 μ)))), (4, .int (nB (xOp μ q))), (0, .ref 50)]) (st' := [.int 1, .int (0 + (nB (xHi0 μ)))]) (μ' := mGP μ g p f) (by rfl) ?_
            exact zJ hJ5 rfl (by simp only [h26, lb_f, Int64.or_zero, nB_t, nB_f, Bool.not_true, Bool.not_false, Bool.and_true, Bool.true_and, Bool.false_and, Bool.and_false, Bool.or_true, Bool.true_or, Bool.false_or, Bool.or_false, cond_true, cond_false]) rfl
        refine zq_if hc hH (by rfl) (tg := 36) (by rfl) (fun h27 => ?_) (fun h27 => ?_)
        · have h27 : (decide ((μ.1 56 1) = 0)) = false := decide_eq_false (cm_ne.mp h27)
          refine z_rcs hc hH 1 (pc' := 37) (lv' := [(5, .int 1), (3, .int (0 + (nB ((decide ((μ.1 56 0) = 2)) || (decide ((μ.1 56 0) = 3)))))), (2, .int (0 + (nB (xHi0 μ)))), (1, .int (0 + (nB (decide ((μ.1 56 0) = 0))))), (4, .int (nB (xOp μ q))), (0, .ref 50)]) (st' := [.int 0, .int (0 + (nB (decide ((μ.1 56 0) = 0))))]) (μ' := mGP μ g p f) (by rfl) ?_
          exact zJ hJ4 rfl (by simp only [h27, lb_f, Int64.or_zero, nB_t, nB_f, Bool.not_true, Bool.not_false, Bool.and_true, Bool.true_and, Bool.false_and, Bool.and_false, Bool.or_true, Bool.true_or, Bool.false_or, Bool.or_false, cond_true, cond_false]) rfl
        · have h27 : (decide ((μ.1 56 1) = 0)) = true := decide_eq_true (cn_ne.mp h27)
          refine z_rcs hc hH 2 (pc' := 37) (lv' := [(5, .int 1), (3, .int (0 + (nB ((decide ((μ.1 56 0) = 2)) || (decide ((μ.1 56 0) = 3)))))), (2, .int (0 + (nB (xHi0 μ)))), (1, .int (0 + (nB (decide ((μ.1 56 0) = 0))))), (4, .int (nB (xOp μ q))), (0, .ref 50)]) (st' := [.int 1, .int (0 + (nB (decide ((μ.1 56 0) = 0))))]) (μ' := mGP μ g p f) (by rfl) ?_
          exact zJ hJ4 rfl (by simp only [h27, lb_f, Int64.or_zero, nB_t, nB_f, Bool.not_true, Bool.not_false, Bool.and_true, Bool.true_and, Bool.false_and, Bool.and_false, Bool.or_true, Bool.true_or, Bool.false_or, Bool.or_false, cond_true, cond_false]) rfl
      refine zq_ic hc hH (by rfl) (tg := 79) (by rfl) (fun h28 => ?_) (fun h28 => ?_)
      · have h28 : (decide ((μ.1 56 0) = 2)) = true := decide_eq_true (cm_eq9.mp h28)
        refine z_rcs hc hH 2 (pc' := 84) (lv' := [(2, .int (0 + (nB (xHi0 μ)))), (1, .int (0 + (nB (decide ((μ.1 56 0) = 0))))), (5, .int 0), (4, .int (nB (xOp μ q))), (3, .int 0), (0, .ref 50)]) (st' := [.int 1, .int 0]) (μ' := mGP μ g p f) (by rfl) ?_
        exact zJ hJ3 rfl (by simp only [h28, lb_f, Int64.or_zero, nB_t, nB_f, Bool.not_true, Bool.not_false, Bool.and_true, Bool.true_and, Bool.false_and, Bool.and_false, Bool.or_true, Bool.true_or, Bool.false_or, Bool.or_false, cond_true, cond_false]) rfl
      · have h28 : (decide ((μ.1 56 0) = 2)) = false := decide_eq_false (cn_eq.mp h28)
        refine z_rcs hc hH 3 (pc' := 74) (lv' := [(2, .int (0 + (nB (xHi0 μ)))), (1, .int (0 + (nB (decide ((μ.1 56 0) = 0))))), (5, .int 0), (4, .int (nB (xOp μ q))), (3, .int 0), (0, .ref 50)]) (st' := [.int 0, .ref 56, .int 0]) (μ' := mGP μ g p f) (by rfl) ?_
        refine zq_iald hc hH (by rfl) 4 (by decide +kernel) (show vp_in (nI 0) 4 from vp_in_nI (by decide) (by decide)) ?_
        show Z 0 75 [(2, .int (0 + (nB (xHi0 μ)))), (1, .int (0 + (nB (decide ((μ.1 56 0) = 0))))), (5, .int 0), (4, .int (nB (xOp μ q))), (3, .int 0), (0, .ref 50)] [.int (μ.1 56 0), .int 0] (mGP μ g p f)
        refine z_rcs hc hH 1 (pc' := 76) (lv' := [(2, .int (0 + (nB (xHi0 μ)))), (1, .int (0 + (nB (decide ((μ.1 56 0) = 0))))), (5, .int 0), (4, .int (nB (xOp μ q))), (3, .int 0), (0, .ref 50)]) (st' := [.int 3, .int (μ.1 56 0), .int 0]) (μ' := mGP μ g p f) (by rfl) ?_
        refine zq_ic hc hH (by rfl) (tg := 83) (by rfl) (fun h29 => ?_) (fun h29 => ?_)
        · have h29 : (decide ((μ.1 56 0) = 3)) = false := decide_eq_false (cm_ne.mp h29)
          refine z_rcs hc hH 1 (pc' := 84) (lv' := [(2, .int (0 + (nB (xHi0 μ)))), (1, .int (0 + (nB (decide ((μ.1 56 0) = 0))))), (5, .int 0), (4, .int (nB (xOp μ q))), (3, .int 0), (0, .ref 50)]) (st' := [.int 0, .int 0]) (μ' := mGP μ g p f) (by rfl) ?_
          exact zJ hJ3 rfl (by simp only [h28, h29, lb_f, Int64.or_zero, nB_t, nB_f, Bool.not_true, Bool.not_false, Bool.and_true, Bool.true_and, Bool.false_and, Bool.and_false, Bool.or_true, Bool.true_or, Bool.false_or, Bool.or_false, cond_true, cond_false]) rfl
        · have h29 : (decide ((μ.1 56 0) = 3)) = true := decide_eq_true (cn_ne.mp h29)
          refine z_rcs hc hH 2 (pc' := 84) (lv' := [(2, .int (0 + (nB (xHi0 μ)))), (1, .int (0 + (nB (decide ((μ.1 56 0) = 0))))), (5, .int 0), (4, .int (nB (xOp μ q))), (3, .int 0), (0, .ref 50)]) (st' := [.int 1, .int 0]) (μ' := mGP μ g p f) (by rfl) ?_
          exact zJ hJ3 rfl (by simp only [h28, h29, lb_f, Int64.or_zero, nB_t, nB_f, Bool.not_true, Bool.not_false, Bool.and_true, Bool.true_and, Bool.false_and, Bool.and_false, Bool.or_true, Bool.true_or, Bool.false_or, Bool.or_false, cond_true, cond_false]) rfl
    refine zq_if hc hH (by rfl) (tg := 53) (by rfl) (fun h30 => ?_) (fun h30 => ?_)
    · have h30 : (xHi0 μ) = false := nB_z.mp (cm_eq9.mp h30)
      refine z_rcs hc hH 1 (pc' := 54) (lv' := [(1, .int (0 + (nB (decide ((μ.1 56 0) = 0))))), (5, .int 0), (4, .int (nB (xOp μ q))), (3, .int 0), (2, .int 0), (0, .ref 50)]) (st' := [.int 0, .int 0]) (μ' := mGP μ g p f) (by rfl) ?_
      exact zJ hJ2 rfl (by simp only [h30, lb_f, Int64.or_zero, nB_t, nB_f, Bool.not_true, Bool.not_false, Bool.and_true, Bool.true_and, Bool.false_and, Bool.and_false, Bool.or_true, Bool.true_or, Bool.false_or, Bool.or_false, cond_true, cond_false]) rfl
    · have h30 : (xHi0 μ) = true := nB_n.mp (cn_eq.mp h30)
      refine z_rcs hc hH 2 (pc' := 54) (lv' := [(1, .int (0 + (nB (decide ((μ.1 56 0) = 0))))), (5, .int 0), (4, .int (nB (xOp μ q))), (3, .int 0), (2, .int 0), (0, .ref 50)]) (st' := [.int 1, .int 0]) (μ' := mGP μ g p f) (by rfl) ?_
      exact zJ hJ2 rfl (by simp only [h30, lb_f, Int64.or_zero, nB_t, nB_f, Bool.not_true, Bool.not_false, Bool.and_true, Bool.true_and, Bool.false_and, Bool.and_false, Bool.or_true, Bool.true_or, Bool.false_or, Bool.or_false, cond_true, cond_false]) rfl
  refine zq_if hc hH (by rfl) (tg := 36) (by rfl) (fun h31 => ?_) (fun h31 => ?_)
  · have h31 : (decide ((μ.1 56 0) = 0)) = false := decide_eq_false (cm_ne.mp h31)
    refine z_rcs hc hH 1 (pc' := 37) (lv' := [(5, .int 0), (4, .int (nB (xOp μ q))), (3, .int 0), (2, .int 0), (1, .int 0), (0, .ref 50)]) (st' := [.int 0, .int 0]) (μ' := mGP μ g p f) (by rfl) ?_
    exact zJ hJ1 rfl (by simp only [h31, lb_f, Int64.or_zero, nB_t, nB_f, Bool.not_true, Bool.not_false, Bool.and_true, Bool.true_and, Bool.false_and, Bool.and_false, Bool.or_true, Bool.true_or, Bool.false_or, Bool.or_false, cond_true, cond_false]) rfl
  · have h31 : (decide ((μ.1 56 0) = 0)) = true := decide_eq_true (cn_ne.mp h31)
    refine z_rcs hc hH 2 (pc' := 37) (lv' := [(5, .int 0), (4, .int (nB (xOp μ q))), (3, .int 0), (2, .int 0), (1, .int 0), (0, .ref 50)]) (st' := [.int 1, .int 0]) (μ' := mGP μ g p f) (by rfl) ?_
    exact zJ hJ1 rfl (by simp only [h31, lb_f, Int64.or_zero, nB_t, nB_f, Bool.not_true, Bool.not_false, Bool.and_true, Bool.true_and, Bool.false_and, Bool.and_false, Bool.or_true, Bool.true_or, Bool.false_or, Bool.or_false, cond_true, cond_false]) rfl
theorem fs92 (d' : Nat) (Z : zK) (hd : 4 ≤ d') (μ : zM) (q : Nat) (hq : q ≤ 4) (e4 : μ.1 50 4 = nI q) (s l : Nat → Nat) (hA : AY μ s l) (hco : vp_in (μ.1 50 22) 5) (hc : z_clo z_x0 mi_X7_firstSort (z_C d') Z) (x3 : Int32) (x2 : Int32) (x1 : Int32) (b4 : Bool) (g p : Int64) (f : Int32) (K : Z 0 164 [(6, .int (nB (!(decide (4 ≤ (μ.1 50 22))) && (decide ((μ.1 56 (μ.1 50 22).toNatClampNeg) = 0))))), (5, .int (nB ((xDr (μ.1 50 21)) || ((decide ((μ.1 50 21) = (27 + (μ.1 50 8)))) || (decide ((μ.1 50 21) = (27 + (μ.1 50 9)))))))), (3, .int x3), (2, .int x2), (1, .int x1), (4, .int (nB b4)), (0, .ref 50)] [] (mGP μ g p f)) : Z 0 92 [(5, .int 4), (3, .int x3), (2, .int x2), (1, .int x1), (4, .int (nB b4)), (0, .ref 50)] [] (mGP μ g p f) := by
  have hH : zH mi_X7_firstSort zt_X7_firstSort 79 7 14 := hh_X7_firstSort
  refine z_rcs hc hH 2 (pc' := 96) (lv' := [(5, .int 4), (3, .int x3), (2, .int x2), (1, .int x1), (4, .int (nB b4)), (0, .ref 50)]) (st' := [.int (μ.1 50 21)]) (μ' := mGP μ g p f) (by rfl) ?_
  refine zq_call hc (z_cx_ok hH (by rfl)) (fb_X7_isDragon d' (by omega) (mGP μ g p f) (μ.1 50 21)) (by decide +kernel) (fun r9 μ9 hq => ?_)
  obtain ⟨hμ9, rfl⟩ := hq
  rw [hμ9]
  clear hμ9 μ9
  show Z 0 99 [(5, .int 4), (3, .int x3), (2, .int x2), (1, .int x1), (4, .int (nB b4)), (0, .ref 50)] [.int (nB (xDr (μ.1 50 21)))] (mGP μ g p f)
  have hJ1 : Z 0 135 [(5, .int 4), (3, .int x3), (2, .int x2), (1, .int x1), (4, .int (nB b4)), (0, .ref 50)] [.int (nB ((xDr (μ.1 50 21)) || ((decide ((μ.1 50 21) = (27 + (μ.1 50 8)))) || (decide ((μ.1 50 21) = (27 + (μ.1 50 9)))))))] (mGP μ g p f) := by
    generalize hee2 : ((xDr (μ.1 50 21)) || ((decide ((μ.1 50 21) = (27 + (μ.1 50 8)))) || (decide ((μ.1 50 21) = (27 + (μ.1 50 9)))))) = ee2
    refine z_rcs hc hH 4 (pc' := 142) (lv' := [(5, .int (nB ee2)), (3, .int x3), (2, .int x2), (1, .int x1), (4, .int (nB b4)), (0, .ref 50)]) (st' := [.int 4, .int (μ.1 50 22)]) (μ' := mGP μ g p f) (by rfl) ?_
    have hJ3 : Z 0 162 [(5, .int (nB ee2)), (3, .int x3), (2, .int x2), (1, .int x1), (4, .int (nB b4)), (0, .ref 50)] [.int (nB (!(decide (4 ≤ (μ.1 50 22))) && (decide ((μ.1 56 (μ.1 50 22).toNatClampNeg) = 0))))] (mGP μ g p f) := by
      generalize hee4 : (!(decide (4 ≤ (μ.1 50 22))) && (decide ((μ.1 56 (μ.1 50 22).toNatClampNeg) = 0))) = ee4
      refine z_rcs hc hH 1 (pc' := 164) (lv' := [(6, .int (nB ee4)), (5, .int (nB ee2)), (3, .int x3), (2, .int x2), (1, .int x1), (4, .int (nB b4)), (0, .ref 50)]) (st' := []) (μ' := mGP μ g p f) (by rfl) ?_
      subst hee4
      subst hee2
      exact K
    refine zq_ic hc hH (by rfl) (tg := 161) (by rfl) (fun h5 => ?_) (fun h5 => ?_)
    · have h5 : (decide (4 ≤ (μ.1 50 22))) = true := decide_eq_true (cm_ge.mp h5)
      refine z_rcs hc hH 1 (pc' := 162) (lv' := [(5, .int (nB ee2)), (3, .int x3), (2, .int x2), (1, .int x1), (4, .int (nB b4)), (0, .ref 50)]) (st' := [.int 0]) (μ' := mGP μ g p f) (by rfl) ?_
      exact zJ hJ3 rfl (by simp only [h5, lb_f, Int64.or_zero, nB_t, nB_f, Bool.not_true, Bool.not_false, Bool.and_true, Bool.true_and, Bool.false_and, Bool.and_false, Bool.or_true, Bool.true_or, Bool.false_or, Bool.or_false, cond_true, cond_false]) rfl
    · have h5 : (decide (4 ≤ (μ.1 50 22))) = false := decide_eq_false (cn_ge.mp h5)
      refine z_rcs hc hH 4 (pc' := 153) (lv' := [(5, .int (nB ee2)), (3, .int x3), (2, .int x2), (1, .int x1), (4, .int (nB b4)), (0, .ref 50)]) (st' := [.int (μ.1 50 22), .ref 56]) (μ' := mGP μ g p f) (by rfl) ?_
      refine zq_iald hc hH (by rfl) 4 (by decide +kernel) (in4a hco h5) ?_
      refine zq_if hc hH (by rfl) (tg := 161) (by rfl) (fun h6 => ?_) (fun h6 => ?_)
      · have h6 : (decide ((μ.1 56 (μ.1 50 22).toNatClampNeg) = 0)) = false := decide_eq_false (cm_ne.mp h6)
        refine z_rcs hc hH 1 (pc' := 162) (lv' := [(5, .int (nB ee2)), (3, .int x3), (2, .int x2), (1, .int x1), (4, .int (nB b4)), (0, .ref 50)]) (st' := [.int 0]) (μ' := mGP μ g p f) (by rfl) ?_
        exact zJ hJ3 rfl (by simp only [h5, h6, lb_f, Int64.or_zero, nB_t, nB_f, Bool.not_true, Bool.not_false, Bool.and_true, Bool.true_and, Bool.false_and, Bool.and_false, Bool.or_true, Bool.true_or, Bool.false_or, Bool.or_false, cond_true, cond_false]) rfl
      · have h6 : (decide ((μ.1 56 (μ.1 50 22).toNatClampNeg) = 0)) = true := decide_eq_true (cn_ne.mp h6)
        refine z_rcs hc hH 2 (pc' := 162) (lv' := [(5, .int (nB ee2)), (3, .int x3), (2, .int x2), (1, .int x1), (4, .int (nB b4)), (0, .ref 50)]) (st' := [.int 1]) (μ' := mGP μ g p f) (by rfl) ?_
        exact zJ hJ3 rfl (by simp only [h5, h6, lb_f, Int64.or_zero, nB_t, nB_f, Bool.not_true, Bool.not_false, Bool.and_true, Bool.true_and, Bool.false_and, Bool.and_false, Bool.or_true, Bool.true_or, Bool.false_or, Bool.or_false, cond_true, cond_false]) rfl
  refine zq_if hc hH (by rfl) (tg := 130) (by rfl) (fun h7 => ?_) (fun h7 => ?_)
  · have h7 : (xDr (μ.1 50 21)) = true := nB_n.mp (cm_ne.mp h7)
    refine z_rcs hc hH 2 (pc' := 135) (lv' := [(5, .int 4), (3, .int x3), (2, .int x2), (1, .int x1), (4, .int (nB b4)), (0, .ref 50)]) (st' := [.int 1]) (μ' := mGP μ g p f) (by rfl) ?_
    exact zJ hJ1 rfl (by simp only [h7, lb_f, Int64.or_zero, nB_t, nB_f, Bool.not_true, Bool.not_false, Bool.and_true, Bool.true_and, Bool.false_and, Bool.and_false, Bool.or_true, Bool.true_or, Bool.false_or, Bool.or_false, cond_true, cond_false]) rfl
  · have h7 : (xDr (μ.1 50 21)) = false := nB_z.mp (cn_ne.mp h7)
    refine z_rcs hc hH 6 (pc' := 113) (lv' := [(5, .int 4), (3, .int x3), (2, .int x2), (1, .int x1), (4, .int (nB b4)), (0, .ref 50)]) (st' := [.int (27 + (μ.1 50 8)), .int (μ.1 50 21)]) (μ' := mGP μ g p f) (by rfl) ?_
    refine zq_ic hc hH (by rfl) (tg := 130) (by rfl) (fun h8 => ?_) (fun h8 => ?_)
    · have h8 : (decide ((μ.1 50 21) = (27 + (μ.1 50 8)))) = true := decide_eq_true (cm_eq9.mp h8)
      refine z_rcs hc hH 2 (pc' := 135) (lv' := [(5, .int 4), (3, .int x3), (2, .int x2), (1, .int x1), (4, .int (nB b4)), (0, .ref 50)]) (st' := [.int 1]) (μ' := mGP μ g p f) (by rfl) ?_
      exact zJ hJ1 rfl (by simp only [h7, h8, lb_f, Int64.or_zero, nB_t, nB_f, Bool.not_true, Bool.not_false, Bool.and_true, Bool.true_and, Bool.false_and, Bool.and_false, Bool.or_true, Bool.true_or, Bool.false_or, Bool.or_false, cond_true, cond_false]) rfl
    · have h8 : (decide ((μ.1 50 21) = (27 + (μ.1 50 8)))) = false := decide_eq_false (cn_eq.mp h8)
      refine z_rcs hc hH 6 (pc' := 127) (lv' := [(5, .int 4), (3, .int x3), (2, .int x2), (1, .int x1), (4, .int (nB b4)), (0, .ref 50)]) (st' := [.int (27 + (μ.1 50 9)), .int (μ.1 50 21)]) (μ' := mGP μ g p f) (by rfl) ?_
      refine zq_ic hc hH (by rfl) (tg := 134) (by rfl) (fun h9 => ?_) (fun h9 => ?_)
      · have h9 : (decide ((μ.1 50 21) = (27 + (μ.1 50 9)))) = false := decide_eq_false (cm_ne.mp h9)
        refine z_rcs hc hH 1 (pc' := 135) (lv' := [(5, .int 4), (3, .int x3), (2, .int x2), (1, .int x1), (4, .int (nB b4)), (0, .ref 50)]) (st' := [.int 0]) (μ' := mGP μ g p f) (by rfl) ?_
        exact zJ hJ1 rfl (by simp only [h7, h8, h9, lb_f, Int64.or_zero, nB_t, nB_f, Bool.not_true, Bool.not_false, Bool.and_true, Bool.true_and, Bool.false_and, Bool.and_false, Bool.or_true, Bool.true_or, Bool.false_or, Bool.or_false, cond_true, cond_false]) rfl
      · have h9 : (decide ((μ.1 50 21) = (27 + (μ.1 50 9)))) = true := decide_eq_true (cn_ne.mp h9)
        refine z_rcs hc hH 2 (pc' := 135) (lv' := [(5, .int 4), (3, .int x3), (2, .int x2), (1, .int x1), (4, .int (nB b4)), (0, .ref 50)]) (st' := [.int 1]) (μ' := mGP μ g p f) (by rfl) ?_
        exact zJ hJ1 rfl (by simp only [h7, h8, h9, lb_f, Int64.or_zero, nB_t, nB_f, Bool.not_true, Bool.not_false, Bool.and_true, Bool.true_and, Bool.false_and, Bool.and_false, Bool.or_true, Bool.true_or, Bool.false_or, Bool.or_false, cond_true, cond_false]) rfl
theorem fs164 (d' : Nat) (Z : zK) (hd : 4 ≤ d') (μ : zM) (q : Nat) (hq : q ≤ 4) (e4 : μ.1 50 4 = nI q) (s l : Nat → Nat) (hA : AY μ s l) (hco : vp_in (μ.1 50 22) 5) (hc : z_clo z_x0 mi_X7_firstSort (z_C d') Z) (b6 : Bool) (b5 : Bool) (x3 : Int32) (x2 : Int32) (x1 : Int32) (b4 : Bool) (h6 : b6 = true → decide ((4 : Int32) ≤ μ.1 50 22) = false) (g p : Int64) (f : Int32) (K : Z 0 184 [(7, .int (bif b6 then μ.1 57 (μ.1 50 22).toNatClampNeg else 0)), (6, .int (nB b6)), (5, .int (nB b5)), (3, .int x3), (2, .int x2), (1, .int x1), (4, .int (nB b4)), (0, .ref 50)] [] (mGP μ g p f)) : Z 0 164 [(6, .int (nB b6)), (5, .int (nB b5)), (3, .int x3), (2, .int x2), (1, .int x1), (4, .int (nB b4)), (0, .ref 50)] [] (mGP μ g p f) := by
  have hH : zH mi_X7_firstSort zt_X7_firstSort 79 7 14 := hh_X7_firstSort
  refine z_rcs hc hH 1 (pc' := 166) (lv' := [(6, .int (nB b6)), (5, .int (nB b5)), (3, .int x3), (2, .int x2), (1, .int x1), (4, .int (nB b4)), (0, .ref 50)]) (st' := [.int (nB b6)]) (μ' := mGP μ g p f) (by rfl) ?_
  have hJ1 : Z 0 182 [(6, .int (nB b6)), (5, .int (nB b5)), (3, .int x3), (2, .int x2), (1, .int x1), (4, .int (nB b4)), (0, .ref 50)] [.int (bif b6 then μ.1 57 (μ.1 50 22).toNatClampNeg else 0)] (mGP μ g p f) := by
    refine z_rcs hc hH 1 (pc' := 184) (lv' := [(7, .int (bif b6 then μ.1 57 (μ.1 50 22).toNatClampNeg else 0)), (6, .int (nB b6)), (5, .int (nB b5)), (3, .int x3), (2, .int x2), (1, .int x1), (4, .int (nB b4)), (0, .ref 50)]) (st' := []) (μ' := mGP μ g p f) (by rfl) ?_
    exact K
  refine zq_if hc hH (by rfl) (tg := 181) (by rfl) (fun h2 => ?_) (fun h2 => ?_)
  · have h2 : (b6) = false := nB_z.mp (cm_eq9.mp h2)
    refine z_rcs hc hH 1 (pc' := 182) (lv' := [(6, .int (nB b6)), (5, .int (nB b5)), (3, .int x3), (2, .int x2), (1, .int x1), (4, .int (nB b4)), (0, .ref 50)]) (st' := [.int 0]) (μ' := mGP μ g p f) (by rfl) ?_
    exact zJ hJ1 rfl (by simp only [h2, lb_f, Int64.or_zero, nB_t, nB_f, Bool.not_true, Bool.not_false, Bool.and_true, Bool.true_and, Bool.false_and, Bool.and_false, Bool.or_true, Bool.true_or, Bool.false_or, Bool.or_false, cond_true, cond_false]) rfl
  · have h2 : (b6) = true := nB_n.mp (cn_eq.mp h2)
    refine z_rcs hc hH 4 (pc' := 177) (lv' := [(6, .int (nB b6)), (5, .int (nB b5)), (3, .int x3), (2, .int x2), (1, .int x1), (4, .int (nB b4)), (0, .ref 50)]) (st' := [.int (μ.1 50 22), .ref 57]) (μ' := mGP μ g p f) (by rfl) ?_
    refine zq_iald hc hH (by rfl) 4 (by decide +kernel) (in4a hco (h6 h2)) ?_
    refine z_rcs hc hH 1 (pc' := 182) (lv' := [(6, .int (nB b6)), (5, .int (nB b5)), (3, .int x3), (2, .int x2), (1, .int x1), (4, .int (nB b4)), (0, .ref 50)]) (st' := [.int (μ.1 57 (μ.1 50 22).toNatClampNeg)]) (μ' := mGP μ g p f) (by rfl) ?_
    exact zJ hJ1 rfl (by simp only [h2, lb_f, Int64.or_zero, nB_t, nB_f, Bool.not_true, Bool.not_false, Bool.and_true, Bool.true_and, Bool.false_and, Bool.and_false, Bool.or_true, Bool.true_or, Bool.false_or, Bool.or_false, cond_true, cond_false]) rfl
theorem fs184 (d' : Nat) (Z : zK) (hd : 4 ≤ d') (μ : zM) (q : Nat) (hq : q ≤ 4) (e4 : μ.1 50 4 = nI q) (s l : Nat → Nat) (hA : AY μ s l) (hco : vp_in (μ.1 50 22) 5) (hc : z_clo z_x0 mi_X7_firstSort (z_C d') Z) (x7 : Int32) (b6 : Bool) (b5 : Bool) (x3 : Int32) (x2 : Int32) (x1 : Int32) (b4 : Bool) (g p : Int64) (f : Int32) (K : Z 0 261 [(9, .int (nB (!b4 && ((decide (x1 = 4)) && (!b5 && (b6 && (bif decide ((μ.1 50 7) = x7) then !(decide ((x7 - x7 / 9 * 9) = 6)) || ((decide ((μ.1 50 7) = (x7 + 2))) && (!(decide ((x7 - x7 / 9 * 9) = 0)))) else (decide ((μ.1 50 7) = (x7 + 2))) && (!(decide ((x7 - x7 / 9 * 9) = 0)))))))))), (8, .int (nB (b6 && (bif decide ((μ.1 50 7) = x7) then !(decide ((x7 - x7 / 9 * 9) = 6)) || ((decide ((μ.1 50 7) = (x7 + 2))) && (!(decide ((x7 - x7 / 9 * 9) = 0)))) else (decide ((μ.1 50 7) = (x7 + 2))) && (!(decide ((x7 - x7 / 9 * 9) = 0))))))), (7, .int x7), (6, .int (nB b6)), (5, .int (nB b5)), (3, .int x3), (2, .int x2), (1, .int x1), (4, .int (nB b4)), (0, .ref 50)] [] (mGP μ g p f)) : Z 0 184 [(7, .int x7), (6, .int (nB b6)), (5, .int (nB b5)), (3, .int x3), (2, .int x2), (1, .int x1), (4, .int (nB b4)), (0, .ref 50)] [] (mGP μ g p f) := by
  have hH : zH mi_X7_firstSort zt_X7_firstSort 79 7 14 := hh_X7_firstSort
  refine z_rcs hc hH 1 (pc' := 186) (lv' := [(7, .int x7), (6, .int (nB b6)), (5, .int (nB b5)), (3, .int x3), (2, .int x2), (1, .int x1), (4, .int (nB b4)), (0, .ref 50)]) (st' := [.int (nB b6)]) (μ' := mGP μ g p f) (by rfl) ?_
  have hJ1 : Z 0 232 [(7, .int x7), (6, .int (nB b6)), (5, .int (nB b5)), (3, .int x3), (2, .int x2), (1, .int x1), (4, .int (nB b4)), (0, .ref 50)] [.int (nB (b6 && (bif decide ((μ.1 50 7) = x7) then !(decide ((x7 - x7 / 9 * 9) = 6)) || ((decide ((μ.1 50 7) = (x7 + 2))) && (!(decide ((x7 - x7 / 9 * 9) = 0)))) else (decide ((μ.1 50 7) = (x7 + 2))) && (!(decide ((x7 - x7 / 9 * 9) = 0))))))] (mGP μ g p f) := by
    generalize hee2 : (b6 && (bif decide ((μ.1 50 7) = x7) then !(decide ((x7 - x7 / 9 * 9) = 6)) || ((decide ((μ.1 50 7) = (x7 + 2))) && (!(decide ((x7 - x7 / 9 * 9) = 0)))) else (decide ((μ.1 50 7) = (x7 + 2))) && (!(decide ((x7 - x7 / 9 * 9) = 0))))) = ee2
    refine z_rcs hc hH 2 (pc' := 236) (lv' := [(8, .int (nB ee2)), (7, .int x7), (6, .int (nB b6)), (5, .int (nB b5)), (3, .int x3), (2, .int x2), (1, .int x1), (4, .int (nB b4)), (0, .ref 50)]) (st' := [.int (nB b4)]) (μ' := mGP μ g p f) (by rfl) ?_
    have hJ3 : Z 0 259 [(8, .int (nB ee2)), (7, .int x7), (6, .int (nB b6)), (5, .int (nB b5)), (3, .int x3), (2, .int x2), (1, .int x1), (4, .int (nB b4)), (0, .ref 50)] [.int (nB (!b4 && ((decide (x1 = 4)) && (!b5 && ee2))))] (mGP μ g p f) := by
      refine z_rcs hc hH 1 (pc' := 261) (lv' := [(9, .int (nB (!b4 && ((decide (x1 = 4)) && (!b5 && ee2))))), (8, .int (nB ee2)), (7, .int x7), (6, .int (nB b6)), (5, .int (nB b5)), (3, .int x3), (2, .int x2), (1, .int x1), (4, .int (nB b4)), (0, .ref 50)]) (st' := []) (μ' := mGP μ g p f) (by rfl) ?_
      subst hee2
      exact K
    refine zq_if hc hH (by rfl) (tg := 258) (by rfl) (fun h4 => ?_) (fun h4 => ?_)
    · have h4 : (b4) = true := nB_n.mp (cm_ne.mp h4)
      refine z_rcs hc hH 1 (pc' := 259) (lv' := [(8, .int (nB ee2)), (7, .int x7), (6, .int (nB b6)), (5, .int (nB b5)), (3, .int x3), (2, .int x2), (1, .int x1), (4, .int (nB b4)), (0, .ref 50)]) (st' := [.int 0]) (μ' := mGP μ g p f) (by rfl) ?_
      exact zJ hJ3 rfl (by simp only [h4, lb_f, Int64.or_zero, nB_t, nB_f, Bool.not_true, Bool.not_false, Bool.and_true, Bool.true_and, Bool.false_and, Bool.and_false, Bool.or_true, Bool.true_or, Bool.false_or, Bool.or_false, cond_true, cond_false]) rfl
    · have h4 : (b4) = false := nB_z.mp (cn_ne.mp h4)
      refine z_rcs hc hH 2 (pc' := 241) (lv' := [(8, .int (nB ee2)), (7, .int x7), (6, .int (nB b6)), (5, .int (nB b5)), (3, .int x3), (2, .int x2), (1, .int x1), (4, .int (nB b4)), (0, .ref 50)]) (st' := [.int 4, .int x1]) (μ' := mGP μ g p f) (by rfl) ?_
      refine zq_ic hc hH (by rfl) (tg := 258) (by rfl) (fun h5 => ?_) (fun h5 => ?_)
      · have h5 : (decide (x1 = 4)) = false := decide_eq_false (cm_ne.mp h5)
        refine z_rcs hc hH 1 (pc' := 259) (lv' := [(8, .int (nB ee2)), (7, .int x7), (6, .int (nB b6)), (5, .int (nB b5)), (3, .int x3), (2, .int x2), (1, .int x1), (4, .int (nB b4)), (0, .ref 50)]) (st' := [.int 0]) (μ' := mGP μ g p f) (by rfl) ?_
        exact zJ hJ3 rfl (by simp only [h4, h5, lb_f, Int64.or_zero, nB_t, nB_f, Bool.not_true, Bool.not_false, Bool.and_true, Bool.true_and, Bool.false_and, Bool.and_false, Bool.or_true, Bool.true_or, Bool.false_or, Bool.or_false, cond_true, cond_false]) rfl
      · have h5 : (decide (x1 = 4)) = true := decide_eq_true (cn_ne.mp h5)
        refine z_rcs hc hH 1 (pc' := 246) (lv' := [(8, .int (nB ee2)), (7, .int x7), (6, .int (nB b6)), (5, .int (nB b5)), (3, .int x3), (2, .int x2), (1, .int x1), (4, .int (nB b4)), (0, .ref 50)]) (st' := [.int (nB b5)]) (μ' := mGP μ g p f) (by rfl) ?_
        refine zq_if hc hH (by rfl) (tg := 258) (by rfl) (fun h6 => ?_) (fun h6 => ?_)
        · have h6 : (b5) = true := nB_n.mp (cm_ne.mp h6)
          refine z_rcs hc hH 1 (pc' := 259) (lv' := [(8, .int (nB ee2)), (7, .int x7), (6, .int (nB b6)), (5, .int (nB b5)), (3, .int x3), (2, .int x2), (1, .int x1), (4, .int (nB b4)), (0, .ref 50)]) (st' := [.int 0]) (μ' := mGP μ g p f) (by rfl) ?_
          exact zJ hJ3 rfl (by simp only [h4, h5, h6, lb_f, Int64.or_zero, nB_t, nB_f, Bool.not_true, Bool.not_false, Bool.and_true, Bool.true_and, Bool.false_and, Bool.and_false, Bool.or_true, Bool.true_or, Bool.false_or, Bool.or_false, cond_true, cond_false]) rfl
        · have h6 : (b5) = false := nB_z.mp (cn_ne.mp h6)
          refine z_rcs hc hH 1 (pc' := 251) (lv' := [(8, .int (nB ee2)), (7, .int x7), (6, .int (nB b6)), (5, .int (nB b5)), (3, .int x3), (2, .int x2), (1, .int x1), (4, .int (nB b4)), (0, .ref 50)]) (st' := [.int (nB ee2)]) (μ' := mGP μ g p f) (by rfl) ?_
          refine zq_if hc hH (by rfl) (tg := 258) (by rfl) (fun h7 => ?_) (fun h7 => ?_)
          · have h7 : (ee2) = false := nB_z.mp (cm_eq9.mp h7)
            refine z_rcs hc hH 1 (pc' := 259) (lv' := [(8, .int (nB ee2)), (7, .int x7), (6, .int (nB b6)), (5, .int (nB b5)), (3, .int x3), (2, .int x2), (1, .int x1), (4, .int (nB b4)), (0, .ref 50)]) (st' := [.int 0]) (μ' := mGP μ g p f) (by rfl) ?_
            exact zJ hJ3 rfl (by simp only [h4, h5, h6, h7, lb_f, Int64.or_zero, nB_t, nB_f, Bool.not_true, Bool.not_false, Bool.and_true, Bool.true_and, Bool.false_and, Bool.and_false, Bool.or_true, Bool.true_or, Bool.false_or, Bool.or_false, cond_true, cond_false]) rfl
          · have h7 : (ee2) = true := nB_n.mp (cn_eq.mp h7)
            refine z_rcs hc hH 2 (pc' := 259) (lv' := [(8, .int (nB ee2)), (7, .int x7), (6, .int (nB b6)), (5, .int (nB b5)), (3, .int x3), (2, .int x2), (1, .int x1), (4, .int (nB b4)), (0, .ref 50)]) (st' := [.int 1]) (μ' := mGP μ g p f) (by rfl) ?_
            exact zJ hJ3 rfl (by simp only [h4, h5, h6, h7, lb_f, Int64.or_zero, nB_t, nB_f, Bool.not_true, Bool.not_false, Bool.and_true, Bool.true_and, Bool.false_and, Bool.and_false, Bool.or_true, Bool.true_or, Bool.false_or, Bool.or_false, cond_true, cond_false]) rfl
  refine zq_if hc hH (by rfl) (tg := 231) (by rfl) (fun h8 => ?_) (fun h8 => ?_)
  · have h8 : (b6) = false := nB_z.mp (cm_eq9.mp h8)
    refine z_rcs hc hH 1 (pc' := 232) (lv' := [(7, .int x7), (6, .int (nB b6)), (5, .int (nB b5)), (3, .int x3), (2, .int x2), (1, .int x1), (4, .int (nB b4)), (0, .ref 50)]) (st' := [.int 0]) (μ' := mGP μ g p f) (by rfl) ?_
    exact zJ hJ1 rfl (by simp only [h8, lb_f, Int64.or_zero, nB_t, nB_f, Bool.not_true, Bool.not_false, Bool.and_true, Bool.true_and, Bool.false_and, Bool.and_false, Bool.or_true, Bool.true_or, Bool.false_or, Bool.or_false, cond_true, cond_false]) rfl
  · have h8 : (b6) = true := nB_n.mp (cn_eq.mp h8)
    refine z_rcs hc hH 3 (pc' := 195) (lv' := [(7, .int x7), (6, .int (nB b6)), (5, .int (nB b5)), (3, .int x3), (2, .int x2), (1, .int x1), (4, .int (nB b4)), (0, .ref 50)]) (st' := [.int x7, .int (μ.1 50 7)]) (μ' := mGP μ g p f) (by rfl) ?_
    refine zq_ic hc hH (by rfl) (tg := 208) (by rfl) (fun h9 => ?_) (fun h9 => ?_)
    · have h9 : (decide ((μ.1 50 7) = x7)) = false := decide_eq_false (cm_ne.mp h9)
      refine z_rcs hc hH 5 (pc' := 216) (lv' := [(7, .int x7), (6, .int (nB b6)), (5, .int (nB b5)), (3, .int x3), (2, .int x2), (1, .int x1), (4, .int (nB b4)), (0, .ref 50)]) (st' := [.int (x7 + 2), .int (μ.1 50 7)]) (μ' := mGP μ g p f) (by rfl) ?_
      refine zq_ic hc hH (by rfl) (tg := 231) (by rfl) (fun h10 => ?_) (fun h10 => ?_)
      · have h10 : (decide ((μ.1 50 7) = (x7 + 2))) = false := decide_eq_false (cm_ne.mp h10)
        refine z_rcs hc hH 1 (pc' := 232) (lv' := [(7, .int x7), (6, .int (nB b6)), (5, .int (nB b5)), (3, .int x3), (2, .int x2), (1, .int x1), (4, .int (nB b4)), (0, .ref 50)]) (st' := [.int 0]) (μ' := mGP μ g p f) (by rfl) ?_
        exact zJ hJ1 rfl (by simp only [h8, h9, h10, lb_f, Int64.or_zero, nB_t, nB_f, Bool.not_true, Bool.not_false, Bool.and_true, Bool.true_and, Bool.false_and, Bool.and_false, Bool.or_true, Bool.true_or, Bool.false_or, Bool.or_false, cond_true, cond_false]) rfl
      · have h10 : (decide ((μ.1 50 7) = (x7 + 2))) = true := decide_eq_true (cn_ne.mp h10)
        refine z_rcs hc hH 3 (pc' := 224) (lv' := [(7, .int x7), (6, .int (nB b6)), (5, .int (nB b5)), (3, .int x3), (2, .int x2), (1, .int x1), (4, .int (nB b4)), (0, .ref 50)]) (st' := [.int (x7 - x7 / 9 * 9)]) (μ' := mGP μ g p f) (by rfl) ?_
        refine zq_if hc hH (by rfl) (tg := 231) (by rfl) (fun h11 => ?_) (fun h11 => ?_)
        · have h11 : (decide ((x7 - x7 / 9 * 9) = 0)) = true := decide_eq_true (cm_eq9.mp h11)
          refine z_rcs hc hH 1 (pc' := 232) (lv' := [(7, .int x7), (6, .int (nB b6)), (5, .int (nB b5)), (3, .int x3), (2, .int x2), (1, .int x1), (4, .int (nB b4)), (0, .ref 50)]) (st' := [.int 0]) (μ' := mGP μ g p f) (by rfl) ?_
          exact zJ hJ1 rfl (by simp only [h8, h9, h10, h11, lb_f, Int64.or_zero, nB_t, nB_f, Bool.not_true, Bool.not_false, Bool.and_true, Bool.true_and, Bool.false_and, Bool.and_false, Bool.or_true, Bool.true_or, Bool.false_or, Bool.or_false, cond_true, cond_false]) rfl
        · have h11 : (decide ((x7 - x7 / 9 * 9) = 0)) = false := decide_eq_false (cn_eq.mp h11)
          refine z_rcs hc hH 2 (pc' := 232) (lv' := [(7, .int x7), (6, .int (nB b6)), (5, .int (nB b5)), (3, .int x3), (2, .int x2), (1, .int x1), (4, .int (nB b4)), (0, .ref 50)]) (st' := [.int 1]) (μ' := mGP μ g p f) (by rfl) ?_
          exact zJ hJ1 rfl (by simp only [h8, h9, h10, h11, lb_f, Int64.or_zero, nB_t, nB_f, Bool.not_true, Bool.not_false, Bool.and_true, Bool.true_and, Bool.false_and, Bool.and_false, Bool.or_true, Bool.true_or, Bool.false_or, Bool.or_false, cond_true, cond_false]) rfl
    · have h9 : (decide ((μ.1 50 7) = x7)) = true := decide_eq_true (cn_ne.mp h9)
      refine z_rcs hc hH 4 (pc' := 205) (lv' := [(7, .int x7), (6, .int (nB b6)), (5, .int (nB b5)), (3, .int x3), (2, .int x2), (1, .int x1), (4, .int (nB b4)), (0, .ref 50)]) (st' := [.int 6, .int (x7 - x7 / 9 * 9)]) (μ' := mGP μ g p f) (by rfl) ?_
      refine zq_ic hc hH (by rfl) (tg := 227) (by rfl) (fun h12 => ?_) (fun h12 => ?_)
      · have h12 : (decide ((x7 - x7 / 9 * 9) = 6)) = false := decide_eq_false (cm_ne.mp h12)
        refine z_rcs hc hH 2 (pc' := 232) (lv' := [(7, .int x7), (6, .int (nB b6)), (5, .int (nB b5)), (3, .int x3), (2, .int x2), (1, .int x1), (4, .int (nB b4)), (0, .ref 50)]) (st' := [.int 1]) (μ' := mGP μ g p f) (by rfl) ?_
        exact zJ hJ1 rfl (by simp only [h8, h9, h12, lb_f, Int64.or_zero, nB_t, nB_f, Bool.not_true, Bool.not_false, Bool.and_true, Bool.true_and, Bool.false_and, Bool.and_false, Bool.or_true, Bool.true_or, Bool.false_or, Bool.or_false, cond_true, cond_false]) rfl
      · have h12 : (decide ((x7 - x7 / 9 * 9) = 6)) = true := decide_eq_true (cn_ne.mp h12)
        refine z_rcs hc hH 5 (pc' := 216) (lv' := [(7, .int x7), (6, .int (nB b6)), (5, .int (nB b5)), (3, .int x3), (2, .int x2), (1, .int x1), (4, .int (nB b4)), (0, .ref 50)]) (st' := [.int (x7 + 2), .int (μ.1 50 7)]) (μ' := mGP μ g p f) (by rfl) ?_
        refine zq_ic hc hH (by rfl) (tg := 231) (by rfl) (fun h13 => ?_) (fun h13 => ?_)
        · have h13 : (decide ((μ.1 50 7) = (x7 + 2))) = false := decide_eq_false (cm_ne.mp h13)
          refine z_rcs hc hH 1 (pc' := 232) (lv' := [(7, .int x7), (6, .int (nB b6)), (5, .int (nB b5)), (3, .int x3), (2, .int x2), (1, .int x1), (4, .int (nB b4)), (0, .ref 50)]) (st' := [.int 0]) (μ' := mGP μ g p f) (by rfl) ?_
          exact zJ hJ1 rfl (by simp only [h8, h9, h12, h13, lb_f, Int64.or_zero, nB_t, nB_f, Bool.not_true, Bool.not_false, Bool.and_true, Bool.true_and, Bool.false_and, Bool.and_false, Bool.or_true, Bool.true_or, Bool.false_or, Bool.or_false, cond_true, cond_false]) rfl
        · have h13 : (decide ((μ.1 50 7) = (x7 + 2))) = true := decide_eq_true (cn_ne.mp h13)
          refine z_rcs hc hH 3 (pc' := 224) (lv' := [(7, .int x7), (6, .int (nB b6)), (5, .int (nB b5)), (3, .int x3), (2, .int x2), (1, .int x1), (4, .int (nB b4)), (0, .ref 50)]) (st' := [.int (x7 - x7 / 9 * 9)]) (μ' := mGP μ g p f) (by rfl) ?_
          refine zq_if hc hH (by rfl) (tg := 231) (by rfl) (fun h14 => ?_) (fun h14 => ?_)
          · have h14 : (decide ((x7 - x7 / 9 * 9) = 0)) = true := decide_eq_true (cm_eq9.mp h14)
            refine z_rcs hc hH 1 (pc' := 232) (lv' := [(7, .int x7), (6, .int (nB b6)), (5, .int (nB b5)), (3, .int x3), (2, .int x2), (1, .int x1), (4, .int (nB b4)), (0, .ref 50)]) (st' := [.int 0]) (μ' := mGP μ g p f) (by rfl) ?_
            exact zJ hJ1 rfl (by simp only [h8, h9, h12, h13, h14, lb_f, Int64.or_zero, nB_t, nB_f, Bool.not_true, Bool.not_false, Bool.and_true, Bool.true_and, Bool.false_and, Bool.and_false, Bool.or_true, Bool.true_or, Bool.false_or, Bool.or_false, cond_true, cond_false]) rfl
          · have h14 : (decide ((x7 - x7 / 9 * 9) = 0)) = false := decide_eq_false (cn_eq.mp h14)
            refine z_rcs hc hH 2 (pc' := 232) (lv' := [(7, .int x7), (6, .int (nB b6)), (5, .int (nB b5)), (3, .int x3), (2, .int x2), (1, .int x1), (4, .int (nB b4)), (0, .ref 50)]) (st' := [.int 1]) (μ' := mGP μ g p f) (by rfl) ?_
            exact zJ hJ1 rfl (by simp only [h8, h9, h12, h13, h14, lb_f, Int64.or_zero, nB_t, nB_f, Bool.not_true, Bool.not_false, Bool.and_true, Bool.true_and, Bool.false_and, Bool.and_false, Bool.or_true, Bool.true_or, Bool.false_or, Bool.or_false, cond_true, cond_false]) rfl
theorem fs261 (d' : Nat) (Z : zK) (hd : 4 ≤ d') (μ : zM) (q : Nat) (hq : q ≤ 4) (e4 : μ.1 50 4 = nI q) (s l : Nat → Nat) (hA : AY μ s l) (hco : vp_in (μ.1 50 22) 5) (hc : z_clo z_x0 mi_X7_firstSort (z_C d') Z) (b9 : Bool) (b8 : Bool) (x7 : Int32) (b6 : Bool) (b5 : Bool) (x3 : Int32) (x2 : Int32) (x1 : Int32) (b4 : Bool) (g p : Int64) (f : Int32) (K : Z 0 302 [(10, .int 0), (9, .int (nB b9)), (8, .int (nB b8)), (7, .int x7), (6, .int (nB b6)), (5, .int (nB b5)), (3, .int x3), (2, .int x2), (1, .int x1), (4, .int (nB b4)), (0, .ref 50)] [] (mGP μ (0 : Int64) (bif b4 then (0 : Int64) ||| (lb b9 9) else (((0 : Int64) ||| (lb b9 9)) ||| (lb (decide ((nI (twn s l 27)) = 1)) 10)) ||| (lb (decide ((nI (twn s l 27)) = 2)) 28)) f)) : Z 0 261 [(9, .int (nB b9)), (8, .int (nB b8)), (7, .int x7), (6, .int (nB b6)), (5, .int (nB b5)), (3, .int x3), (2, .int x2), (1, .int x1), (4, .int (nB b4)), (0, .ref 50)] [] (mGP μ g p f) := by
  have hH : zH mi_X7_firstSort zt_X7_firstSort 79 7 14 := hh_X7_firstSort
  refine z_rcs hc hH 3 (pc' := 266) (lv' := [(9, .int (nB b9)), (8, .int (nB b8)), (7, .int x7), (6, .int (nB b6)), (5, .int (nB b5)), (3, .int x3), (2, .int x2), (1, .int x1), (4, .int (nB b4)), (0, .ref 50)]) (st' := []) (μ' := z_uj (mGP μ g p f) 50 24 (0 : Int64)) (by rfl) ?_
  rw [mGP_g]
  refine z_rcs hc hH 3 (pc' := 271) (lv' := [(9, .int (nB b9)), (8, .int (nB b8)), (7, .int x7), (6, .int (nB b6)), (5, .int (nB b5)), (3, .int x3), (2, .int x2), (1, .int x1), (4, .int (nB b4)), (0, .ref 50)]) (st' := []) (μ' := z_uj (mGP μ (0 : Int64) p f) 50 25 (0 : Int64)) (by rfl) ?_
  rw [mGP_p]
  refine z_rcs hc hH 1 (pc' := 273) (lv' := [(9, .int (nB b9)), (8, .int (nB b8)), (7, .int x7), (6, .int (nB b6)), (5, .int (nB b5)), (3, .int x3), (2, .int x2), (1, .int x1), (4, .int (nB b4)), (0, .ref 50)]) (st' := [.int (nB b9)]) (μ' := mGP μ (0 : Int64) (0 : Int64) f) (by rfl) ?_
  have hJ1 : Z 0 290 [(9, .int (nB b9)), (8, .int (nB b8)), (7, .int x7), (6, .int (nB b6)), (5, .int (nB b5)), (3, .int x3), (2, .int x2), (1, .int x1), (4, .int (nB b4)), (0, .ref 50)] [] (mGP μ (0 : Int64) ((0 : Int64) ||| (lb b9 9)) f) := by
    refine z_rcs0 hc hH 1 (pc' := 292) (lv' := [(9, .int (nB b9)), (8, .int (nB b8)), (7, .int x7), (6, .int (nB b6)), (5, .int (nB b5)), (3, .int x3), (2, .int x2), (1, .int x1), (4, .int (nB b4)), (0, .ref 50)]) (st' := [.int (nB b4)]) (by rfl) ?_
    have hJ2 : Z 0 299 [(9, .int (nB b9)), (8, .int (nB b8)), (7, .int x7), (6, .int (nB b6)), (5, .int (nB b5)), (3, .int x3), (2, .int x2), (1, .int x1), (4, .int (nB b4)), (0, .ref 50)] [] (mGP μ (0 : Int64) (bif b4 then (0 : Int64) ||| (lb b9 9) else (((0 : Int64) ||| (lb b9 9)) ||| (lb (decide ((nI (twn s l 27)) = 1)) 10)) ||| (lb (decide ((nI (twn s l 27)) = 2)) 28)) f) := by
      generalize hyy3 : (bif b4 then (0 : Int64) ||| (lb b9 9) else (((0 : Int64) ||| (lb b9 9)) ||| (lb (decide ((nI (twn s l 27)) = 1)) 10)) ||| (lb (decide ((nI (twn s l 27)) = 2)) 28) : Int64) = yy3
      refine z_rcs hc hH 2 (pc' := 302) (lv' := [(10, .int 0), (9, .int (nB b9)), (8, .int (nB b8)), (7, .int x7), (6, .int (nB b6)), (5, .int (nB b5)), (3, .int x3), (2, .int x2), (1, .int x1), (4, .int (nB b4)), (0, .ref 50)]) (st' := []) (μ' := mGP μ (0 : Int64) yy3 f) (by rfl) ?_
      subst hyy3
      exact K
    refine zq_if hc hH (by rfl) (tg := 299) (by rfl) (fun h4 => ?_) (fun h4 => ?_)
    · have h4 : (b4) = true := nB_n.mp (cm_ne.mp h4)
      exact zJ hJ2 rfl rfl (by simp only [h4, lb_f, Int64.or_zero, nB_t, nB_f, Bool.not_true, Bool.not_false, Bool.and_true, Bool.true_and, Bool.false_and, Bool.and_false, Bool.or_true, Bool.true_or, Bool.false_or, Bool.or_false, cond_true, cond_false])
    · have h4 : (b4) = false := nB_z.mp (cn_ne.mp h4)
      refine z_rcs hc hH 1 (pc' := 296) (lv' := [(9, .int (nB b9)), (8, .int (nB b8)), (7, .int x7), (6, .int (nB b6)), (5, .int (nB b5)), (3, .int x3), (2, .int x2), (1, .int x1), (4, .int (nB b4)), (0, .ref 50)]) (st' := [.ref 50]) (μ' := mGP μ (0 : Int64) ((0 : Int64) ||| (lb b9 9)) f) (by rfl) ?_
      refine zq_call hc (z_cx_ok hH (by rfl)) (fb_X7_twins d' (by omega) (mGP μ (0 : Int64) ((0 : Int64) ||| (lb b9 9)) f) s l hA) (by decide +kernel) (fun r9 μ9 hq => ?_)
      obtain ⟨rfl, rfl⟩ := hq
      rw [mGP2]
      show Z 0 299 [(9, .int (nB b9)), (8, .int (nB b8)), (7, .int x7), (6, .int (nB b6)), (5, .int (nB b5)), (3, .int x3), (2, .int x2), (1, .int x1), (4, .int (nB b4)), (0, .ref 50)] [] (mGP μ (0 : Int64) ((((0 : Int64) ||| (lb b9 9)) ||| (lb (decide ((nI (twn s l 27)) = 1)) 10)) ||| (lb (decide ((nI (twn s l 27)) = 2)) 28)) f)
      exact zJ hJ2 rfl rfl (by simp only [h4, lb_f, Int64.or_zero, nB_t, nB_f, Bool.not_true, Bool.not_false, Bool.and_true, Bool.true_and, Bool.false_and, Bool.and_false, Bool.or_true, Bool.true_or, Bool.false_or, Bool.or_false, cond_true, cond_false])
  refine zq_if hc hH (by rfl) (tg := 290) (by rfl) (fun h5 => ?_) (fun h5 => ?_)
  · have h5 : (b9) = false := nB_z.mp (cm_eq9.mp h5)
    exact zJ hJ1 rfl rfl (by simp only [h5, lb_f, Int64.or_zero, nB_t, nB_f, Bool.not_true, Bool.not_false, Bool.and_true, Bool.true_and, Bool.false_and, Bool.and_false, Bool.or_true, Bool.true_or, Bool.false_or, Bool.or_false, cond_true, cond_false])
  · have h5 : (b9) = true := nB_n.mp (cn_eq.mp h5)
    refine z_rcs hc hH 4 (pc' := 283) (lv' := [(9, .int (nB b9)), (8, .int (nB b8)), (7, .int x7), (6, .int (nB b6)), (5, .int (nB b5)), (3, .int x3), (2, .int x2), (1, .int x1), (4, .int (nB b4)), (0, .ref 50)]) (st' := [.int 9, .long (0 : Int64), .ref 50]) (μ' := mGP μ (0 : Int64) (0 : Int64) f) (by rfl) ?_
    refine zq_call hc (z_cx_ok hH (by rfl)) (fb_X7_bit d' (by omega) (mGP μ (0 : Int64) (0 : Int64) f) 9) (by decide +kernel) (fun r9 μ9 hq => ?_)
    obtain ⟨hμ9, rfl⟩ := hq
    rw [hμ9]
    clear hμ9 μ9
    show Z 0 286 [(9, .int (nB b9)), (8, .int (nB b8)), (7, .int x7), (6, .int (nB b6)), (5, .int (nB b5)), (3, .int x3), (2, .int x2), (1, .int x1), (4, .int (nB b4)), (0, .ref 50)] [.long (lb true 9), .long (0 : Int64), .ref 50] _
    refine z_rcs hc hH 2 (pc' := 290) (lv' := [(9, .int (nB b9)), (8, .int (nB b8)), (7, .int x7), (6, .int (nB b6)), (5, .int (nB b5)), (3, .int x3), (2, .int x2), (1, .int x1), (4, .int (nB b4)), (0, .ref 50)]) (st' := []) (μ' := z_uj (mGP μ (0 : Int64) (0 : Int64) f) 50 25 ((0 : Int64) ||| (lb true 9))) (by rfl) ?_
    rw [mGP_p]
    exact zJ hJ1 rfl rfl (by simp only [h5, lb_f, Int64.or_zero, nB_t, nB_f, Bool.not_true, Bool.not_false, Bool.and_true, Bool.true_and, Bool.false_and, Bool.and_false, Bool.or_true, Bool.true_or, Bool.false_or, Bool.or_false, cond_true, cond_false])
theorem fs302 (d' : Nat) (Z : zK) (hd : 4 ≤ d') (μ : zM) (q : Nat) (hq : q ≤ 4) (e4 : μ.1 50 4 = nI q) (s l : Nat → Nat) (hA : AY μ s l) (hco : vp_in (μ.1 50 22) 5) (hc : z_clo z_x0 mi_X7_firstSort (z_C d') Z) (b9 : Bool) (b8 : Bool) (x7 : Int32) (b6 : Bool) (b5 : Bool) (x3 : Int32) (x2 : Int32) (x1 : Int32) (b4 : Bool) (g p : Int64) (f : Int32) (K : Z 0 402 [(10, .int 0), (9, .int (nB b9)), (8, .int (nB b8)), (7, .int x7), (6, .int (nB b6)), (5, .int (nB b5)), (3, .int x3), (2, .int x2), (1, .int x1), (4, .int (nB b4)), (0, .ref 50)] [] (mGP μ g (((((p ||| (lb (xT μ 31) 11)) ||| (lb (xT μ 32) 12)) ||| (lb (xT μ 33) 13)) ||| (lb (xT μ (27 + (μ.1 50 8))) 14)) ||| (lb (xT μ (27 + (μ.1 50 9))) 15)) f)) : Z 0 302 [(10, .int 0), (9, .int (nB b9)), (8, .int (nB b8)), (7, .int x7), (6, .int (nB b6)), (5, .int (nB b5)), (3, .int x3), (2, .int x2), (1, .int x1), (4, .int (nB b4)), (0, .ref 50)] [] (mGP μ g p f) := by
  have hH : zH mi_X7_firstSort zt_X7_firstSort 79 7 14 := hh_X7_firstSort
  refine z_rcs hc hH 7 (pc' := 314) (lv' := [(10, .int 0), (9, .int (nB b9)), (8, .int (nB b8)), (7, .int x7), (6, .int (nB b6)), (5, .int (nB b5)), (3, .int x3), (2, .int x2), (1, .int x1), (4, .int (nB b4)), (0, .ref 50)]) (st' := [.int 31, .ref 50]) (μ' := mGP μ g p f) (by rfl) ?_
  refine zq_call hc (z_cx_ok hH (by rfl)) (fb_X7_hasThree d' (by omega) (mGP μ g p f) 31) (by decide +kernel) (fun r9 μ9 hq => ?_)
  obtain ⟨hμ9, rfl⟩ := hq
  rw [hμ9]
  clear hμ9 μ9
  show Z 0 317 [(10, .int 0), (9, .int (nB b9)), (8, .int (nB b8)), (7, .int x7), (6, .int (nB b6)), (5, .int (nB b5)), (3, .int x3), (2, .int x2), (1, .int x1), (4, .int (nB b4)), (0, .ref 50)] [.int (nB (xT μ 31))] (mGP μ g p f)
  have hJ1 : Z 0 337 [(10, .int 0), (9, .int (nB b9)), (8, .int (nB b8)), (7, .int x7), (6, .int (nB b6)), (5, .int (nB b5)), (3, .int x3), (2, .int x2), (1, .int x1), (4, .int (nB b4)), (0, .ref 50)] [] (mGP μ g (p ||| (lb (xT μ 31) 11)) f) := by
    refine z_rcs0 hc hH 9 (pc' := 314) (lv' := [(10, .int 1), (9, .int (nB b9)), (8, .int (nB b8)), (7, .int x7), (6, .int (nB b6)), (5, .int (nB b5)), (3, .int x3), (2, .int x2), (1, .int x1), (4, .int (nB b4)), (0, .ref 50)]) (st' := [.int 32, .ref 50]) (by rfl) ?_
    refine zq_call hc (z_cx_ok hH (by rfl)) (fb_X7_hasThree d' (by omega) (mGP μ g (p ||| (lb (xT μ 31) 11)) f) 32) (by decide +kernel) (fun r9 μ9 hq => ?_)
    obtain ⟨hμ9, rfl⟩ := hq
    rw [hμ9]
    clear hμ9 μ9
    show Z 0 317 [(10, .int 1), (9, .int (nB b9)), (8, .int (nB b8)), (7, .int x7), (6, .int (nB b6)), (5, .int (nB b5)), (3, .int x3), (2, .int x2), (1, .int x1), (4, .int (nB b4)), (0, .ref 50)] [.int (nB (xT μ 32))] _
    have hJ2 : Z 0 337 [(10, .int 1), (9, .int (nB b9)), (8, .int (nB b8)), (7, .int x7), (6, .int (nB b6)), (5, .int (nB b5)), (3, .int x3), (2, .int x2), (1, .int x1), (4, .int (nB b4)), (0, .ref 50)] [] (mGP μ g ((p ||| (lb (xT μ 31) 11)) ||| (lb (xT μ 32) 12)) f) := by
      refine z_rcs0 hc hH 9 (pc' := 314) (lv' := [(10, .int 2), (9, .int (nB b9)), (8, .int (nB b8)), (7, .int x7), (6, .int (nB b6)), (5, .int (nB b5)), (3, .int x3), (2, .int x2), (1, .int x1), (4, .int (nB b4)), (0, .ref 50)]) (st' := [.int 33, .ref 50]) (by rfl) ?_
      refine zq_call hc (z_cx_ok hH (by rfl)) (fb_X7_hasThree d' (by omega) (mGP μ g ((p ||| (lb (xT μ 31) 11)) ||| (lb (xT μ 32) 12)) f) 33) (by decide +kernel) (fun r9 μ9 hq => ?_)
      obtain ⟨hμ9, rfl⟩ := hq
      rw [hμ9]
      clear hμ9 μ9
      show Z 0 317 [(10, .int 2), (9, .int (nB b9)), (8, .int (nB b8)), (7, .int x7), (6, .int (nB b6)), (5, .int (nB b5)), (3, .int x3), (2, .int x2), (1, .int x1), (4, .int (nB b4)), (0, .ref 50)] [.int (nB (xT μ 33))] _
      have hJ3 : Z 0 337 [(10, .int 2), (9, .int (nB b9)), (8, .int (nB b8)), (7, .int x7), (6, .int (nB b6)), (5, .int (nB b5)), (3, .int x3), (2, .int x2), (1, .int x1), (4, .int (nB b4)), (0, .ref 50)] [] (mGP μ g (((p ||| (lb (xT μ 31) 11)) ||| (lb (xT μ 32) 12)) ||| (lb (xT μ 33) 13)) f) := by
        generalize hyy4 : (((p ||| (lb (xT μ 31) 11)) ||| (lb (xT μ 32) 12)) ||| (lb (xT μ 33) 13) : Int64) = yy4
        refine z_rcs hc hH 10 (pc' := 351) (lv' := [(10, .int 3), (9, .int (nB b9)), (8, .int (nB b8)), (7, .int x7), (6, .int (nB b6)), (5, .int (nB b5)), (3, .int x3), (2, .int x2), (1, .int x1), (4, .int (nB b4)), (0, .ref 50)]) (st' := [.int (27 + (μ.1 50 8)), .ref 50]) (μ' := mGP μ g yy4 f) (by rfl) ?_
        refine zq_call hc (z_cx_ok hH (by rfl)) (fb_X7_hasThree d' (by omega) (mGP μ g yy4 f) (27 + (μ.1 50 8))) (by decide +kernel) (fun r9 μ9 hq => ?_)
        obtain ⟨hμ9, rfl⟩ := hq
        rw [hμ9]
        clear hμ9 μ9
        show Z 0 354 [(10, .int 3), (9, .int (nB b9)), (8, .int (nB b8)), (7, .int x7), (6, .int (nB b6)), (5, .int (nB b5)), (3, .int x3), (2, .int x2), (1, .int x1), (4, .int (nB b4)), (0, .ref 50)] [.int (nB (xT μ (27 + (μ.1 50 8))))] (mGP μ g yy4 f)
        have hJ5 : Z 0 371 [(10, .int 3), (9, .int (nB b9)), (8, .int (nB b8)), (7, .int x7), (6, .int (nB b6)), (5, .int (nB b5)), (3, .int x3), (2, .int x2), (1, .int x1), (4, .int (nB b4)), (0, .ref 50)] [] (mGP μ g (yy4 ||| (lb (xT μ (27 + (μ.1 50 8))) 14)) f) := by
          refine z_rcs0 hc hH 5 (pc' := 379) (lv' := [(10, .int 3), (9, .int (nB b9)), (8, .int (nB b8)), (7, .int x7), (6, .int (nB b6)), (5, .int (nB b5)), (3, .int x3), (2, .int x2), (1, .int x1), (4, .int (nB b4)), (0, .ref 50)]) (st' := [.int (27 + (μ.1 50 9)), .ref 50]) (by rfl) ?_
          refine zq_call hc (z_cx_ok hH (by rfl)) (fb_X7_hasThree d' (by omega) (mGP μ g (yy4 ||| (lb (xT μ (27 + (μ.1 50 8))) 14)) f) (27 + (μ.1 50 9))) (by decide +kernel) (fun r9 μ9 hq => ?_)
          obtain ⟨hμ9, rfl⟩ := hq
          rw [hμ9]
          clear hμ9 μ9
          show Z 0 382 [(10, .int 3), (9, .int (nB b9)), (8, .int (nB b8)), (7, .int x7), (6, .int (nB b6)), (5, .int (nB b5)), (3, .int x3), (2, .int x2), (1, .int x1), (4, .int (nB b4)), (0, .ref 50)] [.int (nB (xT μ (27 + (μ.1 50 9))))] _
          have hJ6 : Z 0 399 [(10, .int 3), (9, .int (nB b9)), (8, .int (nB b8)), (7, .int x7), (6, .int (nB b6)), (5, .int (nB b5)), (3, .int x3), (2, .int x2), (1, .int x1), (4, .int (nB b4)), (0, .ref 50)] [] (mGP μ g ((yy4 ||| (lb (xT μ (27 + (μ.1 50 8))) 14)) ||| (lb (xT μ (27 + (μ.1 50 9))) 15)) f) := by
            generalize hyy7 : ((yy4 ||| (lb (xT μ (27 + (μ.1 50 8))) 14)) ||| (lb (xT μ (27 + (μ.1 50 9))) 15) : Int64) = yy7
            refine z_rcs hc hH 2 (pc' := 402) (lv' := [(10, .int 0), (9, .int (nB b9)), (8, .int (nB b8)), (7, .int x7), (6, .int (nB b6)), (5, .int (nB b5)), (3, .int x3), (2, .int x2), (1, .int x1), (4, .int (nB b4)), (0, .ref 50)]) (st' := []) (μ' := mGP μ g yy7 f) (by rfl) ?_
            subst hyy7
            subst hyy4
            exact K
          refine zq_if hc hH (by rfl) (tg := 399) (by rfl) (fun h8 => ?_) (fun h8 => ?_)
          · have h8 : (xT μ (27 + (μ.1 50 9))) = false := nB_z.mp (cm_eq9.mp h8)
            exact zJ hJ6 rfl rfl (by simp only [h8, lb_f, Int64.or_zero, nB_t, nB_f, Bool.not_true, Bool.not_false, Bool.and_true, Bool.true_and, Bool.false_and, Bool.and_false, Bool.or_true, Bool.true_or, Bool.false_or, Bool.or_false, cond_true, cond_false])
          · have h8 : (xT μ (27 + (μ.1 50 9))) = true := nB_n.mp (cn_eq.mp h8)
            refine z_rcs hc hH 4 (pc' := 392) (lv' := [(10, .int 3), (9, .int (nB b9)), (8, .int (nB b8)), (7, .int x7), (6, .int (nB b6)), (5, .int (nB b5)), (3, .int x3), (2, .int x2), (1, .int x1), (4, .int (nB b4)), (0, .ref 50)]) (st' := [.int 15, .long (yy4 ||| (lb (xT μ (27 + (μ.1 50 8))) 14)), .ref 50]) (μ' := mGP μ g (yy4 ||| (lb (xT μ (27 + (μ.1 50 8))) 14)) f) (by rfl) ?_
            refine zq_call hc (z_cx_ok hH (by rfl)) (fb_X7_bit d' (by omega) (mGP μ g (yy4 ||| (lb (xT μ (27 + (μ.1 50 8))) 14)) f) 15) (by decide +kernel) (fun r9 μ9 hq => ?_)
            obtain ⟨hμ9, rfl⟩ := hq
            rw [hμ9]
            clear hμ9 μ9
            show Z 0 395 [(10, .int 3), (9, .int (nB b9)), (8, .int (nB b8)), (7, .int x7), (6, .int (nB b6)), (5, .int (nB b5)), (3, .int x3), (2, .int x2), (1, .int x1), (4, .int (nB b4)), (0, .ref 50)] [.long (lb true 15), .long (yy4 ||| (lb (xT μ (27 + (μ.1 50 8))) 14)), .ref 50] _
            refine z_rcs hc hH 2 (pc' := 399) (lv' := [(10, .int 3), (9, .int (nB b9)), (8, .int (nB b8)), (7, .int x7), (6, .int (nB b6)), (5, .int (nB b5)), (3, .int x3), (2, .int x2), (1, .int x1), (4, .int (nB b4)), (0, .ref 50)]) (st' := []) (μ' := z_uj (mGP μ g (yy4 ||| (lb (xT μ (27 + (μ.1 50 8))) 14)) f) 50 25 ((yy4 ||| (lb (xT μ (27 + (μ.1 50 8))) 14)) ||| (lb true 15))) (by rfl) ?_
            rw [mGP_p]
            exact zJ hJ6 rfl rfl (by simp only [h8, lb_f, Int64.or_zero, nB_t, nB_f, Bool.not_true, Bool.not_false, Bool.and_true, Bool.true_and, Bool.false_and, Bool.and_false, Bool.or_true, Bool.true_or, Bool.false_or, Bool.or_false, cond_true, cond_false])
        refine zq_if hc hH (by rfl) (tg := 371) (by rfl) (fun h9 => ?_) (fun h9 => ?_)
        · have h9 : (xT μ (27 + (μ.1 50 8))) = false := nB_z.mp (cm_eq9.mp h9)
          exact zJ hJ5 rfl rfl (by simp only [h9, lb_f, Int64.or_zero, nB_t, nB_f, Bool.not_true, Bool.not_false, Bool.and_true, Bool.true_and, Bool.false_and, Bool.and_false, Bool.or_true, Bool.true_or, Bool.false_or, Bool.or_false, cond_true, cond_false])
        · have h9 : (xT μ (27 + (μ.1 50 8))) = true := nB_n.mp (cn_eq.mp h9)
          refine z_rcs hc hH 4 (pc' := 364) (lv' := [(10, .int 3), (9, .int (nB b9)), (8, .int (nB b8)), (7, .int x7), (6, .int (nB b6)), (5, .int (nB b5)), (3, .int x3), (2, .int x2), (1, .int x1), (4, .int (nB b4)), (0, .ref 50)]) (st' := [.int 14, .long yy4, .ref 50]) (μ' := mGP μ g yy4 f) (by rfl) ?_
          refine zq_call hc (z_cx_ok hH (by rfl)) (fb_X7_bit d' (by omega) (mGP μ g yy4 f) 14) (by decide +kernel) (fun r9 μ9 hq => ?_)
          obtain ⟨hμ9, rfl⟩ := hq
          rw [hμ9]
          clear hμ9 μ9
          show Z 0 367 [(10, .int 3), (9, .int (nB b9)), (8, .int (nB b8)), (7, .int x7), (6, .int (nB b6)), (5, .int (nB b5)), (3, .int x3), (2, .int x2), (1, .int x1), (4, .int (nB b4)), (0, .ref 50)] [.long (lb true 14), .long yy4, .ref 50] (mGP μ g yy4 f)
          refine z_rcs hc hH 2 (pc' := 371) (lv' := [(10, .int 3), (9, .int (nB b9)), (8, .int (nB b8)), (7, .int x7), (6, .int (nB b6)), (5, .int (nB b5)), (3, .int x3), (2, .int x2), (1, .int x1), (4, .int (nB b4)), (0, .ref 50)]) (st' := []) (μ' := z_uj (mGP μ g yy4 f) 50 25 (yy4 ||| (lb true 14))) (by rfl) ?_
          rw [mGP_p]
          exact zJ hJ5 rfl rfl (by simp only [h9, lb_f, Int64.or_zero, nB_t, nB_f, Bool.not_true, Bool.not_false, Bool.and_true, Bool.true_and, Bool.false_and, Bool.and_false, Bool.or_true, Bool.true_or, Bool.false_or, Bool.or_false, cond_true, cond_false])
      refine zq_if hc hH (by rfl) (tg := 337) (by rfl) (fun h10 => ?_) (fun h10 => ?_)
      · have h10 : (xT μ 33) = false := nB_z.mp (cm_eq9.mp h10)
        exact zJ hJ3 rfl rfl (by simp only [h10, lb_f, Int64.or_zero, nB_t, nB_f, Bool.not_true, Bool.not_false, Bool.and_true, Bool.true_and, Bool.false_and, Bool.and_false, Bool.or_true, Bool.true_or, Bool.false_or, Bool.or_false, cond_true, cond_false])
      · have h10 : (xT μ 33) = true := nB_n.mp (cn_eq.mp h10)
        refine z_rcs hc hH 6 (pc' := 330) (lv' := [(10, .int 2), (9, .int (nB b9)), (8, .int (nB b8)), (7, .int x7), (6, .int (nB b6)), (5, .int (nB b5)), (3, .int x3), (2, .int x2), (1, .int x1), (4, .int (nB b4)), (0, .ref 50)]) (st' := [.int 13, .long ((p ||| (lb (xT μ 31) 11)) ||| (lb (xT μ 32) 12)), .ref 50]) (μ' := mGP μ g ((p ||| (lb (xT μ 31) 11)) ||| (lb (xT μ 32) 12)) f) (by rfl) ?_
        refine zq_call hc (z_cx_ok hH (by rfl)) (fb_X7_bit d' (by omega) (mGP μ g ((p ||| (lb (xT μ 31) 11)) ||| (lb (xT μ 32) 12)) f) 13) (by decide +kernel) (fun r9 μ9 hq => ?_)
        obtain ⟨hμ9, rfl⟩ := hq
        rw [hμ9]
        clear hμ9 μ9
        show Z 0 333 [(10, .int 2), (9, .int (nB b9)), (8, .int (nB b8)), (7, .int x7), (6, .int (nB b6)), (5, .int (nB b5)), (3, .int x3), (2, .int x2), (1, .int x1), (4, .int (nB b4)), (0, .ref 50)] [.long (lb true 13), .long ((p ||| (lb (xT μ 31) 11)) ||| (lb (xT μ 32) 12)), .ref 50] _
        refine z_rcs hc hH 2 (pc' := 337) (lv' := [(10, .int 2), (9, .int (nB b9)), (8, .int (nB b8)), (7, .int x7), (6, .int (nB b6)), (5, .int (nB b5)), (3, .int x3), (2, .int x2), (1, .int x1), (4, .int (nB b4)), (0, .ref 50)]) (st' := []) (μ' := z_uj (mGP μ g ((p ||| (lb (xT μ 31) 11)) ||| (lb (xT μ 32) 12)) f) 50 25 (((p ||| (lb (xT μ 31) 11)) ||| (lb (xT μ 32) 12)) ||| (lb true 13))) (by rfl) ?_
        rw [mGP_p]
        exact zJ hJ3 rfl rfl (by simp only [h10, lb_f, Int64.or_zero, nB_t, nB_f, Bool.not_true, Bool.not_false, Bool.and_true, Bool.true_and, Bool.false_and, Bool.and_false, Bool.or_true, Bool.true_or, Bool.false_or, Bool.or_false, cond_true, cond_false])
    refine zq_if hc hH (by rfl) (tg := 337) (by rfl) (fun h11 => ?_) (fun h11 => ?_)
    · have h11 : (xT μ 32) = false := nB_z.mp (cm_eq9.mp h11)
      exact zJ hJ2 rfl rfl (by simp only [h11, lb_f, Int64.or_zero, nB_t, nB_f, Bool.not_true, Bool.not_false, Bool.and_true, Bool.true_and, Bool.false_and, Bool.and_false, Bool.or_true, Bool.true_or, Bool.false_or, Bool.or_false, cond_true, cond_false])
    · have h11 : (xT μ 32) = true := nB_n.mp (cn_eq.mp h11)
      refine z_rcs hc hH 6 (pc' := 330) (lv' := [(10, .int 1), (9, .int (nB b9)), (8, .int (nB b8)), (7, .int x7), (6, .int (nB b6)), (5, .int (nB b5)), (3, .int x3), (2, .int x2), (1, .int x1), (4, .int (nB b4)), (0, .ref 50)]) (st' := [.int 12, .long (p ||| (lb (xT μ 31) 11)), .ref 50]) (μ' := mGP μ g (p ||| (lb (xT μ 31) 11)) f) (by rfl) ?_
      refine zq_call hc (z_cx_ok hH (by rfl)) (fb_X7_bit d' (by omega) (mGP μ g (p ||| (lb (xT μ 31) 11)) f) 12) (by decide +kernel) (fun r9 μ9 hq => ?_)
      obtain ⟨hμ9, rfl⟩ := hq
      rw [hμ9]
      clear hμ9 μ9
      show Z 0 333 [(10, .int 1), (9, .int (nB b9)), (8, .int (nB b8)), (7, .int x7), (6, .int (nB b6)), (5, .int (nB b5)), (3, .int x3), (2, .int x2), (1, .int x1), (4, .int (nB b4)), (0, .ref 50)] [.long (lb true 12), .long (p ||| (lb (xT μ 31) 11)), .ref 50] _
      refine z_rcs hc hH 2 (pc' := 337) (lv' := [(10, .int 1), (9, .int (nB b9)), (8, .int (nB b8)), (7, .int x7), (6, .int (nB b6)), (5, .int (nB b5)), (3, .int x3), (2, .int x2), (1, .int x1), (4, .int (nB b4)), (0, .ref 50)]) (st' := []) (μ' := z_uj (mGP μ g (p ||| (lb (xT μ 31) 11)) f) 50 25 ((p ||| (lb (xT μ 31) 11)) ||| (lb true 12))) (by rfl) ?_
      rw [mGP_p]
      exact zJ hJ2 rfl rfl (by simp only [h11, lb_f, Int64.or_zero, nB_t, nB_f, Bool.not_true, Bool.not_false, Bool.and_true, Bool.true_and, Bool.false_and, Bool.and_false, Bool.or_true, Bool.true_or, Bool.false_or, Bool.or_false, cond_true, cond_false])
  refine zq_if hc hH (by rfl) (tg := 337) (by rfl) (fun h12 => ?_) (fun h12 => ?_)
  · have h12 : (xT μ 31) = false := nB_z.mp (cm_eq9.mp h12)
    exact zJ hJ1 rfl rfl (by simp only [h12, lb_f, Int64.or_zero, nB_t, nB_f, Bool.not_true, Bool.not_false, Bool.and_true, Bool.true_and, Bool.false_and, Bool.and_false, Bool.or_true, Bool.true_or, Bool.false_or, Bool.or_false, cond_true, cond_false])
  · have h12 : (xT μ 31) = true := nB_n.mp (cn_eq.mp h12)
    refine z_rcs hc hH 6 (pc' := 330) (lv' := [(10, .int 0), (9, .int (nB b9)), (8, .int (nB b8)), (7, .int x7), (6, .int (nB b6)), (5, .int (nB b5)), (3, .int x3), (2, .int x2), (1, .int x1), (4, .int (nB b4)), (0, .ref 50)]) (st' := [.int 11, .long p, .ref 50]) (μ' := mGP μ g p f) (by rfl) ?_
    refine zq_call hc (z_cx_ok hH (by rfl)) (fb_X7_bit d' (by omega) (mGP μ g p f) 11) (by decide +kernel) (fun r9 μ9 hq => ?_)
    obtain ⟨hμ9, rfl⟩ := hq
    rw [hμ9]
    clear hμ9 μ9
    show Z 0 333 [(10, .int 0), (9, .int (nB b9)), (8, .int (nB b8)), (7, .int x7), (6, .int (nB b6)), (5, .int (nB b5)), (3, .int x3), (2, .int x2), (1, .int x1), (4, .int (nB b4)), (0, .ref 50)] [.long (lb true 11), .long p, .ref 50] (mGP μ g p f)
    refine z_rcs hc hH 2 (pc' := 337) (lv' := [(10, .int 0), (9, .int (nB b9)), (8, .int (nB b8)), (7, .int x7), (6, .int (nB b6)), (5, .int (nB b5)), (3, .int x3), (2, .int x2), (1, .int x1), (4, .int (nB b4)), (0, .ref 50)]) (st' := []) (μ' := z_uj (mGP μ g p f) 50 25 (p ||| (lb true 11))) (by rfl) ?_
    rw [mGP_p]
    exact zJ hJ1 rfl rfl (by simp only [h12, lb_f, Int64.or_zero, nB_t, nB_f, Bool.not_true, Bool.not_false, Bool.and_true, Bool.true_and, Bool.false_and, Bool.and_false, Bool.or_true, Bool.true_or, Bool.false_or, Bool.or_false, cond_true, cond_false])
theorem fs402_0 (d' : Nat) (Z : zK) (hd : 4 ≤ d') (μ : zM) (q : Nat) (hq : q ≤ 4) (e4 : μ.1 50 4 = nI q) (s l : Nat → Nat) (hA : AY μ s l) (hco : vp_in (μ.1 50 22) 5) (hc : z_clo z_x0 mi_X7_firstSort (z_C d') Z) (b9 : Bool) (b8 : Bool) (x7 : Int32) (b6 : Bool) (b5 : Bool) (x3 : Int32) (x2 : Int32) (x1 : Int32) (b4 : Bool) (g p : Int64) (f : Int32) (K : Z 0 402 [(10, .int 1), (9, .int (nB b9)), (8, .int (nB b8)), (7, .int x7), (6, .int (nB b6)), (5, .int (nB b5)), (3, .int x3), (2, .int x2), (1, .int x1), (4, .int (nB b4)), (0, .ref 50)] [] (mGP μ g ((p ||| (lb ((xR μ 0) && ((xR μ 9) && (xR μ 18))) 17)) ||| (lb ((xT μ 0) && ((xT μ 9) && (xT μ 18))) 22)) f)) : Z 0 402 [(10, .int 0), (9, .int (nB b9)), (8, .int (nB b8)), (7, .int x7), (6, .int (nB b6)), (5, .int (nB b5)), (3, .int x3), (2, .int x2), (1, .int x1), (4, .int (nB b4)), (0, .ref 50)] [] (mGP μ g p f) := by
  have hH : zH mi_X7_firstSort zt_X7_firstSort 79 7 14 := hh_X7_firstSort
  refine z_rcs hc hH 8 (pc' := 419) (lv' := [(10, .int 0), (9, .int (nB b9)), (8, .int (nB b8)), (7, .int x7), (6, .int (nB b6)), (5, .int (nB b5)), (3, .int x3), (2, .int x2), (1, .int x1), (4, .int (nB b4)), (0, .ref 50)]) (st' := [.int 0, .ref 50]) (μ' := mGP μ g p f) (by rfl) ?_
  refine zq_call hc (z_cx_ok hH (by rfl)) (fb_X7_hasRun d' (by omega) (mGP μ g p f) 0) (by decide +kernel) (fun r9 μ9 hq => ?_)
  obtain ⟨hμ9, rfl⟩ := hq
  rw [hμ9]
  clear hμ9 μ9
  show Z 0 422 [(10, .int 0), (9, .int (nB b9)), (8, .int (nB b8)), (7, .int x7), (6, .int (nB b6)), (5, .int (nB b5)), (3, .int x3), (2, .int x2), (1, .int x1), (4, .int (nB b4)), (0, .ref 50)] [.int (nB (xR μ 0))] (mGP μ g p f)
  have hJ1 : Z 0 463 [(10, .int 0), (9, .int (nB b9)), (8, .int (nB b8)), (7, .int x7), (6, .int (nB b6)), (5, .int (nB b5)), (3, .int x3), (2, .int x2), (1, .int x1), (4, .int (nB b4)), (0, .ref 50)] [] (mGP μ g (p ||| (lb ((xR μ 0) && ((xR μ 9) && (xR μ 18))) 17)) f) := by
    refine z_rcs0 hc hH 2 (pc' := 466) (lv' := [(10, .int 0), (9, .int (nB b9)), (8, .int (nB b8)), (7, .int x7), (6, .int (nB b6)), (5, .int (nB b5)), (3, .int x3), (2, .int x2), (1, .int x1), (4, .int (nB b4)), (0, .ref 50)]) (st' := [.int 0, .ref 50]) (by rfl) ?_
    refine zq_call hc (z_cx_ok hH (by rfl)) (fb_X7_hasThree d' (by omega) (mGP μ g (p ||| (lb ((xR μ 0) && ((xR μ 9) && (xR μ 18))) 17)) f) 0) (by decide +kernel) (fun r9 μ9 hq => ?_)
    obtain ⟨hμ9, rfl⟩ := hq
    rw [hμ9]
    clear hμ9 μ9
    show Z 0 469 [(10, .int 0), (9, .int (nB b9)), (8, .int (nB b8)), (7, .int x7), (6, .int (nB b6)), (5, .int (nB b5)), (3, .int x3), (2, .int x2), (1, .int x1), (4, .int (nB b4)), (0, .ref 50)] [.int (nB (xT μ 0))] _
    have hJ2 : Z 0 510 [(10, .int 0), (9, .int (nB b9)), (8, .int (nB b8)), (7, .int x7), (6, .int (nB b6)), (5, .int (nB b5)), (3, .int x3), (2, .int x2), (1, .int x1), (4, .int (nB b4)), (0, .ref 50)] [] (mGP μ g ((p ||| (lb ((xR μ 0) && ((xR μ 9) && (xR μ 18))) 17)) ||| (lb ((xT μ 0) && ((xT μ 9) && (xT μ 18))) 22)) f) := by
      generalize hyy3 : ((p ||| (lb ((xR μ 0) && ((xR μ 9) && (xR μ 18))) 17)) ||| (lb ((xT μ 0) && ((xT μ 9) && (xT μ 18))) 22) : Int64) = yy3
      refine z_rcs hc hH 2 (pc' := 402) (lv' := [(10, .int 1), (9, .int (nB b9)), (8, .int (nB b8)), (7, .int x7), (6, .int (nB b6)), (5, .int (nB b5)), (3, .int x3), (2, .int x2), (1, .int x1), (4, .int (nB b4)), (0, .ref 50)]) (st' := []) (μ' := mGP μ g yy3 f) (by rfl) ?_
      subst hyy3
      exact K
    refine zq_if hc hH (by rfl) (tg := 510) (by rfl) (fun h4 => ?_) (fun h4 => ?_)
    · have h4 : (xT μ 0) = false := nB_z.mp (cm_eq9.mp h4)
      exact zJ hJ2 rfl rfl (by simp only [h4, lb_f, Int64.or_zero, nB_t, nB_f, Bool.not_true, Bool.not_false, Bool.and_true, Bool.true_and, Bool.false_and, Bool.and_false, Bool.or_true, Bool.true_or, Bool.false_or, Bool.or_false, cond_true, cond_false])
    · have h4 : (xT μ 0) = true := nB_n.mp (cn_eq.mp h4)
      refine z_rcs hc hH 4 (pc' := 478) (lv' := [(10, .int 0), (9, .int (nB b9)), (8, .int (nB b8)), (7, .int x7), (6, .int (nB b6)), (5, .int (nB b5)), (3, .int x3), (2, .int x2), (1, .int x1), (4, .int (nB b4)), (0, .ref 50)]) (st' := [.int 9, .ref 50]) (μ' := mGP μ g (p ||| (lb ((xR μ 0) && ((xR μ 9) && (xR μ 18))) 17)) f) (by rfl) ?_
      refine zq_call hc (z_cx_ok hH (by rfl)) (fb_X7_hasThree d' (by omega) (mGP μ g (p ||| (lb ((xR μ 0) && ((xR μ 9) && (xR μ 18))) 17)) f) 9) (by decide +kernel) (fun r9 μ9 hq => ?_)
      obtain ⟨hμ9, rfl⟩ := hq
      rw [hμ9]
      clear hμ9 μ9
      show Z 0 481 [(10, .int 0), (9, .int (nB b9)), (8, .int (nB b8)), (7, .int x7), (6, .int (nB b6)), (5, .int (nB b5)), (3, .int x3), (2, .int x2), (1, .int x1), (4, .int (nB b4)), (0, .ref 50)] [.int (nB (xT μ 9))] _
      refine zq_if hc hH (by rfl) (tg := 510) (by rfl) (fun h5 => ?_) (fun h5 => ?_)
      · have h5 : (xT μ 9) = false := nB_z.mp (cm_eq9.mp h5)
        exact zJ hJ2 rfl rfl (by simp only [h4, h5, lb_f, Int64.or_zero, nB_t, nB_f, Bool.not_true, Bool.not_false, Bool.and_true, Bool.true_and, Bool.false_and, Bool.and_false, Bool.or_true, Bool.true_or, Bool.false_or, Bool.or_false, cond_true, cond_false])
      · have h5 : (xT μ 9) = true := nB_n.mp (cn_eq.mp h5)
        refine z_rcs0 hc hH 4 (pc' := 490) (lv' := [(10, .int 0), (9, .int (nB b9)), (8, .int (nB b8)), (7, .int x7), (6, .int (nB b6)), (5, .int (nB b5)), (3, .int x3), (2, .int x2), (1, .int x1), (4, .int (nB b4)), (0, .ref 50)]) (st' := [.int 18, .ref 50]) (by rfl) ?_
        refine zq_call hc (z_cx_ok hH (by rfl)) (fb_X7_hasThree d' (by omega) (mGP μ g (p ||| (lb ((xR μ 0) && ((xR μ 9) && (xR μ 18))) 17)) f) 18) (by decide +kernel) (fun r9 μ9 hq => ?_)
        obtain ⟨hμ9, rfl⟩ := hq
        rw [hμ9]
        clear hμ9 μ9
        show Z 0 493 [(10, .int 0), (9, .int (nB b9)), (8, .int (nB b8)), (7, .int x7), (6, .int (nB b6)), (5, .int (nB b5)), (3, .int x3), (2, .int x2), (1, .int x1), (4, .int (nB b4)), (0, .ref 50)] [.int (nB (xT μ 18))] _
        refine zq_if hc hH (by rfl) (tg := 510) (by rfl) (fun h6 => ?_) (fun h6 => ?_)
        · have h6 : (xT μ 18) = false := nB_z.mp (cm_eq9.mp h6)
          exact zJ hJ2 rfl rfl (by simp only [h4, h5, h6, lb_f, Int64.or_zero, nB_t, nB_f, Bool.not_true, Bool.not_false, Bool.and_true, Bool.true_and, Bool.false_and, Bool.and_false, Bool.or_true, Bool.true_or, Bool.false_or, Bool.or_false, cond_true, cond_false])
        · have h6 : (xT μ 18) = true := nB_n.mp (cn_eq.mp h6)
          refine z_rcs0 hc hH 4 (pc' := 503) (lv' := [(10, .int 0), (9, .int (nB b9)), (8, .int (nB b8)), (7, .int x7), (6, .int (nB b6)), (5, .int (nB b5)), (3, .int x3), (2, .int x2), (1, .int x1), (4, .int (nB b4)), (0, .ref 50)]) (st' := [.int 22, .long (p ||| (lb ((xR μ 0) && ((xR μ 9) && (xR μ 18))) 17)), .ref 50]) (by rfl) ?_
          refine zq_call hc (z_cx_ok hH (by rfl)) (fb_X7_bit d' (by omega) (mGP μ g (p ||| (lb ((xR μ 0) && ((xR μ 9) && (xR μ 18))) 17)) f) 22) (by decide +kernel) (fun r9 μ9 hq => ?_)
          obtain ⟨hμ9, rfl⟩ := hq
          rw [hμ9]
          clear hμ9 μ9
          show Z 0 506 [(10, .int 0), (9, .int (nB b9)), (8, .int (nB b8)), (7, .int x7), (6, .int (nB b6)), (5, .int (nB b5)), (3, .int x3), (2, .int x2), (1, .int x1), (4, .int (nB b4)), (0, .ref 50)] [.long (lb true 22), .long (p ||| (lb ((xR μ 0) && ((xR μ 9) && (xR μ 18))) 17)), .ref 50] _
          refine z_rcs hc hH 2 (pc' := 510) (lv' := [(10, .int 0), (9, .int (nB b9)), (8, .int (nB b8)), (7, .int x7), (6, .int (nB b6)), (5, .int (nB b5)), (3, .int x3), (2, .int x2), (1, .int x1), (4, .int (nB b4)), (0, .ref 50)]) (st' := []) (μ' := z_uj (mGP μ g (p ||| (lb ((xR μ 0) && ((xR μ 9) && (xR μ 18))) 17)) f) 50 25 ((p ||| (lb ((xR μ 0) && ((xR μ 9) && (xR μ 18))) 17)) ||| (lb true 22))) (by rfl) ?_
          rw [mGP_p]
          exact zJ hJ2 rfl rfl (by simp only [h4, h5, h6, lb_f, Int64.or_zero, nB_t, nB_f, Bool.not_true, Bool.not_false, Bool.and_true, Bool.true_and, Bool.false_and, Bool.and_false, Bool.or_true, Bool.true_or, Bool.false_or, Bool.or_false, cond_true, cond_false])
  refine zq_if hc hH (by rfl) (tg := 463) (by rfl) (fun h7 => ?_) (fun h7 => ?_)
  · have h7 : (xR μ 0) = false := nB_z.mp (cm_eq9.mp h7)
    exact zJ hJ1 rfl rfl (by simp only [h7, lb_f, Int64.or_zero, nB_t, nB_f, Bool.not_true, Bool.not_false, Bool.and_true, Bool.true_and, Bool.false_and, Bool.and_false, Bool.or_true, Bool.true_or, Bool.false_or, Bool.or_false, cond_true, cond_false])
  · have h7 : (xR μ 0) = true := nB_n.mp (cn_eq.mp h7)
    refine z_rcs hc hH 4 (pc' := 431) (lv' := [(10, .int 0), (9, .int (nB b9)), (8, .int (nB b8)), (7, .int x7), (6, .int (nB b6)), (5, .int (nB b5)), (3, .int x3), (2, .int x2), (1, .int x1), (4, .int (nB b4)), (0, .ref 50)]) (st' := [.int 9, .ref 50]) (μ' := mGP μ g p f) (by rfl) ?_
    refine zq_call hc (z_cx_ok hH (by rfl)) (fb_X7_hasRun d' (by omega) (mGP μ g p f) 9) (by decide +kernel) (fun r9 μ9 hq => ?_)
    obtain ⟨hμ9, rfl⟩ := hq
    rw [hμ9]
    clear hμ9 μ9
    show Z 0 434 [(10, .int 0), (9, .int (nB b9)), (8, .int (nB b8)), (7, .int x7), (6, .int (nB b6)), (5, .int (nB b5)), (3, .int x3), (2, .int x2), (1, .int x1), (4, .int (nB b4)), (0, .ref 50)] [.int (nB (xR μ 9))] (mGP μ g p f)
    refine zq_if hc hH (by rfl) (tg := 463) (by rfl) (fun h8 => ?_) (fun h8 => ?_)
    · have h8 : (xR μ 9) = false := nB_z.mp (cm_eq9.mp h8)
      exact zJ hJ1 rfl rfl (by simp only [h7, h8, lb_f, Int64.or_zero, nB_t, nB_f, Bool.not_true, Bool.not_false, Bool.and_true, Bool.true_and, Bool.false_and, Bool.and_false, Bool.or_true, Bool.true_or, Bool.false_or, Bool.or_false, cond_true, cond_false])
    · have h8 : (xR μ 9) = true := nB_n.mp (cn_eq.mp h8)
      refine z_rcs hc hH 4 (pc' := 443) (lv' := [(10, .int 0), (9, .int (nB b9)), (8, .int (nB b8)), (7, .int x7), (6, .int (nB b6)), (5, .int (nB b5)), (3, .int x3), (2, .int x2), (1, .int x1), (4, .int (nB b4)), (0, .ref 50)]) (st' := [.int 18, .ref 50]) (μ' := mGP μ g p f) (by rfl) ?_
      refine zq_call hc (z_cx_ok hH (by rfl)) (fb_X7_hasRun d' (by omega) (mGP μ g p f) 18) (by decide +kernel) (fun r9 μ9 hq => ?_)
      obtain ⟨hμ9, rfl⟩ := hq
      rw [hμ9]
      clear hμ9 μ9
      show Z 0 446 [(10, .int 0), (9, .int (nB b9)), (8, .int (nB b8)), (7, .int x7), (6, .int (nB b6)), (5, .int (nB b5)), (3, .int x3), (2, .int x2), (1, .int x1), (4, .int (nB b4)), (0, .ref 50)] [.int (nB (xR μ 18))] (mGP μ g p f)
      refine zq_if hc hH (by rfl) (tg := 463) (by rfl) (fun h9 => ?_) (fun h9 => ?_)
      · have h9 : (xR μ 18) = false := nB_z.mp (cm_eq9.mp h9)
        exact zJ hJ1 rfl rfl (by simp only [h7, h8, h9, lb_f, Int64.or_zero, nB_t, nB_f, Bool.not_true, Bool.not_false, Bool.and_true, Bool.true_and, Bool.false_and, Bool.and_false, Bool.or_true, Bool.true_or, Bool.false_or, Bool.or_false, cond_true, cond_false])
      · have h9 : (xR μ 18) = true := nB_n.mp (cn_eq.mp h9)
        refine z_rcs hc hH 4 (pc' := 456) (lv' := [(10, .int 0), (9, .int (nB b9)), (8, .int (nB b8)), (7, .int x7), (6, .int (nB b6)), (5, .int (nB b5)), (3, .int x3), (2, .int x2), (1, .int x1), (4, .int (nB b4)), (0, .ref 50)]) (st' := [.int 17, .long p, .ref 50]) (μ' := mGP μ g p f) (by rfl) ?_
        refine zq_call hc (z_cx_ok hH (by rfl)) (fb_X7_bit d' (by omega) (mGP μ g p f) 17) (by decide +kernel) (fun r9 μ9 hq => ?_)
        obtain ⟨hμ9, rfl⟩ := hq
        rw [hμ9]
        clear hμ9 μ9
        show Z 0 459 [(10, .int 0), (9, .int (nB b9)), (8, .int (nB b8)), (7, .int x7), (6, .int (nB b6)), (5, .int (nB b5)), (3, .int x3), (2, .int x2), (1, .int x1), (4, .int (nB b4)), (0, .ref 50)] [.long (lb true 17), .long p, .ref 50] (mGP μ g p f)
        refine z_rcs hc hH 2 (pc' := 463) (lv' := [(10, .int 0), (9, .int (nB b9)), (8, .int (nB b8)), (7, .int x7), (6, .int (nB b6)), (5, .int (nB b5)), (3, .int x3), (2, .int x2), (1, .int x1), (4, .int (nB b4)), (0, .ref 50)]) (st' := []) (μ' := z_uj (mGP μ g p f) 50 25 (p ||| (lb true 17))) (by rfl) ?_
        rw [mGP_p]
        exact zJ hJ1 rfl rfl (by simp only [h7, h8, h9, lb_f, Int64.or_zero, nB_t, nB_f, Bool.not_true, Bool.not_false, Bool.and_true, Bool.true_and, Bool.false_and, Bool.and_false, Bool.or_true, Bool.true_or, Bool.false_or, Bool.or_false, cond_true, cond_false])
theorem fs402_1 (d' : Nat) (Z : zK) (hd : 4 ≤ d') (μ : zM) (q : Nat) (hq : q ≤ 4) (e4 : μ.1 50 4 = nI q) (s l : Nat → Nat) (hA : AY μ s l) (hco : vp_in (μ.1 50 22) 5) (hc : z_clo z_x0 mi_X7_firstSort (z_C d') Z) (b9 : Bool) (b8 : Bool) (x7 : Int32) (b6 : Bool) (b5 : Bool) (x3 : Int32) (x2 : Int32) (x1 : Int32) (b4 : Bool) (g p : Int64) (f : Int32) (K : Z 0 402 [(10, .int 2), (9, .int (nB b9)), (8, .int (nB b8)), (7, .int x7), (6, .int (nB b6)), (5, .int (nB b5)), (3, .int x3), (2, .int x2), (1, .int x1), (4, .int (nB b4)), (0, .ref 50)] [] (mGP μ g ((p ||| (lb ((xR μ 1) && ((xR μ 10) && (xR μ 19))) 17)) ||| (lb ((xT μ 1) && ((xT μ 10) && (xT μ 19))) 22)) f)) : Z 0 402 [(10, .int 1), (9, .int (nB b9)), (8, .int (nB b8)), (7, .int x7), (6, .int (nB b6)), (5, .int (nB b5)), (3, .int x3), (2, .int x2), (1, .int x1), (4, .int (nB b4)), (0, .ref 50)] [] (mGP μ g p f) := by
  have hH : zH mi_X7_firstSort zt_X7_firstSort 79 7 14 := hh_X7_firstSort
  refine z_rcs hc hH 8 (pc' := 419) (lv' := [(10, .int 1), (9, .int (nB b9)), (8, .int (nB b8)), (7, .int x7), (6, .int (nB b6)), (5, .int (nB b5)), (3, .int x3), (2, .int x2), (1, .int x1), (4, .int (nB b4)), (0, .ref 50)]) (st' := [.int 1, .ref 50]) (μ' := mGP μ g p f) (by rfl) ?_
  refine zq_call hc (z_cx_ok hH (by rfl)) (fb_X7_hasRun d' (by omega) (mGP μ g p f) 1) (by decide +kernel) (fun r9 μ9 hq => ?_)
  obtain ⟨hμ9, rfl⟩ := hq
  rw [hμ9]
  clear hμ9 μ9
  show Z 0 422 [(10, .int 1), (9, .int (nB b9)), (8, .int (nB b8)), (7, .int x7), (6, .int (nB b6)), (5, .int (nB b5)), (3, .int x3), (2, .int x2), (1, .int x1), (4, .int (nB b4)), (0, .ref 50)] [.int (nB (xR μ 1))] (mGP μ g p f)
  have hJ1 : Z 0 463 [(10, .int 1), (9, .int (nB b9)), (8, .int (nB b8)), (7, .int x7), (6, .int (nB b6)), (5, .int (nB b5)), (3, .int x3), (2, .int x2), (1, .int x1), (4, .int (nB b4)), (0, .ref 50)] [] (mGP μ g (p ||| (lb ((xR μ 1) && ((xR μ 10) && (xR μ 19))) 17)) f) := by
    refine z_rcs0 hc hH 2 (pc' := 466) (lv' := [(10, .int 1), (9, .int (nB b9)), (8, .int (nB b8)), (7, .int x7), (6, .int (nB b6)), (5, .int (nB b5)), (3, .int x3), (2, .int x2), (1, .int x1), (4, .int (nB b4)), (0, .ref 50)]) (st' := [.int 1, .ref 50]) (by rfl) ?_
    refine zq_call hc (z_cx_ok hH (by rfl)) (fb_X7_hasThree d' (by omega) (mGP μ g (p ||| (lb ((xR μ 1) && ((xR μ 10) && (xR μ 19))) 17)) f) 1) (by decide +kernel) (fun r9 μ9 hq => ?_)
    obtain ⟨hμ9, rfl⟩ := hq
    rw [hμ9]
    clear hμ9 μ9
    show Z 0 469 [(10, .int 1), (9, .int (nB b9)), (8, .int (nB b8)), (7, .int x7), (6, .int (nB b6)), (5, .int (nB b5)), (3, .int x3), (2, .int x2), (1, .int x1), (4, .int (nB b4)), (0, .ref 50)] [.int (nB (xT μ 1))] _
    have hJ2 : Z 0 510 [(10, .int 1), (9, .int (nB b9)), (8, .int (nB b8)), (7, .int x7), (6, .int (nB b6)), (5, .int (nB b5)), (3, .int x3), (2, .int x2), (1, .int x1), (4, .int (nB b4)), (0, .ref 50)] [] (mGP μ g ((p ||| (lb ((xR μ 1) && ((xR μ 10) && (xR μ 19))) 17)) ||| (lb ((xT μ 1) && ((xT μ 10) && (xT μ 19))) 22)) f) := by
      generalize hyy3 : ((p ||| (lb ((xR μ 1) && ((xR μ 10) && (xR μ 19))) 17)) ||| (lb ((xT μ 1) && ((xT μ 10) && (xT μ 19))) 22) : Int64) = yy3
      refine z_rcs hc hH 2 (pc' := 402) (lv' := [(10, .int 2), (9, .int (nB b9)), (8, .int (nB b8)), (7, .int x7), (6, .int (nB b6)), (5, .int (nB b5)), (3, .int x3), (2, .int x2), (1, .int x1), (4, .int (nB b4)), (0, .ref 50)]) (st' := []) (μ' := mGP μ g yy3 f) (by rfl) ?_
      subst hyy3
      exact K
    refine zq_if hc hH (by rfl) (tg := 510) (by rfl) (fun h4 => ?_) (fun h4 => ?_)
    · have h4 : (xT μ 1) = false := nB_z.mp (cm_eq9.mp h4)
      exact zJ hJ2 rfl rfl (by simp only [h4, lb_f, Int64.or_zero, nB_t, nB_f, Bool.not_true, Bool.not_false, Bool.and_true, Bool.true_and, Bool.false_and, Bool.and_false, Bool.or_true, Bool.true_or, Bool.false_or, Bool.or_false, cond_true, cond_false])
    · have h4 : (xT μ 1) = true := nB_n.mp (cn_eq.mp h4)
      refine z_rcs hc hH 4 (pc' := 478) (lv' := [(10, .int 1), (9, .int (nB b9)), (8, .int (nB b8)), (7, .int x7), (6, .int (nB b6)), (5, .int (nB b5)), (3, .int x3), (2, .int x2), (1, .int x1), (4, .int (nB b4)), (0, .ref 50)]) (st' := [.int 10, .ref 50]) (μ' := mGP μ g (p ||| (lb ((xR μ 1) && ((xR μ 10) && (xR μ 19))) 17)) f) (by rfl) ?_
      refine zq_call hc (z_cx_ok hH (by rfl)) (fb_X7_hasThree d' (by omega) (mGP μ g (p ||| (lb ((xR μ 1) && ((xR μ 10) && (xR μ 19))) 17)) f) 10) (by decide +kernel) (fun r9 μ9 hq => ?_)
      obtain ⟨hμ9, rfl⟩ := hq
      rw [hμ9]
      clear hμ9 μ9
      show Z 0 481 [(10, .int 1), (9, .int (nB b9)), (8, .int (nB b8)), (7, .int x7), (6, .int (nB b6)), (5, .int (nB b5)), (3, .int x3), (2, .int x2), (1, .int x1), (4, .int (nB b4)), (0, .ref 50)] [.int (nB (xT μ 10))] _
      refine zq_if hc hH (by rfl) (tg := 510) (by rfl) (fun h5 => ?_) (fun h5 => ?_)
      · have h5 : (xT μ 10) = false := nB_z.mp (cm_eq9.mp h5)
        exact zJ hJ2 rfl rfl (by simp only [h4, h5, lb_f, Int64.or_zero, nB_t, nB_f, Bool.not_true, Bool.not_false, Bool.and_true, Bool.true_and, Bool.false_and, Bool.and_false, Bool.or_true, Bool.true_or, Bool.false_or, Bool.or_false, cond_true, cond_false])
      · have h5 : (xT μ 10) = true := nB_n.mp (cn_eq.mp h5)
        refine z_rcs0 hc hH 4 (pc' := 490) (lv' := [(10, .int 1), (9, .int (nB b9)), (8, .int (nB b8)), (7, .int x7), (6, .int (nB b6)), (5, .int (nB b5)), (3, .int x3), (2, .int x2), (1, .int x1), (4, .int (nB b4)), (0, .ref 50)]) (st' := [.int 19, .ref 50]) (by rfl) ?_
        refine zq_call hc (z_cx_ok hH (by rfl)) (fb_X7_hasThree d' (by omega) (mGP μ g (p ||| (lb ((xR μ 1) && ((xR μ 10) && (xR μ 19))) 17)) f) 19) (by decide +kernel) (fun r9 μ9 hq => ?_)
        obtain ⟨hμ9, rfl⟩ := hq
        rw [hμ9]
        clear hμ9 μ9
        show Z 0 493 [(10, .int 1), (9, .int (nB b9)), (8, .int (nB b8)), (7, .int x7), (6, .int (nB b6)), (5, .int (nB b5)), (3, .int x3), (2, .int x2), (1, .int x1), (4, .int (nB b4)), (0, .ref 50)] [.int (nB (xT μ 19))] _
        refine zq_if hc hH (by rfl) (tg := 510) (by rfl) (fun h6 => ?_) (fun h6 => ?_)
        · have h6 : (xT μ 19) = false := nB_z.mp (cm_eq9.mp h6)
          exact zJ hJ2 rfl rfl (by simp only [h4, h5, h6, lb_f, Int64.or_zero, nB_t, nB_f, Bool.not_true, Bool.not_false, Bool.and_true, Bool.true_and, Bool.false_and, Bool.and_false, Bool.or_true, Bool.true_or, Bool.false_or, Bool.or_false, cond_true, cond_false])
        · have h6 : (xT μ 19) = true := nB_n.mp (cn_eq.mp h6)
          refine z_rcs0 hc hH 4 (pc' := 503) (lv' := [(10, .int 1), (9, .int (nB b9)), (8, .int (nB b8)), (7, .int x7), (6, .int (nB b6)), (5, .int (nB b5)), (3, .int x3), (2, .int x2), (1, .int x1), (4, .int (nB b4)), (0, .ref 50)]) (st' := [.int 22, .long (p ||| (lb ((xR μ 1) && ((xR μ 10) && (xR μ 19))) 17)), .ref 50]) (by rfl) ?_
          refine zq_call hc (z_cx_ok hH (by rfl)) (fb_X7_bit d' (by omega) (mGP μ g (p ||| (lb ((xR μ 1) && ((xR μ 10) && (xR μ 19))) 17)) f) 22) (by decide +kernel) (fun r9 μ9 hq => ?_)
          obtain ⟨hμ9, rfl⟩ := hq
          rw [hμ9]
          clear hμ9 μ9
          show Z 0 506 [(10, .int 1), (9, .int (nB b9)), (8, .int (nB b8)), (7, .int x7), (6, .int (nB b6)), (5, .int (nB b5)), (3, .int x3), (2, .int x2), (1, .int x1), (4, .int (nB b4)), (0, .ref 50)] [.long (lb true 22), .long (p ||| (lb ((xR μ 1) && ((xR μ 10) && (xR μ 19))) 17)), .ref 50] _
          refine z_rcs hc hH 2 (pc' := 510) (lv' := [(10, .int 1), (9, .int (nB b9)), (8, .int (nB b8)), (7, .int x7), (6, .int (nB b6)), (5, .int (nB b5)), (3, .int x3), (2, .int x2), (1, .int x1), (4, .int (nB b4)), (0, .ref 50)]) (st' := []) (μ' := z_uj (mGP μ g (p ||| (lb ((xR μ 1) && ((xR μ 10) && (xR μ 19))) 17)) f) 50 25 ((p ||| (lb ((xR μ 1) && ((xR μ 10) && (xR μ 19))) 17)) ||| (lb true 22))) (by rfl) ?_
          rw [mGP_p]
          exact zJ hJ2 rfl rfl (by simp only [h4, h5, h6, lb_f, Int64.or_zero, nB_t, nB_f, Bool.not_true, Bool.not_false, Bool.and_true, Bool.true_and, Bool.false_and, Bool.and_false, Bool.or_true, Bool.true_or, Bool.false_or, Bool.or_false, cond_true, cond_false])
  refine zq_if hc hH (by rfl) (tg := 463) (by rfl) (fun h7 => ?_) (fun h7 => ?_)
  · have h7 : (xR μ 1) = false := nB_z.mp (cm_eq9.mp h7)
    exact zJ hJ1 rfl rfl (by simp only [h7, lb_f, Int64.or_zero, nB_t, nB_f, Bool.not_true, Bool.not_false, Bool.and_true, Bool.true_and, Bool.false_and, Bool.and_false, Bool.or_true, Bool.true_or, Bool.false_or, Bool.or_false, cond_true, cond_false])
  · have h7 : (xR μ 1) = true := nB_n.mp (cn_eq.mp h7)
    refine z_rcs hc hH 4 (pc' := 431) (lv' := [(10, .int 1), (9, .int (nB b9)), (8, .int (nB b8)), (7, .int x7), (6, .int (nB b6)), (5, .int (nB b5)), (3, .int x3), (2, .int x2), (1, .int x1), (4, .int (nB b4)), (0, .ref 50)]) (st' := [.int 10, .ref 50]) (μ' := mGP μ g p f) (by rfl) ?_
    refine zq_call hc (z_cx_ok hH (by rfl)) (fb_X7_hasRun d' (by omega) (mGP μ g p f) 10) (by decide +kernel) (fun r9 μ9 hq => ?_)
    obtain ⟨hμ9, rfl⟩ := hq
    rw [hμ9]
    clear hμ9 μ9
    show Z 0 434 [(10, .int 1), (9, .int (nB b9)), (8, .int (nB b8)), (7, .int x7), (6, .int (nB b6)), (5, .int (nB b5)), (3, .int x3), (2, .int x2), (1, .int x1), (4, .int (nB b4)), (0, .ref 50)] [.int (nB (xR μ 10))] (mGP μ g p f)
    refine zq_if hc hH (by rfl) (tg := 463) (by rfl) (fun h8 => ?_) (fun h8 => ?_)
    · have h8 : (xR μ 10) = false := nB_z.mp (cm_eq9.mp h8)
      exact zJ hJ1 rfl rfl (by simp only [h7, h8, lb_f, Int64.or_zero, nB_t, nB_f, Bool.not_true, Bool.not_false, Bool.and_true, Bool.true_and, Bool.false_and, Bool.and_false, Bool.or_true, Bool.true_or, Bool.false_or, Bool.or_false, cond_true, cond_false])
    · have h8 : (xR μ 10) = true := nB_n.mp (cn_eq.mp h8)
      refine z_rcs hc hH 4 (pc' := 443) (lv' := [(10, .int 1), (9, .int (nB b9)), (8, .int (nB b8)), (7, .int x7), (6, .int (nB b6)), (5, .int (nB b5)), (3, .int x3), (2, .int x2), (1, .int x1), (4, .int (nB b4)), (0, .ref 50)]) (st' := [.int 19, .ref 50]) (μ' := mGP μ g p f) (by rfl) ?_
      refine zq_call hc (z_cx_ok hH (by rfl)) (fb_X7_hasRun d' (by omega) (mGP μ g p f) 19) (by decide +kernel) (fun r9 μ9 hq => ?_)
      obtain ⟨hμ9, rfl⟩ := hq
      rw [hμ9]
      clear hμ9 μ9
      show Z 0 446 [(10, .int 1), (9, .int (nB b9)), (8, .int (nB b8)), (7, .int x7), (6, .int (nB b6)), (5, .int (nB b5)), (3, .int x3), (2, .int x2), (1, .int x1), (4, .int (nB b4)), (0, .ref 50)] [.int (nB (xR μ 19))] (mGP μ g p f)
      refine zq_if hc hH (by rfl) (tg := 463) (by rfl) (fun h9 => ?_) (fun h9 => ?_)
      · have h9 : (xR μ 19) = false := nB_z.mp (cm_eq9.mp h9)
        exact zJ hJ1 rfl rfl (by simp only [h7, h8, h9, lb_f, Int64.or_zero, nB_t, nB_f, Bool.not_true, Bool.not_false, Bool.and_true, Bool.true_and, Bool.false_and, Bool.and_false, Bool.or_true, Bool.true_or, Bool.false_or, Bool.or_false, cond_true, cond_false])
      · have h9 : (xR μ 19) = true := nB_n.mp (cn_eq.mp h9)
        refine z_rcs hc hH 4 (pc' := 456) (lv' := [(10, .int 1), (9, .int (nB b9)), (8, .int (nB b8)), (7, .int x7), (6, .int (nB b6)), (5, .int (nB b5)), (3, .int x3), (2, .int x2), (1, .int x1), (4, .int (nB b4)), (0, .ref 50)]) (st' := [.int 17, .long p, .ref 50]) (μ' := mGP μ g p f) (by rfl) ?_
        refine zq_call hc (z_cx_ok hH (by rfl)) (fb_X7_bit d' (by omega) (mGP μ g p f) 17) (by decide +kernel) (fun r9 μ9 hq => ?_)
        obtain ⟨hμ9, rfl⟩ := hq
        rw [hμ9]
        clear hμ9 μ9
        show Z 0 459 [(10, .int 1), (9, .int (nB b9)), (8, .int (nB b8)), (7, .int x7), (6, .int (nB b6)), (5, .int (nB b5)), (3, .int x3), (2, .int x2), (1, .int x1), (4, .int (nB b4)), (0, .ref 50)] [.long (lb true 17), .long p, .ref 50] (mGP μ g p f)
        refine z_rcs hc hH 2 (pc' := 463) (lv' := [(10, .int 1), (9, .int (nB b9)), (8, .int (nB b8)), (7, .int x7), (6, .int (nB b6)), (5, .int (nB b5)), (3, .int x3), (2, .int x2), (1, .int x1), (4, .int (nB b4)), (0, .ref 50)]) (st' := []) (μ' := z_uj (mGP μ g p f) 50 25 (p ||| (lb true 17))) (by rfl) ?_
        rw [mGP_p]
        exact zJ hJ1 rfl rfl (by simp only [h7, h8, h9, lb_f, Int64.or_zero, nB_t, nB_f, Bool.not_true, Bool.not_false, Bool.and_true, Bool.true_and, Bool.false_and, Bool.and_false, Bool.or_true, Bool.true_or, Bool.false_or, Bool.or_false, cond_true, cond_false])
theorem fs402_2 (d' : Nat) (Z : zK) (hd : 4 ≤ d') (μ : zM) (q : Nat) (hq : q ≤ 4) (e4 : μ.1 50 4 = nI q) (s l : Nat → Nat) (hA : AY μ s l) (hco : vp_in (μ.1 50 22) 5) (hc : z_clo z_x0 mi_X7_firstSort (z_C d') Z) (b9 : Bool) (b8 : Bool) (x7 : Int32) (b6 : Bool) (b5 : Bool) (x3 : Int32) (x2 : Int32) (x1 : Int32) (b4 : Bool) (g p : Int64) (f : Int32) (K : Z 0 402 [(10, .int 3), (9, .int (nB b9)), (8, .int (nB b8)), (7, .int x7), (6, .int (nB b6)), (5, .int (nB b5)), (3, .int x3), (2, .int x2), (1, .int x1), (4, .int (nB b4)), (0, .ref 50)] [] (mGP μ g ((p ||| (lb ((xR μ 2) && ((xR μ 11) && (xR μ 20))) 17)) ||| (lb ((xT μ 2) && ((xT μ 11) && (xT μ 20))) 22)) f)) : Z 0 402 [(10, .int 2), (9, .int (nB b9)), (8, .int (nB b8)), (7, .int x7), (6, .int (nB b6)), (5, .int (nB b5)), (3, .int x3), (2, .int x2), (1, .int x1), (4, .int (nB b4)), (0, .ref 50)] [] (mGP μ g p f) := by
  have hH : zH mi_X7_firstSort zt_X7_firstSort 79 7 14 := hh_X7_firstSort
  refine z_rcs hc hH 8 (pc' := 419) (lv' := [(10, .int 2), (9, .int (nB b9)), (8, .int (nB b8)), (7, .int x7), (6, .int (nB b6)), (5, .int (nB b5)), (3, .int x3), (2, .int x2), (1, .int x1), (4, .int (nB b4)), (0, .ref 50)]) (st' := [.int 2, .ref 50]) (μ' := mGP μ g p f) (by rfl) ?_
  refine zq_call hc (z_cx_ok hH (by rfl)) (fb_X7_hasRun d' (by omega) (mGP μ g p f) 2) (by decide +kernel) (fun r9 μ9 hq => ?_)
  obtain ⟨hμ9, rfl⟩ := hq
  rw [hμ9]
  clear hμ9 μ9
  show Z 0 422 [(10, .int 2), (9, .int (nB b9)), (8, .int (nB b8)), (7, .int x7), (6, .int (nB b6)), (5, .int (nB b5)), (3, .int x3), (2, .int x2), (1, .int x1), (4, .int (nB b4)), (0, .ref 50)] [.int (nB (xR μ 2))] (mGP μ g p f)
  have hJ1 : Z 0 463 [(10, .int 2), (9, .int (nB b9)), (8, .int (nB b8)), (7, .int x7), (6, .int (nB b6)), (5, .int (nB b5)), (3, .int x3), (2, .int x2), (1, .int x1), (4, .int (nB b4)), (0, .ref 50)] [] (mGP μ g (p ||| (lb ((xR μ 2) && ((xR μ 11) && (xR μ 20))) 17)) f) := by
    refine z_rcs0 hc hH 2 (pc' := 466) (lv' := [(10, .int 2), (9, .int (nB b9)), (8, .int (nB b8)), (7, .int x7), (6, .int (nB b6)), (5, .int (nB b5)), (3, .int x3), (2, .int x2), (1, .int x1), (4, .int (nB b4)), (0, .ref 50)]) (st' := [.int 2, .ref 50]) (by rfl) ?_
    refine zq_call hc (z_cx_ok hH (by rfl)) (fb_X7_hasThree d' (by omega) (mGP μ g (p ||| (lb ((xR μ 2) && ((xR μ 11) && (xR μ 20))) 17)) f) 2) (by decide +kernel) (fun r9 μ9 hq => ?_)
    obtain ⟨hμ9, rfl⟩ := hq
    rw [hμ9]
    clear hμ9 μ9
    show Z 0 469 [(10, .int 2), (9, .int (nB b9)), (8, .int (nB b8)), (7, .int x7), (6, .int (nB b6)), (5, .int (nB b5)), (3, .int x3), (2, .int x2), (1, .int x1), (4, .int (nB b4)), (0, .ref 50)] [.int (nB (xT μ 2))] _
    have hJ2 : Z 0 510 [(10, .int 2), (9, .int (nB b9)), (8, .int (nB b8)), (7, .int x7), (6, .int (nB b6)), (5, .int (nB b5)), (3, .int x3), (2, .int x2), (1, .int x1), (4, .int (nB b4)), (0, .ref 50)] [] (mGP μ g ((p ||| (lb ((xR μ 2) && ((xR μ 11) && (xR μ 20))) 17)) ||| (lb ((xT μ 2) && ((xT μ 11) && (xT μ 20))) 22)) f) := by
      generalize hyy3 : ((p ||| (lb ((xR μ 2) && ((xR μ 11) && (xR μ 20))) 17)) ||| (lb ((xT μ 2) && ((xT μ 11) && (xT μ 20))) 22) : Int64) = yy3
      refine z_rcs hc hH 2 (pc' := 402) (lv' := [(10, .int 3), (9, .int (nB b9)), (8, .int (nB b8)), (7, .int x7), (6, .int (nB b6)), (5, .int (nB b5)), (3, .int x3), (2, .int x2), (1, .int x1), (4, .int (nB b4)), (0, .ref 50)]) (st' := []) (μ' := mGP μ g yy3 f) (by rfl) ?_
      subst hyy3
      exact K
    refine zq_if hc hH (by rfl) (tg := 510) (by rfl) (fun h4 => ?_) (fun h4 => ?_)
    · have h4 : (xT μ 2) = false := nB_z.mp (cm_eq9.mp h4)
      exact zJ hJ2 rfl rfl (by simp only [h4, lb_f, Int64.or_zero, nB_t, nB_f, Bool.not_true, Bool.not_false, Bool.and_true, Bool.true_and, Bool.false_and, Bool.and_false, Bool.or_true, Bool.true_or, Bool.false_or, Bool.or_false, cond_true, cond_false])
    · have h4 : (xT μ 2) = true := nB_n.mp (cn_eq.mp h4)
      refine z_rcs hc hH 4 (pc' := 478) (lv' := [(10, .int 2), (9, .int (nB b9)), (8, .int (nB b8)), (7, .int x7), (6, .int (nB b6)), (5, .int (nB b5)), (3, .int x3), (2, .int x2), (1, .int x1), (4, .int (nB b4)), (0, .ref 50)]) (st' := [.int 11, .ref 50]) (μ' := mGP μ g (p ||| (lb ((xR μ 2) && ((xR μ 11) && (xR μ 20))) 17)) f) (by rfl) ?_
      refine zq_call hc (z_cx_ok hH (by rfl)) (fb_X7_hasThree d' (by omega) (mGP μ g (p ||| (lb ((xR μ 2) && ((xR μ 11) && (xR μ 20))) 17)) f) 11) (by decide +kernel) (fun r9 μ9 hq => ?_)
      obtain ⟨hμ9, rfl⟩ := hq
      rw [hμ9]
      clear hμ9 μ9
      show Z 0 481 [(10, .int 2), (9, .int (nB b9)), (8, .int (nB b8)), (7, .int x7), (6, .int (nB b6)), (5, .int (nB b5)), (3, .int x3), (2, .int x2), (1, .int x1), (4, .int (nB b4)), (0, .ref 50)] [.int (nB (xT μ 11))] _
      refine zq_if hc hH (by rfl) (tg := 510) (by rfl) (fun h5 => ?_) (fun h5 => ?_)
      · have h5 : (xT μ 11) = false := nB_z.mp (cm_eq9.mp h5)
        exact zJ hJ2 rfl rfl (by simp only [h4, h5, lb_f, Int64.or_zero, nB_t, nB_f, Bool.not_true, Bool.not_false, Bool.and_true, Bool.true_and, Bool.false_and, Bool.and_false, Bool.or_true, Bool.true_or, Bool.false_or, Bool.or_false, cond_true, cond_false])
      · have h5 : (xT μ 11) = true := nB_n.mp (cn_eq.mp h5)
        refine z_rcs0 hc hH 4 (pc' := 490) (lv' := [(10, .int 2), (9, .int (nB b9)), (8, .int (nB b8)), (7, .int x7), (6, .int (nB b6)), (5, .int (nB b5)), (3, .int x3), (2, .int x2), (1, .int x1), (4, .int (nB b4)), (0, .ref 50)]) (st' := [.int 20, .ref 50]) (by rfl) ?_
        refine zq_call hc (z_cx_ok hH (by rfl)) (fb_X7_hasThree d' (by omega) (mGP μ g (p ||| (lb ((xR μ 2) && ((xR μ 11) && (xR μ 20))) 17)) f) 20) (by decide +kernel) (fun r9 μ9 hq => ?_)
        obtain ⟨hμ9, rfl⟩ := hq
        rw [hμ9]
        clear hμ9 μ9
        show Z 0 493 [(10, .int 2), (9, .int (nB b9)), (8, .int (nB b8)), (7, .int x7), (6, .int (nB b6)), (5, .int (nB b5)), (3, .int x3), (2, .int x2), (1, .int x1), (4, .int (nB b4)), (0, .ref 50)] [.int (nB (xT μ 20))] _
        refine zq_if hc hH (by rfl) (tg := 510) (by rfl) (fun h6 => ?_) (fun h6 => ?_)
        · have h6 : (xT μ 20) = false := nB_z.mp (cm_eq9.mp h6)
          exact zJ hJ2 rfl rfl (by simp only [h4, h5, h6, lb_f, Int64.or_zero, nB_t, nB_f, Bool.not_true, Bool.not_false, Bool.and_true, Bool.true_and, Bool.false_and, Bool.and_false, Bool.or_true, Bool.true_or, Bool.false_or, Bool.or_false, cond_true, cond_false])
        · have h6 : (xT μ 20) = true := nB_n.mp (cn_eq.mp h6)
          refine z_rcs0 hc hH 4 (pc' := 503) (lv' := [(10, .int 2), (9, .int (nB b9)), (8, .int (nB b8)), (7, .int x7), (6, .int (nB b6)), (5, .int (nB b5)), (3, .int x3), (2, .int x2), (1, .int x1), (4, .int (nB b4)), (0, .ref 50)]) (st' := [.int 22, .long (p ||| (lb ((xR μ 2) && ((xR μ 11) && (xR μ 20))) 17)), .ref 50]) (by rfl) ?_
          refine zq_call hc (z_cx_ok hH (by rfl)) (fb_X7_bit d' (by omega) (mGP μ g (p ||| (lb ((xR μ 2) && ((xR μ 11) && (xR μ 20))) 17)) f) 22) (by decide +kernel) (fun r9 μ9 hq => ?_)
          obtain ⟨hμ9, rfl⟩ := hq
          rw [hμ9]
          clear hμ9 μ9
          show Z 0 506 [(10, .int 2), (9, .int (nB b9)), (8, .int (nB b8)), (7, .int x7), (6, .int (nB b6)), (5, .int (nB b5)), (3, .int x3), (2, .int x2), (1, .int x1), (4, .int (nB b4)), (0, .ref 50)] [.long (lb true 22), .long (p ||| (lb ((xR μ 2) && ((xR μ 11) && (xR μ 20))) 17)), .ref 50] _
          refine z_rcs hc hH 2 (pc' := 510) (lv' := [(10, .int 2), (9, .int (nB b9)), (8, .int (nB b8)), (7, .int x7), (6, .int (nB b6)), (5, .int (nB b5)), (3, .int x3), (2, .int x2), (1, .int x1), (4, .int (nB b4)), (0, .ref 50)]) (st' := []) (μ' := z_uj (mGP μ g (p ||| (lb ((xR μ 2) && ((xR μ 11) && (xR μ 20))) 17)) f) 50 25 ((p ||| (lb ((xR μ 2) && ((xR μ 11) && (xR μ 20))) 17)) ||| (lb true 22))) (by rfl) ?_
          rw [mGP_p]
          exact zJ hJ2 rfl rfl (by simp only [h4, h5, h6, lb_f, Int64.or_zero, nB_t, nB_f, Bool.not_true, Bool.not_false, Bool.and_true, Bool.true_and, Bool.false_and, Bool.and_false, Bool.or_true, Bool.true_or, Bool.false_or, Bool.or_false, cond_true, cond_false])
  refine zq_if hc hH (by rfl) (tg := 463) (by rfl) (fun h7 => ?_) (fun h7 => ?_)
  · have h7 : (xR μ 2) = false := nB_z.mp (cm_eq9.mp h7)
    exact zJ hJ1 rfl rfl (by simp only [h7, lb_f, Int64.or_zero, nB_t, nB_f, Bool.not_true, Bool.not_false, Bool.and_true, Bool.true_and, Bool.false_and, Bool.and_false, Bool.or_true, Bool.true_or, Bool.false_or, Bool.or_false, cond_true, cond_false])
  · have h7 : (xR μ 2) = true := nB_n.mp (cn_eq.mp h7)
    refine z_rcs hc hH 4 (pc' := 431) (lv' := [(10, .int 2), (9, .int (nB b9)), (8, .int (nB b8)), (7, .int x7), (6, .int (nB b6)), (5, .int (nB b5)), (3, .int x3), (2, .int x2), (1, .int x1), (4, .int (nB b4)), (0, .ref 50)]) (st' := [.int 11, .ref 50]) (μ' := mGP μ g p f) (by rfl) ?_
    refine zq_call hc (z_cx_ok hH (by rfl)) (fb_X7_hasRun d' (by omega) (mGP μ g p f) 11) (by decide +kernel) (fun r9 μ9 hq => ?_)
    obtain ⟨hμ9, rfl⟩ := hq
    rw [hμ9]
    clear hμ9 μ9
    show Z 0 434 [(10, .int 2), (9, .int (nB b9)), (8, .int (nB b8)), (7, .int x7), (6, .int (nB b6)), (5, .int (nB b5)), (3, .int x3), (2, .int x2), (1, .int x1), (4, .int (nB b4)), (0, .ref 50)] [.int (nB (xR μ 11))] (mGP μ g p f)
    refine zq_if hc hH (by rfl) (tg := 463) (by rfl) (fun h8 => ?_) (fun h8 => ?_)
    · have h8 : (xR μ 11) = false := nB_z.mp (cm_eq9.mp h8)
      exact zJ hJ1 rfl rfl (by simp only [h7, h8, lb_f, Int64.or_zero, nB_t, nB_f, Bool.not_true, Bool.not_false, Bool.and_true, Bool.true_and, Bool.false_and, Bool.and_false, Bool.or_true, Bool.true_or, Bool.false_or, Bool.or_false, cond_true, cond_false])
    · have h8 : (xR μ 11) = true := nB_n.mp (cn_eq.mp h8)
      refine z_rcs hc hH 4 (pc' := 443) (lv' := [(10, .int 2), (9, .int (nB b9)), (8, .int (nB b8)), (7, .int x7), (6, .int (nB b6)), (5, .int (nB b5)), (3, .int x3), (2, .int x2), (1, .int x1), (4, .int (nB b4)), (0, .ref 50)]) (st' := [.int 20, .ref 50]) (μ' := mGP μ g p f) (by rfl) ?_
      refine zq_call hc (z_cx_ok hH (by rfl)) (fb_X7_hasRun d' (by omega) (mGP μ g p f) 20) (by decide +kernel) (fun r9 μ9 hq => ?_)
      obtain ⟨hμ9, rfl⟩ := hq
      rw [hμ9]
      clear hμ9 μ9
      show Z 0 446 [(10, .int 2), (9, .int (nB b9)), (8, .int (nB b8)), (7, .int x7), (6, .int (nB b6)), (5, .int (nB b5)), (3, .int x3), (2, .int x2), (1, .int x1), (4, .int (nB b4)), (0, .ref 50)] [.int (nB (xR μ 20))] (mGP μ g p f)
      refine zq_if hc hH (by rfl) (tg := 463) (by rfl) (fun h9 => ?_) (fun h9 => ?_)
      · have h9 : (xR μ 20) = false := nB_z.mp (cm_eq9.mp h9)
        exact zJ hJ1 rfl rfl (by simp only [h7, h8, h9, lb_f, Int64.or_zero, nB_t, nB_f, Bool.not_true, Bool.not_false, Bool.and_true, Bool.true_and, Bool.false_and, Bool.and_false, Bool.or_true, Bool.true_or, Bool.false_or, Bool.or_false, cond_true, cond_false])
      · have h9 : (xR μ 20) = true := nB_n.mp (cn_eq.mp h9)
        refine z_rcs hc hH 4 (pc' := 456) (lv' := [(10, .int 2), (9, .int (nB b9)), (8, .int (nB b8)), (7, .int x7), (6, .int (nB b6)), (5, .int (nB b5)), (3, .int x3), (2, .int x2), (1, .int x1), (4, .int (nB b4)), (0, .ref 50)]) (st' := [.int 17, .long p, .ref 50]) (μ' := mGP μ g p f) (by rfl) ?_
        refine zq_call hc (z_cx_ok hH (by rfl)) (fb_X7_bit d' (by omega) (mGP μ g p f) 17) (by decide +kernel) (fun r9 μ9 hq => ?_)
        obtain ⟨hμ9, rfl⟩ := hq
        rw [hμ9]
        clear hμ9 μ9
        show Z 0 459 [(10, .int 2), (9, .int (nB b9)), (8, .int (nB b8)), (7, .int x7), (6, .int (nB b6)), (5, .int (nB b5)), (3, .int x3), (2, .int x2), (1, .int x1), (4, .int (nB b4)), (0, .ref 50)] [.long (lb true 17), .long p, .ref 50] (mGP μ g p f)
        refine z_rcs hc hH 2 (pc' := 463) (lv' := [(10, .int 2), (9, .int (nB b9)), (8, .int (nB b8)), (7, .int x7), (6, .int (nB b6)), (5, .int (nB b5)), (3, .int x3), (2, .int x2), (1, .int x1), (4, .int (nB b4)), (0, .ref 50)]) (st' := []) (μ' := z_uj (mGP μ g p f) 50 25 (p ||| (lb true 17))) (by rfl) ?_
        rw [mGP_p]
        exact zJ hJ1 rfl rfl (by simp only [h7, h8, h9, lb_f, Int64.or_zero, nB_t, nB_f, Bool.not_true, Bool.not_false, Bool.and_true, Bool.true_and, Bool.false_and, Bool.and_false, Bool.or_true, Bool.true_or, Bool.false_or, Bool.or_false, cond_true, cond_false])
theorem fs402_3 (d' : Nat) (Z : zK) (hd : 4 ≤ d') (μ : zM) (q : Nat) (hq : q ≤ 4) (e4 : μ.1 50 4 = nI q) (s l : Nat → Nat) (hA : AY μ s l) (hco : vp_in (μ.1 50 22) 5) (hc : z_clo z_x0 mi_X7_firstSort (z_C d') Z) (b9 : Bool) (b8 : Bool) (x7 : Int32) (b6 : Bool) (b5 : Bool) (x3 : Int32) (x2 : Int32) (x1 : Int32) (b4 : Bool) (g p : Int64) (f : Int32) (K : Z 0 402 [(10, .int 4), (9, .int (nB b9)), (8, .int (nB b8)), (7, .int x7), (6, .int (nB b6)), (5, .int (nB b5)), (3, .int x3), (2, .int x2), (1, .int x1), (4, .int (nB b4)), (0, .ref 50)] [] (mGP μ g ((p ||| (lb ((xR μ 3) && ((xR μ 12) && (xR μ 21))) 17)) ||| (lb ((xT μ 3) && ((xT μ 12) && (xT μ 21))) 22)) f)) : Z 0 402 [(10, .int 3), (9, .int (nB b9)), (8, .int (nB b8)), (7, .int x7), (6, .int (nB b6)), (5, .int (nB b5)), (3, .int x3), (2, .int x2), (1, .int x1), (4, .int (nB b4)), (0, .ref 50)] [] (mGP μ g p f) := by
  have hH : zH mi_X7_firstSort zt_X7_firstSort 79 7 14 := hh_X7_firstSort
  refine z_rcs hc hH 8 (pc' := 419) (lv' := [(10, .int 3), (9, .int (nB b9)), (8, .int (nB b8)), (7, .int x7), (6, .int (nB b6)), (5, .int (nB b5)), (3, .int x3), (2, .int x2), (1, .int x1), (4, .int (nB b4)), (0, .ref 50)]) (st' := [.int 3, .ref 50]) (μ' := mGP μ g p f) (by rfl) ?_
  refine zq_call hc (z_cx_ok hH (by rfl)) (fb_X7_hasRun d' (by omega) (mGP μ g p f) 3) (by decide +kernel) (fun r9 μ9 hq => ?_)
  obtain ⟨hμ9, rfl⟩ := hq
  rw [hμ9]
  clear hμ9 μ9
  show Z 0 422 [(10, .int 3), (9, .int (nB b9)), (8, .int (nB b8)), (7, .int x7), (6, .int (nB b6)), (5, .int (nB b5)), (3, .int x3), (2, .int x2), (1, .int x1), (4, .int (nB b4)), (0, .ref 50)] [.int (nB (xR μ 3))] (mGP μ g p f)
  have hJ1 : Z 0 463 [(10, .int 3), (9, .int (nB b9)), (8, .int (nB b8)), (7, .int x7), (6, .int (nB b6)), (5, .int (nB b5)), (3, .int x3), (2, .int x2), (1, .int x1), (4, .int (nB b4)), (0, .ref 50)] [] (mGP μ g (p ||| (lb ((xR μ 3) && ((xR μ 12) && (xR μ 21))) 17)) f) := by
    refine z_rcs0 hc hH 2 (pc' := 466) (lv' := [(10, .int 3), (9, .int (nB b9)), (8, .int (nB b8)), (7, .int x7), (6, .int (nB b6)), (5, .int (nB b5)), (3, .int x3), (2, .int x2), (1, .int x1), (4, .int (nB b4)), (0, .ref 50)]) (st' := [.int 3, .ref 50]) (by rfl) ?_
    refine zq_call hc (z_cx_ok hH (by rfl)) (fb_X7_hasThree d' (by omega) (mGP μ g (p ||| (lb ((xR μ 3) && ((xR μ 12) && (xR μ 21))) 17)) f) 3) (by decide +kernel) (fun r9 μ9 hq => ?_)
    obtain ⟨hμ9, rfl⟩ := hq
    rw [hμ9]
    clear hμ9 μ9
    show Z 0 469 [(10, .int 3), (9, .int (nB b9)), (8, .int (nB b8)), (7, .int x7), (6, .int (nB b6)), (5, .int (nB b5)), (3, .int x3), (2, .int x2), (1, .int x1), (4, .int (nB b4)), (0, .ref 50)] [.int (nB (xT μ 3))] _
    have hJ2 : Z 0 510 [(10, .int 3), (9, .int (nB b9)), (8, .int (nB b8)), (7, .int x7), (6, .int (nB b6)), (5, .int (nB b5)), (3, .int x3), (2, .int x2), (1, .int x1), (4, .int (nB b4)), (0, .ref 50)] [] (mGP μ g ((p ||| (lb ((xR μ 3) && ((xR μ 12) && (xR μ 21))) 17)) ||| (lb ((xT μ 3) && ((xT μ 12) && (xT μ 21))) 22)) f) := by
      generalize hyy3 : ((p ||| (lb ((xR μ 3) && ((xR μ 12) && (xR μ 21))) 17)) ||| (lb ((xT μ 3) && ((xT μ 12) && (xT μ 21))) 22) : Int64) = yy3
      refine z_rcs hc hH 2 (pc' := 402) (lv' := [(10, .int 4), (9, .int (nB b9)), (8, .int (nB b8)), (7, .int x7), (6, .int (nB b6)), (5, .int (nB b5)), (3, .int x3), (2, .int x2), (1, .int x1), (4, .int (nB b4)), (0, .ref 50)]) (st' := []) (μ' := mGP μ g yy3 f) (by rfl) ?_
      subst hyy3
      exact K
    refine zq_if hc hH (by rfl) (tg := 510) (by rfl) (fun h4 => ?_) (fun h4 => ?_)
    · have h4 : (xT μ 3) = false := nB_z.mp (cm_eq9.mp h4)
      exact zJ hJ2 rfl rfl (by simp only [h4, lb_f, Int64.or_zero, nB_t, nB_f, Bool.not_true, Bool.not_false, Bool.and_true, Bool.true_and, Bool.false_and, Bool.and_false, Bool.or_true, Bool.true_or, Bool.false_or, Bool.or_false, cond_true, cond_false])
    · have h4 : (xT μ 3) = true := nB_n.mp (cn_eq.mp h4)
      refine z_rcs hc hH 4 (pc' := 478) (lv' := [(10, .int 3), (9, .int (nB b9)), (8, .int (nB b8)), (7, .int x7), (6, .int (nB b6)), (5, .int (nB b5)), (3, .int x3), (2, .int x2), (1, .int x1), (4, .int (nB b4)), (0, .ref 50)]) (st' := [.int 12, .ref 50]) (μ' := mGP μ g (p ||| (lb ((xR μ 3) && ((xR μ 12) && (xR μ 21))) 17)) f) (by rfl) ?_
      refine zq_call hc (z_cx_ok hH (by rfl)) (fb_X7_hasThree d' (by omega) (mGP μ g (p ||| (lb ((xR μ 3) && ((xR μ 12) && (xR μ 21))) 17)) f) 12) (by decide +kernel) (fun r9 μ9 hq => ?_)
      obtain ⟨hμ9, rfl⟩ := hq
      rw [hμ9]
      clear hμ9 μ9
      show Z 0 481 [(10, .int 3), (9, .int (nB b9)), (8, .int (nB b8)), (7, .int x7), (6, .int (nB b6)), (5, .int (nB b5)), (3, .int x3), (2, .int x2), (1, .int x1), (4, .int (nB b4)), (0, .ref 50)] [.int (nB (xT μ 12))] _
      refine zq_if hc hH (by rfl) (tg := 510) (by rfl) (fun h5 => ?_) (fun h5 => ?_)
      · have h5 : (xT μ 12) = false := nB_z.mp (cm_eq9.mp h5)
        exact zJ hJ2 rfl rfl (by simp only [h4, h5, lb_f, Int64.or_zero, nB_t, nB_f, Bool.not_true, Bool.not_false, Bool.and_true, Bool.true_and, Bool.false_and, Bool.and_false, Bool.or_true, Bool.true_or, Bool.false_or, Bool.or_false, cond_true, cond_false])
      · have h5 : (xT μ 12) = true := nB_n.mp (cn_eq.mp h5)
        refine z_rcs0 hc hH 4 (pc' := 490) (lv' := [(10, .int 3), (9, .int (nB b9)), (8, .int (nB b8)), (7, .int x7), (6, .int (nB b6)), (5, .int (nB b5)), (3, .int x3), (2, .int x2), (1, .int x1), (4, .int (nB b4)), (0, .ref 50)]) (st' := [.int 21, .ref 50]) (by rfl) ?_
        refine zq_call hc (z_cx_ok hH (by rfl)) (fb_X7_hasThree d' (by omega) (mGP μ g (p ||| (lb ((xR μ 3) && ((xR μ 12) && (xR μ 21))) 17)) f) 21) (by decide +kernel) (fun r9 μ9 hq => ?_)
        obtain ⟨hμ9, rfl⟩ := hq
        rw [hμ9]
        clear hμ9 μ9
        show Z 0 493 [(10, .int 3), (9, .int (nB b9)), (8, .int (nB b8)), (7, .int x7), (6, .int (nB b6)), (5, .int (nB b5)), (3, .int x3), (2, .int x2), (1, .int x1), (4, .int (nB b4)), (0, .ref 50)] [.int (nB (xT μ 21))] _
        refine zq_if hc hH (by rfl) (tg := 510) (by rfl) (fun h6 => ?_) (fun h6 => ?_)
        · have h6 : (xT μ 21) = false := nB_z.mp (cm_eq9.mp h6)
          exact zJ hJ2 rfl rfl (by simp only [h4, h5, h6, lb_f, Int64.or_zero, nB_t, nB_f, Bool.not_true, Bool.not_false, Bool.and_true, Bool.true_and, Bool.false_and, Bool.and_false, Bool.or_true, Bool.true_or, Bool.false_or, Bool.or_false, cond_true, cond_false])
        · have h6 : (xT μ 21) = true := nB_n.mp (cn_eq.mp h6)
          refine z_rcs0 hc hH 4 (pc' := 503) (lv' := [(10, .int 3), (9, .int (nB b9)), (8, .int (nB b8)), (7, .int x7), (6, .int (nB b6)), (5, .int (nB b5)), (3, .int x3), (2, .int x2), (1, .int x1), (4, .int (nB b4)), (0, .ref 50)]) (st' := [.int 22, .long (p ||| (lb ((xR μ 3) && ((xR μ 12) && (xR μ 21))) 17)), .ref 50]) (by rfl) ?_
          refine zq_call hc (z_cx_ok hH (by rfl)) (fb_X7_bit d' (by omega) (mGP μ g (p ||| (lb ((xR μ 3) && ((xR μ 12) && (xR μ 21))) 17)) f) 22) (by decide +kernel) (fun r9 μ9 hq => ?_)
          obtain ⟨hμ9, rfl⟩ := hq
          rw [hμ9]
          clear hμ9 μ9
          show Z 0 506 [(10, .int 3), (9, .int (nB b9)), (8, .int (nB b8)), (7, .int x7), (6, .int (nB b6)), (5, .int (nB b5)), (3, .int x3), (2, .int x2), (1, .int x1), (4, .int (nB b4)), (0, .ref 50)] [.long (lb true 22), .long (p ||| (lb ((xR μ 3) && ((xR μ 12) && (xR μ 21))) 17)), .ref 50] _
          refine z_rcs hc hH 2 (pc' := 510) (lv' := [(10, .int 3), (9, .int (nB b9)), (8, .int (nB b8)), (7, .int x7), (6, .int (nB b6)), (5, .int (nB b5)), (3, .int x3), (2, .int x2), (1, .int x1), (4, .int (nB b4)), (0, .ref 50)]) (st' := []) (μ' := z_uj (mGP μ g (p ||| (lb ((xR μ 3) && ((xR μ 12) && (xR μ 21))) 17)) f) 50 25 ((p ||| (lb ((xR μ 3) && ((xR μ 12) && (xR μ 21))) 17)) ||| (lb true 22))) (by rfl) ?_
          rw [mGP_p]
          exact zJ hJ2 rfl rfl (by simp only [h4, h5, h6, lb_f, Int64.or_zero, nB_t, nB_f, Bool.not_true, Bool.not_false, Bool.and_true, Bool.true_and, Bool.false_and, Bool.and_false, Bool.or_true, Bool.true_or, Bool.false_or, Bool.or_false, cond_true, cond_false])
  refine zq_if hc hH (by rfl) (tg := 463) (by rfl) (fun h7 => ?_) (fun h7 => ?_)
  · have h7 : (xR μ 3) = false := nB_z.mp (cm_eq9.mp h7)
    exact zJ hJ1 rfl rfl (by simp only [h7, lb_f, Int64.or_zero, nB_t, nB_f, Bool.not_true, Bool.not_false, Bool.and_true, Bool.true_and, Bool.false_and, Bool.and_false, Bool.or_true, Bool.true_or, Bool.false_or, Bool.or_false, cond_true, cond_false])
  · have h7 : (xR μ 3) = true := nB_n.mp (cn_eq.mp h7)
    refine z_rcs hc hH 4 (pc' := 431) (lv' := [(10, .int 3), (9, .int (nB b9)), (8, .int (nB b8)), (7, .int x7), (6, .int (nB b6)), (5, .int (nB b5)), (3, .int x3), (2, .int x2), (1, .int x1), (4, .int (nB b4)), (0, .ref 50)]) (st' := [.int 12, .ref 50]) (μ' := mGP μ g p f) (by rfl) ?_
    refine zq_call hc (z_cx_ok hH (by rfl)) (fb_X7_hasRun d' (by omega) (mGP μ g p f) 12) (by decide +kernel) (fun r9 μ9 hq => ?_)
    obtain ⟨hμ9, rfl⟩ := hq
    rw [hμ9]
    clear hμ9 μ9
    show Z 0 434 [(10, .int 3), (9, .int (nB b9)), (8, .int (nB b8)), (7, .int x7), (6, .int (nB b6)), (5, .int (nB b5)), (3, .int x3), (2, .int x2), (1, .int x1), (4, .int (nB b4)), (0, .ref 50)] [.int (nB (xR μ 12))] (mGP μ g p f)
    refine zq_if hc hH (by rfl) (tg := 463) (by rfl) (fun h8 => ?_) (fun h8 => ?_)
    · have h8 : (xR μ 12) = false := nB_z.mp (cm_eq9.mp h8)
      exact zJ hJ1 rfl rfl (by simp only [h7, h8, lb_f, Int64.or_zero, nB_t, nB_f, Bool.not_true, Bool.not_false, Bool.and_true, Bool.true_and, Bool.false_and, Bool.and_false, Bool.or_true, Bool.true_or, Bool.false_or, Bool.or_false, cond_true, cond_false])
    · have h8 : (xR μ 12) = true := nB_n.mp (cn_eq.mp h8)
      refine z_rcs hc hH 4 (pc' := 443) (lv' := [(10, .int 3), (9, .int (nB b9)), (8, .int (nB b8)), (7, .int x7), (6, .int (nB b6)), (5, .int (nB b5)), (3, .int x3), (2, .int x2), (1, .int x1), (4, .int (nB b4)), (0, .ref 50)]) (st' := [.int 21, .ref 50]) (μ' := mGP μ g p f) (by rfl) ?_
      refine zq_call hc (z_cx_ok hH (by rfl)) (fb_X7_hasRun d' (by omega) (mGP μ g p f) 21) (by decide +kernel) (fun r9 μ9 hq => ?_)
      obtain ⟨hμ9, rfl⟩ := hq
      rw [hμ9]
      clear hμ9 μ9
      show Z 0 446 [(10, .int 3), (9, .int (nB b9)), (8, .int (nB b8)), (7, .int x7), (6, .int (nB b6)), (5, .int (nB b5)), (3, .int x3), (2, .int x2), (1, .int x1), (4, .int (nB b4)), (0, .ref 50)] [.int (nB (xR μ 21))] (mGP μ g p f)
      refine zq_if hc hH (by rfl) (tg := 463) (by rfl) (fun h9 => ?_) (fun h9 => ?_)
      · have h9 : (xR μ 21) = false := nB_z.mp (cm_eq9.mp h9)
        exact zJ hJ1 rfl rfl (by simp only [h7, h8, h9, lb_f, Int64.or_zero, nB_t, nB_f, Bool.not_true, Bool.not_false, Bool.and_true, Bool.true_and, Bool.false_and, Bool.and_false, Bool.or_true, Bool.true_or, Bool.false_or, Bool.or_false, cond_true, cond_false])
      · have h9 : (xR μ 21) = true := nB_n.mp (cn_eq.mp h9)
        refine z_rcs hc hH 4 (pc' := 456) (lv' := [(10, .int 3), (9, .int (nB b9)), (8, .int (nB b8)), (7, .int x7), (6, .int (nB b6)), (5, .int (nB b5)), (3, .int x3), (2, .int x2), (1, .int x1), (4, .int (nB b4)), (0, .ref 50)]) (st' := [.int 17, .long p, .ref 50]) (μ' := mGP μ g p f) (by rfl) ?_
        refine zq_call hc (z_cx_ok hH (by rfl)) (fb_X7_bit d' (by omega) (mGP μ g p f) 17) (by decide +kernel) (fun r9 μ9 hq => ?_)
        obtain ⟨hμ9, rfl⟩ := hq
        rw [hμ9]
        clear hμ9 μ9
        show Z 0 459 [(10, .int 3), (9, .int (nB b9)), (8, .int (nB b8)), (7, .int x7), (6, .int (nB b6)), (5, .int (nB b5)), (3, .int x3), (2, .int x2), (1, .int x1), (4, .int (nB b4)), (0, .ref 50)] [.long (lb true 17), .long p, .ref 50] (mGP μ g p f)
        refine z_rcs hc hH 2 (pc' := 463) (lv' := [(10, .int 3), (9, .int (nB b9)), (8, .int (nB b8)), (7, .int x7), (6, .int (nB b6)), (5, .int (nB b5)), (3, .int x3), (2, .int x2), (1, .int x1), (4, .int (nB b4)), (0, .ref 50)]) (st' := []) (μ' := z_uj (mGP μ g p f) 50 25 (p ||| (lb true 17))) (by rfl) ?_
        rw [mGP_p]
        exact zJ hJ1 rfl rfl (by simp only [h7, h8, h9, lb_f, Int64.or_zero, nB_t, nB_f, Bool.not_true, Bool.not_false, Bool.and_true, Bool.true_and, Bool.false_and, Bool.and_false, Bool.or_true, Bool.true_or, Bool.false_or, Bool.or_false, cond_true, cond_false])
theorem fs402_4 (d' : Nat) (Z : zK) (hd : 4 ≤ d') (μ : zM) (q : Nat) (hq : q ≤ 4) (e4 : μ.1 50 4 = nI q) (s l : Nat → Nat) (hA : AY μ s l) (hco : vp_in (μ.1 50 22) 5) (hc : z_clo z_x0 mi_X7_firstSort (z_C d') Z) (b9 : Bool) (b8 : Bool) (x7 : Int32) (b6 : Bool) (b5 : Bool) (x3 : Int32) (x2 : Int32) (x1 : Int32) (b4 : Bool) (g p : Int64) (f : Int32) (K : Z 0 402 [(10, .int 5), (9, .int (nB b9)), (8, .int (nB b8)), (7, .int x7), (6, .int (nB b6)), (5, .int (nB b5)), (3, .int x3), (2, .int x2), (1, .int x1), (4, .int (nB b4)), (0, .ref 50)] [] (mGP μ g ((p ||| (lb ((xR μ 4) && ((xR μ 13) && (xR μ 22))) 17)) ||| (lb ((xT μ 4) && ((xT μ 13) && (xT μ 22))) 22)) f)) : Z 0 402 [(10, .int 4), (9, .int (nB b9)), (8, .int (nB b8)), (7, .int x7), (6, .int (nB b6)), (5, .int (nB b5)), (3, .int x3), (2, .int x2), (1, .int x1), (4, .int (nB b4)), (0, .ref 50)] [] (mGP μ g p f) := by
  have hH : zH mi_X7_firstSort zt_X7_firstSort 79 7 14 := hh_X7_firstSort
  refine z_rcs hc hH 8 (pc' := 419) (lv' := [(10, .int 4), (9, .int (nB b9)), (8, .int (nB b8)), (7, .int x7), (6, .int (nB b6)), (5, .int (nB b5)), (3, .int x3), (2, .int x2), (1, .int x1), (4, .int (nB b4)), (0, .ref 50)]) (st' := [.int 4, .ref 50]) (μ' := mGP μ g p f) (by rfl) ?_
  refine zq_call hc (z_cx_ok hH (by rfl)) (fb_X7_hasRun d' (by omega) (mGP μ g p f) 4) (by decide +kernel) (fun r9 μ9 hq => ?_)
  obtain ⟨hμ9, rfl⟩ := hq
  rw [hμ9]
  clear hμ9 μ9
  show Z 0 422 [(10, .int 4), (9, .int (nB b9)), (8, .int (nB b8)), (7, .int x7), (6, .int (nB b6)), (5, .int (nB b5)), (3, .int x3), (2, .int x2), (1, .int x1), (4, .int (nB b4)), (0, .ref 50)] [.int (nB (xR μ 4))] (mGP μ g p f)
  have hJ1 : Z 0 463 [(10, .int 4), (9, .int (nB b9)), (8, .int (nB b8)), (7, .int x7), (6, .int (nB b6)), (5, .int (nB b5)), (3, .int x3), (2, .int x2), (1, .int x1), (4, .int (nB b4)), (0, .ref 50)] [] (mGP μ g (p ||| (lb ((xR μ 4) && ((xR μ 13) && (xR μ 22))) 17)) f) := by
    refine z_rcs0 hc hH 2 (pc' := 466) (lv' := [(10, .int 4), (9, .int (nB b9)), (8, .int (nB b8)), (7, .int x7), (6, .int (nB b6)), (5, .int (nB b5)), (3, .int x3), (2, .int x2), (1, .int x1), (4, .int (nB b4)), (0, .ref 50)]) (st' := [.int 4, .ref 50]) (by rfl) ?_
    refine zq_call hc (z_cx_ok hH (by rfl)) (fb_X7_hasThree d' (by omega) (mGP μ g (p ||| (lb ((xR μ 4) && ((xR μ 13) && (xR μ 22))) 17)) f) 4) (by decide +kernel) (fun r9 μ9 hq => ?_)
    obtain ⟨hμ9, rfl⟩ := hq
    rw [hμ9]
    clear hμ9 μ9
    show Z 0 469 [(10, .int 4), (9, .int (nB b9)), (8, .int (nB b8)), (7, .int x7), (6, .int (nB b6)), (5, .int (nB b5)), (3, .int x3), (2, .int x2), (1, .int x1), (4, .int (nB b4)), (0, .ref 50)] [.int (nB (xT μ 4))] _
    have hJ2 : Z 0 510 [(10, .int 4), (9, .int (nB b9)), (8, .int (nB b8)), (7, .int x7), (6, .int (nB b6)), (5, .int (nB b5)), (3, .int x3), (2, .int x2), (1, .int x1), (4, .int (nB b4)), (0, .ref 50)] [] (mGP μ g ((p ||| (lb ((xR μ 4) && ((xR μ 13) && (xR μ 22))) 17)) ||| (lb ((xT μ 4) && ((xT μ 13) && (xT μ 22))) 22)) f) := by
      generalize hyy3 : ((p ||| (lb ((xR μ 4) && ((xR μ 13) && (xR μ 22))) 17)) ||| (lb ((xT μ 4) && ((xT μ 13) && (xT μ 22))) 22) : Int64) = yy3
      refine z_rcs hc hH 2 (pc' := 402) (lv' := [(10, .int 5), (9, .int (nB b9)), (8, .int (nB b8)), (7, .int x7), (6, .int (nB b6)), (5, .int (nB b5)), (3, .int x3), (2, .int x2), (1, .int x1), (4, .int (nB b4)), (0, .ref 50)]) (st' := []) (μ' := mGP μ g yy3 f) (by rfl) ?_
      subst hyy3
      exact K
    refine zq_if hc hH (by rfl) (tg := 510) (by rfl) (fun h4 => ?_) (fun h4 => ?_)
    · have h4 : (xT μ 4) = false := nB_z.mp (cm_eq9.mp h4)
      exact zJ hJ2 rfl rfl (by simp only [h4, lb_f, Int64.or_zero, nB_t, nB_f, Bool.not_true, Bool.not_false, Bool.and_true, Bool.true_and, Bool.false_and, Bool.and_false, Bool.or_true, Bool.true_or, Bool.false_or, Bool.or_false, cond_true, cond_false])
    · have h4 : (xT μ 4) = true := nB_n.mp (cn_eq.mp h4)
      refine z_rcs hc hH 4 (pc' := 478) (lv' := [(10, .int 4), (9, .int (nB b9)), (8, .int (nB b8)), (7, .int x7), (6, .int (nB b6)), (5, .int (nB b5)), (3, .int x3), (2, .int x2), (1, .int x1), (4, .int (nB b4)), (0, .ref 50)]) (st' := [.int 13, .ref 50]) (μ' := mGP μ g (p ||| (lb ((xR μ 4) && ((xR μ 13) && (xR μ 22))) 17)) f) (by rfl) ?_
      refine zq_call hc (z_cx_ok hH (by rfl)) (fb_X7_hasThree d' (by omega) (mGP μ g (p ||| (lb ((xR μ 4) && ((xR μ 13) && (xR μ 22))) 17)) f) 13) (by decide +kernel) (fun r9 μ9 hq => ?_)
      obtain ⟨hμ9, rfl⟩ := hq
      rw [hμ9]
      clear hμ9 μ9
      show Z 0 481 [(10, .int 4), (9, .int (nB b9)), (8, .int (nB b8)), (7, .int x7), (6, .int (nB b6)), (5, .int (nB b5)), (3, .int x3), (2, .int x2), (1, .int x1), (4, .int (nB b4)), (0, .ref 50)] [.int (nB (xT μ 13))] _
      refine zq_if hc hH (by rfl) (tg := 510) (by rfl) (fun h5 => ?_) (fun h5 => ?_)
      · have h5 : (xT μ 13) = false := nB_z.mp (cm_eq9.mp h5)
        exact zJ hJ2 rfl rfl (by simp only [h4, h5, lb_f, Int64.or_zero, nB_t, nB_f, Bool.not_true, Bool.not_false, Bool.and_true, Bool.true_and, Bool.false_and, Bool.and_false, Bool.or_true, Bool.true_or, Bool.false_or, Bool.or_false, cond_true, cond_false])
      · have h5 : (xT μ 13) = true := nB_n.mp (cn_eq.mp h5)
        refine z_rcs0 hc hH 4 (pc' := 490) (lv' := [(10, .int 4), (9, .int (nB b9)), (8, .int (nB b8)), (7, .int x7), (6, .int (nB b6)), (5, .int (nB b5)), (3, .int x3), (2, .int x2), (1, .int x1), (4, .int (nB b4)), (0, .ref 50)]) (st' := [.int 22, .ref 50]) (by rfl) ?_
        refine zq_call hc (z_cx_ok hH (by rfl)) (fb_X7_hasThree d' (by omega) (mGP μ g (p ||| (lb ((xR μ 4) && ((xR μ 13) && (xR μ 22))) 17)) f) 22) (by decide +kernel) (fun r9 μ9 hq => ?_)
        obtain ⟨hμ9, rfl⟩ := hq
        rw [hμ9]
        clear hμ9 μ9
        show Z 0 493 [(10, .int 4), (9, .int (nB b9)), (8, .int (nB b8)), (7, .int x7), (6, .int (nB b6)), (5, .int (nB b5)), (3, .int x3), (2, .int x2), (1, .int x1), (4, .int (nB b4)), (0, .ref 50)] [.int (nB (xT μ 22))] _
        refine zq_if hc hH (by rfl) (tg := 510) (by rfl) (fun h6 => ?_) (fun h6 => ?_)
        · have h6 : (xT μ 22) = false := nB_z.mp (cm_eq9.mp h6)
          exact zJ hJ2 rfl rfl (by simp only [h4, h5, h6, lb_f, Int64.or_zero, nB_t, nB_f, Bool.not_true, Bool.not_false, Bool.and_true, Bool.true_and, Bool.false_and, Bool.and_false, Bool.or_true, Bool.true_or, Bool.false_or, Bool.or_false, cond_true, cond_false])
        · have h6 : (xT μ 22) = true := nB_n.mp (cn_eq.mp h6)
          refine z_rcs0 hc hH 4 (pc' := 503) (lv' := [(10, .int 4), (9, .int (nB b9)), (8, .int (nB b8)), (7, .int x7), (6, .int (nB b6)), (5, .int (nB b5)), (3, .int x3), (2, .int x2), (1, .int x1), (4, .int (nB b4)), (0, .ref 50)]) (st' := [.int 22, .long (p ||| (lb ((xR μ 4) && ((xR μ 13) && (xR μ 22))) 17)), .ref 50]) (by rfl) ?_
          refine zq_call hc (z_cx_ok hH (by rfl)) (fb_X7_bit d' (by omega) (mGP μ g (p ||| (lb ((xR μ 4) && ((xR μ 13) && (xR μ 22))) 17)) f) 22) (by decide +kernel) (fun r9 μ9 hq => ?_)
          obtain ⟨hμ9, rfl⟩ := hq
          rw [hμ9]
          clear hμ9 μ9
          show Z 0 506 [(10, .int 4), (9, .int (nB b9)), (8, .int (nB b8)), (7, .int x7), (6, .int (nB b6)), (5, .int (nB b5)), (3, .int x3), (2, .int x2), (1, .int x1), (4, .int (nB b4)), (0, .ref 50)] [.long (lb true 22), .long (p ||| (lb ((xR μ 4) && ((xR μ 13) && (xR μ 22))) 17)), .ref 50] _
          refine z_rcs hc hH 2 (pc' := 510) (lv' := [(10, .int 4), (9, .int (nB b9)), (8, .int (nB b8)), (7, .int x7), (6, .int (nB b6)), (5, .int (nB b5)), (3, .int x3), (2, .int x2), (1, .int x1), (4, .int (nB b4)), (0, .ref 50)]) (st' := []) (μ' := z_uj (mGP μ g (p ||| (lb ((xR μ 4) && ((xR μ 13) && (xR μ 22))) 17)) f) 50 25 ((p ||| (lb ((xR μ 4) && ((xR μ 13) && (xR μ 22))) 17)) ||| (lb true 22))) (by rfl) ?_
          rw [mGP_p]
          exact zJ hJ2 rfl rfl (by simp only [h4, h5, h6, lb_f, Int64.or_zero, nB_t, nB_f, Bool.not_true, Bool.not_false, Bool.and_true, Bool.true_and, Bool.false_and, Bool.and_false, Bool.or_true, Bool.true_or, Bool.false_or, Bool.or_false, cond_true, cond_false])
  refine zq_if hc hH (by rfl) (tg := 463) (by rfl) (fun h7 => ?_) (fun h7 => ?_)
  · have h7 : (xR μ 4) = false := nB_z.mp (cm_eq9.mp h7)
    exact zJ hJ1 rfl rfl (by simp only [h7, lb_f, Int64.or_zero, nB_t, nB_f, Bool.not_true, Bool.not_false, Bool.and_true, Bool.true_and, Bool.false_and, Bool.and_false, Bool.or_true, Bool.true_or, Bool.false_or, Bool.or_false, cond_true, cond_false])
  · have h7 : (xR μ 4) = true := nB_n.mp (cn_eq.mp h7)
    refine z_rcs hc hH 4 (pc' := 431) (lv' := [(10, .int 4), (9, .int (nB b9)), (8, .int (nB b8)), (7, .int x7), (6, .int (nB b6)), (5, .int (nB b5)), (3, .int x3), (2, .int x2), (1, .int x1), (4, .int (nB b4)), (0, .ref 50)]) (st' := [.int 13, .ref 50]) (μ' := mGP μ g p f) (by rfl) ?_
    refine zq_call hc (z_cx_ok hH (by rfl)) (fb_X7_hasRun d' (by omega) (mGP μ g p f) 13) (by decide +kernel) (fun r9 μ9 hq => ?_)
    obtain ⟨hμ9, rfl⟩ := hq
    rw [hμ9]
    clear hμ9 μ9
    show Z 0 434 [(10, .int 4), (9, .int (nB b9)), (8, .int (nB b8)), (7, .int x7), (6, .int (nB b6)), (5, .int (nB b5)), (3, .int x3), (2, .int x2), (1, .int x1), (4, .int (nB b4)), (0, .ref 50)] [.int (nB (xR μ 13))] (mGP μ g p f)
    refine zq_if hc hH (by rfl) (tg := 463) (by rfl) (fun h8 => ?_) (fun h8 => ?_)
    · have h8 : (xR μ 13) = false := nB_z.mp (cm_eq9.mp h8)
      exact zJ hJ1 rfl rfl (by simp only [h7, h8, lb_f, Int64.or_zero, nB_t, nB_f, Bool.not_true, Bool.not_false, Bool.and_true, Bool.true_and, Bool.false_and, Bool.and_false, Bool.or_true, Bool.true_or, Bool.false_or, Bool.or_false, cond_true, cond_false])
    · have h8 : (xR μ 13) = true := nB_n.mp (cn_eq.mp h8)
      refine z_rcs hc hH 4 (pc' := 443) (lv' := [(10, .int 4), (9, .int (nB b9)), (8, .int (nB b8)), (7, .int x7), (6, .int (nB b6)), (5, .int (nB b5)), (3, .int x3), (2, .int x2), (1, .int x1), (4, .int (nB b4)), (0, .ref 50)]) (st' := [.int 22, .ref 50]) (μ' := mGP μ g p f) (by rfl) ?_
      refine zq_call hc (z_cx_ok hH (by rfl)) (fb_X7_hasRun d' (by omega) (mGP μ g p f) 22) (by decide +kernel) (fun r9 μ9 hq => ?_)
      obtain ⟨hμ9, rfl⟩ := hq
      rw [hμ9]
      clear hμ9 μ9
      show Z 0 446 [(10, .int 4), (9, .int (nB b9)), (8, .int (nB b8)), (7, .int x7), (6, .int (nB b6)), (5, .int (nB b5)), (3, .int x3), (2, .int x2), (1, .int x1), (4, .int (nB b4)), (0, .ref 50)] [.int (nB (xR μ 22))] (mGP μ g p f)
      refine zq_if hc hH (by rfl) (tg := 463) (by rfl) (fun h9 => ?_) (fun h9 => ?_)
      · have h9 : (xR μ 22) = false := nB_z.mp (cm_eq9.mp h9)
        exact zJ hJ1 rfl rfl (by simp only [h7, h8, h9, lb_f, Int64.or_zero, nB_t, nB_f, Bool.not_true, Bool.not_false, Bool.and_true, Bool.true_and, Bool.false_and, Bool.and_false, Bool.or_true, Bool.true_or, Bool.false_or, Bool.or_false, cond_true, cond_false])
      · have h9 : (xR μ 22) = true := nB_n.mp (cn_eq.mp h9)
        refine z_rcs hc hH 4 (pc' := 456) (lv' := [(10, .int 4), (9, .int (nB b9)), (8, .int (nB b8)), (7, .int x7), (6, .int (nB b6)), (5, .int (nB b5)), (3, .int x3), (2, .int x2), (1, .int x1), (4, .int (nB b4)), (0, .ref 50)]) (st' := [.int 17, .long p, .ref 50]) (μ' := mGP μ g p f) (by rfl) ?_
        refine zq_call hc (z_cx_ok hH (by rfl)) (fb_X7_bit d' (by omega) (mGP μ g p f) 17) (by decide +kernel) (fun r9 μ9 hq => ?_)
        obtain ⟨hμ9, rfl⟩ := hq
        rw [hμ9]
        clear hμ9 μ9
        show Z 0 459 [(10, .int 4), (9, .int (nB b9)), (8, .int (nB b8)), (7, .int x7), (6, .int (nB b6)), (5, .int (nB b5)), (3, .int x3), (2, .int x2), (1, .int x1), (4, .int (nB b4)), (0, .ref 50)] [.long (lb true 17), .long p, .ref 50] (mGP μ g p f)
        refine z_rcs hc hH 2 (pc' := 463) (lv' := [(10, .int 4), (9, .int (nB b9)), (8, .int (nB b8)), (7, .int x7), (6, .int (nB b6)), (5, .int (nB b5)), (3, .int x3), (2, .int x2), (1, .int x1), (4, .int (nB b4)), (0, .ref 50)]) (st' := []) (μ' := z_uj (mGP μ g p f) 50 25 (p ||| (lb true 17))) (by rfl) ?_
        rw [mGP_p]
        exact zJ hJ1 rfl rfl (by simp only [h7, h8, h9, lb_f, Int64.or_zero, nB_t, nB_f, Bool.not_true, Bool.not_false, Bool.and_true, Bool.true_and, Bool.false_and, Bool.and_false, Bool.or_true, Bool.true_or, Bool.false_or, Bool.or_false, cond_true, cond_false])
theorem fs402_5 (d' : Nat) (Z : zK) (hd : 4 ≤ d') (μ : zM) (q : Nat) (hq : q ≤ 4) (e4 : μ.1 50 4 = nI q) (s l : Nat → Nat) (hA : AY μ s l) (hco : vp_in (μ.1 50 22) 5) (hc : z_clo z_x0 mi_X7_firstSort (z_C d') Z) (b9 : Bool) (b8 : Bool) (x7 : Int32) (b6 : Bool) (b5 : Bool) (x3 : Int32) (x2 : Int32) (x1 : Int32) (b4 : Bool) (g p : Int64) (f : Int32) (K : Z 0 402 [(10, .int 6), (9, .int (nB b9)), (8, .int (nB b8)), (7, .int x7), (6, .int (nB b6)), (5, .int (nB b5)), (3, .int x3), (2, .int x2), (1, .int x1), (4, .int (nB b4)), (0, .ref 50)] [] (mGP μ g ((p ||| (lb ((xR μ 5) && ((xR μ 14) && (xR μ 23))) 17)) ||| (lb ((xT μ 5) && ((xT μ 14) && (xT μ 23))) 22)) f)) : Z 0 402 [(10, .int 5), (9, .int (nB b9)), (8, .int (nB b8)), (7, .int x7), (6, .int (nB b6)), (5, .int (nB b5)), (3, .int x3), (2, .int x2), (1, .int x1), (4, .int (nB b4)), (0, .ref 50)] [] (mGP μ g p f) := by
  have hH : zH mi_X7_firstSort zt_X7_firstSort 79 7 14 := hh_X7_firstSort
  refine z_rcs hc hH 8 (pc' := 419) (lv' := [(10, .int 5), (9, .int (nB b9)), (8, .int (nB b8)), (7, .int x7), (6, .int (nB b6)), (5, .int (nB b5)), (3, .int x3), (2, .int x2), (1, .int x1), (4, .int (nB b4)), (0, .ref 50)]) (st' := [.int 5, .ref 50]) (μ' := mGP μ g p f) (by rfl) ?_
  refine zq_call hc (z_cx_ok hH (by rfl)) (fb_X7_hasRun d' (by omega) (mGP μ g p f) 5) (by decide +kernel) (fun r9 μ9 hq => ?_)
  obtain ⟨hμ9, rfl⟩ := hq
  rw [hμ9]
  clear hμ9 μ9
  show Z 0 422 [(10, .int 5), (9, .int (nB b9)), (8, .int (nB b8)), (7, .int x7), (6, .int (nB b6)), (5, .int (nB b5)), (3, .int x3), (2, .int x2), (1, .int x1), (4, .int (nB b4)), (0, .ref 50)] [.int (nB (xR μ 5))] (mGP μ g p f)
  have hJ1 : Z 0 463 [(10, .int 5), (9, .int (nB b9)), (8, .int (nB b8)), (7, .int x7), (6, .int (nB b6)), (5, .int (nB b5)), (3, .int x3), (2, .int x2), (1, .int x1), (4, .int (nB b4)), (0, .ref 50)] [] (mGP μ g (p ||| (lb ((xR μ 5) && ((xR μ 14) && (xR μ 23))) 17)) f) := by
    refine z_rcs0 hc hH 2 (pc' := 466) (lv' := [(10, .int 5), (9, .int (nB b9)), (8, .int (nB b8)), (7, .int x7), (6, .int (nB b6)), (5, .int (nB b5)), (3, .int x3), (2, .int x2), (1, .int x1), (4, .int (nB b4)), (0, .ref 50)]) (st' := [.int 5, .ref 50]) (by rfl) ?_
    refine zq_call hc (z_cx_ok hH (by rfl)) (fb_X7_hasThree d' (by omega) (mGP μ g (p ||| (lb ((xR μ 5) && ((xR μ 14) && (xR μ 23))) 17)) f) 5) (by decide +kernel) (fun r9 μ9 hq => ?_)
    obtain ⟨hμ9, rfl⟩ := hq
    rw [hμ9]
    clear hμ9 μ9
    show Z 0 469 [(10, .int 5), (9, .int (nB b9)), (8, .int (nB b8)), (7, .int x7), (6, .int (nB b6)), (5, .int (nB b5)), (3, .int x3), (2, .int x2), (1, .int x1), (4, .int (nB b4)), (0, .ref 50)] [.int (nB (xT μ 5))] _
    have hJ2 : Z 0 510 [(10, .int 5), (9, .int (nB b9)), (8, .int (nB b8)), (7, .int x7), (6, .int (nB b6)), (5, .int (nB b5)), (3, .int x3), (2, .int x2), (1, .int x1), (4, .int (nB b4)), (0, .ref 50)] [] (mGP μ g ((p ||| (lb ((xR μ 5) && ((xR μ 14) && (xR μ 23))) 17)) ||| (lb ((xT μ 5) && ((xT μ 14) && (xT μ 23))) 22)) f) := by
      generalize hyy3 : ((p ||| (lb ((xR μ 5) && ((xR μ 14) && (xR μ 23))) 17)) ||| (lb ((xT μ 5) && ((xT μ 14) && (xT μ 23))) 22) : Int64) = yy3
      refine z_rcs hc hH 2 (pc' := 402) (lv' := [(10, .int 6), (9, .int (nB b9)), (8, .int (nB b8)), (7, .int x7), (6, .int (nB b6)), (5, .int (nB b5)), (3, .int x3), (2, .int x2), (1, .int x1), (4, .int (nB b4)), (0, .ref 50)]) (st' := []) (μ' := mGP μ g yy3 f) (by rfl) ?_
      subst hyy3
      exact K
    refine zq_if hc hH (by rfl) (tg := 510) (by rfl) (fun h4 => ?_) (fun h4 => ?_)
    · have h4 : (xT μ 5) = false := nB_z.mp (cm_eq9.mp h4)
      exact zJ hJ2 rfl rfl (by simp only [h4, lb_f, Int64.or_zero, nB_t, nB_f, Bool.not_true, Bool.not_false, Bool.and_true, Bool.true_and, Bool.false_and, Bool.and_false, Bool.or_true, Bool.true_or, Bool.false_or, Bool.or_false, cond_true, cond_false])
    · have h4 : (xT μ 5) = true := nB_n.mp (cn_eq.mp h4)
      refine z_rcs hc hH 4 (pc' := 478) (lv' := [(10, .int 5), (9, .int (nB b9)), (8, .int (nB b8)), (7, .int x7), (6, .int (nB b6)), (5, .int (nB b5)), (3, .int x3), (2, .int x2), (1, .int x1), (4, .int (nB b4)), (0, .ref 50)]) (st' := [.int 14, .ref 50]) (μ' := mGP μ g (p ||| (lb ((xR μ 5) && ((xR μ 14) && (xR μ 23))) 17)) f) (by rfl) ?_
      refine zq_call hc (z_cx_ok hH (by rfl)) (fb_X7_hasThree d' (by omega) (mGP μ g (p ||| (lb ((xR μ 5) && ((xR μ 14) && (xR μ 23))) 17)) f) 14) (by decide +kernel) (fun r9 μ9 hq => ?_)
      obtain ⟨hμ9, rfl⟩ := hq
      rw [hμ9]
      clear hμ9 μ9
      show Z 0 481 [(10, .int 5), (9, .int (nB b9)), (8, .int (nB b8)), (7, .int x7), (6, .int (nB b6)), (5, .int (nB b5)), (3, .int x3), (2, .int x2), (1, .int x1), (4, .int (nB b4)), (0, .ref 50)] [.int (nB (xT μ 14))] _
      refine zq_if hc hH (by rfl) (tg := 510) (by rfl) (fun h5 => ?_) (fun h5 => ?_)
      · have h5 : (xT μ 14) = false := nB_z.mp (cm_eq9.mp h5)
        exact zJ hJ2 rfl rfl (by simp only [h4, h5, lb_f, Int64.or_zero, nB_t, nB_f, Bool.not_true, Bool.not_false, Bool.and_true, Bool.true_and, Bool.false_and, Bool.and_false, Bool.or_true, Bool.true_or, Bool.false_or, Bool.or_false, cond_true, cond_false])
      · have h5 : (xT μ 14) = true := nB_n.mp (cn_eq.mp h5)
        refine z_rcs0 hc hH 4 (pc' := 490) (lv' := [(10, .int 5), (9, .int (nB b9)), (8, .int (nB b8)), (7, .int x7), (6, .int (nB b6)), (5, .int (nB b5)), (3, .int x3), (2, .int x2), (1, .int x1), (4, .int (nB b4)), (0, .ref 50)]) (st' := [.int 23, .ref 50]) (by rfl) ?_
        refine zq_call hc (z_cx_ok hH (by rfl)) (fb_X7_hasThree d' (by omega) (mGP μ g (p ||| (lb ((xR μ 5) && ((xR μ 14) && (xR μ 23))) 17)) f) 23) (by decide +kernel) (fun r9 μ9 hq => ?_)
        obtain ⟨hμ9, rfl⟩ := hq
        rw [hμ9]
        clear hμ9 μ9
        show Z 0 493 [(10, .int 5), (9, .int (nB b9)), (8, .int (nB b8)), (7, .int x7), (6, .int (nB b6)), (5, .int (nB b5)), (3, .int x3), (2, .int x2), (1, .int x1), (4, .int (nB b4)), (0, .ref 50)] [.int (nB (xT μ 23))] _
        refine zq_if hc hH (by rfl) (tg := 510) (by rfl) (fun h6 => ?_) (fun h6 => ?_)
        · have h6 : (xT μ 23) = false := nB_z.mp (cm_eq9.mp h6)
          exact zJ hJ2 rfl rfl (by simp only [h4, h5, h6, lb_f, Int64.or_zero, nB_t, nB_f, Bool.not_true, Bool.not_false, Bool.and_true, Bool.true_and, Bool.false_and, Bool.and_false, Bool.or_true, Bool.true_or, Bool.false_or, Bool.or_false, cond_true, cond_false])
        · have h6 : (xT μ 23) = true := nB_n.mp (cn_eq.mp h6)
          refine z_rcs0 hc hH 4 (pc' := 503) (lv' := [(10, .int 5), (9, .int (nB b9)), (8, .int (nB b8)), (7, .int x7), (6, .int (nB b6)), (5, .int (nB b5)), (3, .int x3), (2, .int x2), (1, .int x1), (4, .int (nB b4)), (0, .ref 50)]) (st' := [.int 22, .long (p ||| (lb ((xR μ 5) && ((xR μ 14) && (xR μ 23))) 17)), .ref 50]) (by rfl) ?_
          refine zq_call hc (z_cx_ok hH (by rfl)) (fb_X7_bit d' (by omega) (mGP μ g (p ||| (lb ((xR μ 5) && ((xR μ 14) && (xR μ 23))) 17)) f) 22) (by decide +kernel) (fun r9 μ9 hq => ?_)
          obtain ⟨hμ9, rfl⟩ := hq
          rw [hμ9]
          clear hμ9 μ9
          show Z 0 506 [(10, .int 5), (9, .int (nB b9)), (8, .int (nB b8)), (7, .int x7), (6, .int (nB b6)), (5, .int (nB b5)), (3, .int x3), (2, .int x2), (1, .int x1), (4, .int (nB b4)), (0, .ref 50)] [.long (lb true 22), .long (p ||| (lb ((xR μ 5) && ((xR μ 14) && (xR μ 23))) 17)), .ref 50] _
          refine z_rcs hc hH 2 (pc' := 510) (lv' := [(10, .int 5), (9, .int (nB b9)), (8, .int (nB b8)), (7, .int x7), (6, .int (nB b6)), (5, .int (nB b5)), (3, .int x3), (2, .int x2), (1, .int x1), (4, .int (nB b4)), (0, .ref 50)]) (st' := []) (μ' := z_uj (mGP μ g (p ||| (lb ((xR μ 5) && ((xR μ 14) && (xR μ 23))) 17)) f) 50 25 ((p ||| (lb ((xR μ 5) && ((xR μ 14) && (xR μ 23))) 17)) ||| (lb true 22))) (by rfl) ?_
          rw [mGP_p]
          exact zJ hJ2 rfl rfl (by simp only [h4, h5, h6, lb_f, Int64.or_zero, nB_t, nB_f, Bool.not_true, Bool.not_false, Bool.and_true, Bool.true_and, Bool.false_and, Bool.and_false, Bool.or_true, Bool.true_or, Bool.false_or, Bool.or_false, cond_true, cond_false])
  refine zq_if hc hH (by rfl) (tg := 463) (by rfl) (fun h7 => ?_) (fun h7 => ?_)
  · have h7 : (xR μ 5) = false := nB_z.mp (cm_eq9.mp h7)
    exact zJ hJ1 rfl rfl (by simp only [h7, lb_f, Int64.or_zero, nB_t, nB_f, Bool.not_true, Bool.not_false, Bool.and_true, Bool.true_and, Bool.false_and, Bool.and_false, Bool.or_true, Bool.true_or, Bool.false_or, Bool.or_false, cond_true, cond_false])
  · have h7 : (xR μ 5) = true := nB_n.mp (cn_eq.mp h7)
    refine z_rcs hc hH 4 (pc' := 431) (lv' := [(10, .int 5), (9, .int (nB b9)), (8, .int (nB b8)), (7, .int x7), (6, .int (nB b6)), (5, .int (nB b5)), (3, .int x3), (2, .int x2), (1, .int x1), (4, .int (nB b4)), (0, .ref 50)]) (st' := [.int 14, .ref 50]) (μ' := mGP μ g p f) (by rfl) ?_
    refine zq_call hc (z_cx_ok hH (by rfl)) (fb_X7_hasRun d' (by omega) (mGP μ g p f) 14) (by decide +kernel) (fun r9 μ9 hq => ?_)
    obtain ⟨hμ9, rfl⟩ := hq
    rw [hμ9]
    clear hμ9 μ9
    show Z 0 434 [(10, .int 5), (9, .int (nB b9)), (8, .int (nB b8)), (7, .int x7), (6, .int (nB b6)), (5, .int (nB b5)), (3, .int x3), (2, .int x2), (1, .int x1), (4, .int (nB b4)), (0, .ref 50)] [.int (nB (xR μ 14))] (mGP μ g p f)
    refine zq_if hc hH (by rfl) (tg := 463) (by rfl) (fun h8 => ?_) (fun h8 => ?_)
    · have h8 : (xR μ 14) = false := nB_z.mp (cm_eq9.mp h8)
      exact zJ hJ1 rfl rfl (by simp only [h7, h8, lb_f, Int64.or_zero, nB_t, nB_f, Bool.not_true, Bool.not_false, Bool.and_true, Bool.true_and, Bool.false_and, Bool.and_false, Bool.or_true, Bool.true_or, Bool.false_or, Bool.or_false, cond_true, cond_false])
    · have h8 : (xR μ 14) = true := nB_n.mp (cn_eq.mp h8)
      refine z_rcs hc hH 4 (pc' := 443) (lv' := [(10, .int 5), (9, .int (nB b9)), (8, .int (nB b8)), (7, .int x7), (6, .int (nB b6)), (5, .int (nB b5)), (3, .int x3), (2, .int x2), (1, .int x1), (4, .int (nB b4)), (0, .ref 50)]) (st' := [.int 23, .ref 50]) (μ' := mGP μ g p f) (by rfl) ?_
      refine zq_call hc (z_cx_ok hH (by rfl)) (fb_X7_hasRun d' (by omega) (mGP μ g p f) 23) (by decide +kernel) (fun r9 μ9 hq => ?_)
      obtain ⟨hμ9, rfl⟩ := hq
      rw [hμ9]
      clear hμ9 μ9
      show Z 0 446 [(10, .int 5), (9, .int (nB b9)), (8, .int (nB b8)), (7, .int x7), (6, .int (nB b6)), (5, .int (nB b5)), (3, .int x3), (2, .int x2), (1, .int x1), (4, .int (nB b4)), (0, .ref 50)] [.int (nB (xR μ 23))] (mGP μ g p f)
      refine zq_if hc hH (by rfl) (tg := 463) (by rfl) (fun h9 => ?_) (fun h9 => ?_)
      · have h9 : (xR μ 23) = false := nB_z.mp (cm_eq9.mp h9)
        exact zJ hJ1 rfl rfl (by simp only [h7, h8, h9, lb_f, Int64.or_zero, nB_t, nB_f, Bool.not_true, Bool.not_false, Bool.and_true, Bool.true_and, Bool.false_and, Bool.and_false, Bool.or_true, Bool.true_or, Bool.false_or, Bool.or_false, cond_true, cond_false])
      · have h9 : (xR μ 23) = true := nB_n.mp (cn_eq.mp h9)
        refine z_rcs hc hH 4 (pc' := 456) (lv' := [(10, .int 5), (9, .int (nB b9)), (8, .int (nB b8)), (7, .int x7), (6, .int (nB b6)), (5, .int (nB b5)), (3, .int x3), (2, .int x2), (1, .int x1), (4, .int (nB b4)), (0, .ref 50)]) (st' := [.int 17, .long p, .ref 50]) (μ' := mGP μ g p f) (by rfl) ?_
        refine zq_call hc (z_cx_ok hH (by rfl)) (fb_X7_bit d' (by omega) (mGP μ g p f) 17) (by decide +kernel) (fun r9 μ9 hq => ?_)
        obtain ⟨hμ9, rfl⟩ := hq
        rw [hμ9]
        clear hμ9 μ9
        show Z 0 459 [(10, .int 5), (9, .int (nB b9)), (8, .int (nB b8)), (7, .int x7), (6, .int (nB b6)), (5, .int (nB b5)), (3, .int x3), (2, .int x2), (1, .int x1), (4, .int (nB b4)), (0, .ref 50)] [.long (lb true 17), .long p, .ref 50] (mGP μ g p f)
        refine z_rcs hc hH 2 (pc' := 463) (lv' := [(10, .int 5), (9, .int (nB b9)), (8, .int (nB b8)), (7, .int x7), (6, .int (nB b6)), (5, .int (nB b5)), (3, .int x3), (2, .int x2), (1, .int x1), (4, .int (nB b4)), (0, .ref 50)]) (st' := []) (μ' := z_uj (mGP μ g p f) 50 25 (p ||| (lb true 17))) (by rfl) ?_
        rw [mGP_p]
        exact zJ hJ1 rfl rfl (by simp only [h7, h8, h9, lb_f, Int64.or_zero, nB_t, nB_f, Bool.not_true, Bool.not_false, Bool.and_true, Bool.true_and, Bool.false_and, Bool.and_false, Bool.or_true, Bool.true_or, Bool.false_or, Bool.or_false, cond_true, cond_false])
theorem fs402_6 (d' : Nat) (Z : zK) (hd : 4 ≤ d') (μ : zM) (q : Nat) (hq : q ≤ 4) (e4 : μ.1 50 4 = nI q) (s l : Nat → Nat) (hA : AY μ s l) (hco : vp_in (μ.1 50 22) 5) (hc : z_clo z_x0 mi_X7_firstSort (z_C d') Z) (b9 : Bool) (b8 : Bool) (x7 : Int32) (b6 : Bool) (b5 : Bool) (x3 : Int32) (x2 : Int32) (x1 : Int32) (b4 : Bool) (g p : Int64) (f : Int32) (K : Z 0 402 [(10, .int 7), (9, .int (nB b9)), (8, .int (nB b8)), (7, .int x7), (6, .int (nB b6)), (5, .int (nB b5)), (3, .int x3), (2, .int x2), (1, .int x1), (4, .int (nB b4)), (0, .ref 50)] [] (mGP μ g ((p ||| (lb ((xR μ 6) && ((xR μ 15) && (xR μ 24))) 17)) ||| (lb ((xT μ 6) && ((xT μ 15) && (xT μ 24))) 22)) f)) : Z 0 402 [(10, .int 6), (9, .int (nB b9)), (8, .int (nB b8)), (7, .int x7), (6, .int (nB b6)), (5, .int (nB b5)), (3, .int x3), (2, .int x2), (1, .int x1), (4, .int (nB b4)), (0, .ref 50)] [] (mGP μ g p f) := by
  have hH : zH mi_X7_firstSort zt_X7_firstSort 79 7 14 := hh_X7_firstSort
  refine z_rcs hc hH 8 (pc' := 419) (lv' := [(10, .int 6), (9, .int (nB b9)), (8, .int (nB b8)), (7, .int x7), (6, .int (nB b6)), (5, .int (nB b5)), (3, .int x3), (2, .int x2), (1, .int x1), (4, .int (nB b4)), (0, .ref 50)]) (st' := [.int 6, .ref 50]) (μ' := mGP μ g p f) (by rfl) ?_
  refine zq_call hc (z_cx_ok hH (by rfl)) (fb_X7_hasRun d' (by omega) (mGP μ g p f) 6) (by decide +kernel) (fun r9 μ9 hq => ?_)
  obtain ⟨hμ9, rfl⟩ := hq
  rw [hμ9]
  clear hμ9 μ9
  show Z 0 422 [(10, .int 6), (9, .int (nB b9)), (8, .int (nB b8)), (7, .int x7), (6, .int (nB b6)), (5, .int (nB b5)), (3, .int x3), (2, .int x2), (1, .int x1), (4, .int (nB b4)), (0, .ref 50)] [.int (nB (xR μ 6))] (mGP μ g p f)
  have hJ1 : Z 0 463 [(10, .int 6), (9, .int (nB b9)), (8, .int (nB b8)), (7, .int x7), (6, .int (nB b6)), (5, .int (nB b5)), (3, .int x3), (2, .int x2), (1, .int x1), (4, .int (nB b4)), (0, .ref 50)] [] (mGP μ g (p ||| (lb ((xR μ 6) && ((xR μ 15) && (xR μ 24))) 17)) f) := by
    refine z_rcs0 hc hH 2 (pc' := 466) (lv' := [(10, .int 6), (9, .int (nB b9)), (8, .int (nB b8)), (7, .int x7), (6, .int (nB b6)), (5, .int (nB b5)), (3, .int x3), (2, .int x2), (1, .int x1), (4, .int (nB b4)), (0, .ref 50)]) (st' := [.int 6, .ref 50]) (by rfl) ?_
    refine zq_call hc (z_cx_ok hH (by rfl)) (fb_X7_hasThree d' (by omega) (mGP μ g (p ||| (lb ((xR μ 6) && ((xR μ 15) && (xR μ 24))) 17)) f) 6) (by decide +kernel) (fun r9 μ9 hq => ?_)
    obtain ⟨hμ9, rfl⟩ := hq
    rw [hμ9]
    clear hμ9 μ9
    show Z 0 469 [(10, .int 6), (9, .int (nB b9)), (8, .int (nB b8)), (7, .int x7), (6, .int (nB b6)), (5, .int (nB b5)), (3, .int x3), (2, .int x2), (1, .int x1), (4, .int (nB b4)), (0, .ref 50)] [.int (nB (xT μ 6))] _
    have hJ2 : Z 0 510 [(10, .int 6), (9, .int (nB b9)), (8, .int (nB b8)), (7, .int x7), (6, .int (nB b6)), (5, .int (nB b5)), (3, .int x3), (2, .int x2), (1, .int x1), (4, .int (nB b4)), (0, .ref 50)] [] (mGP μ g ((p ||| (lb ((xR μ 6) && ((xR μ 15) && (xR μ 24))) 17)) ||| (lb ((xT μ 6) && ((xT μ 15) && (xT μ 24))) 22)) f) := by
      generalize hyy3 : ((p ||| (lb ((xR μ 6) && ((xR μ 15) && (xR μ 24))) 17)) ||| (lb ((xT μ 6) && ((xT μ 15) && (xT μ 24))) 22) : Int64) = yy3
      refine z_rcs hc hH 2 (pc' := 402) (lv' := [(10, .int 7), (9, .int (nB b9)), (8, .int (nB b8)), (7, .int x7), (6, .int (nB b6)), (5, .int (nB b5)), (3, .int x3), (2, .int x2), (1, .int x1), (4, .int (nB b4)), (0, .ref 50)]) (st' := []) (μ' := mGP μ g yy3 f) (by rfl) ?_
      subst hyy3
      exact K
    refine zq_if hc hH (by rfl) (tg := 510) (by rfl) (fun h4 => ?_) (fun h4 => ?_)
    · have h4 : (xT μ 6) = false := nB_z.mp (cm_eq9.mp h4)
      exact zJ hJ2 rfl rfl (by simp only [h4, lb_f, Int64.or_zero, nB_t, nB_f, Bool.not_true, Bool.not_false, Bool.and_true, Bool.true_and, Bool.false_and, Bool.and_false, Bool.or_true, Bool.true_or, Bool.false_or, Bool.or_false, cond_true, cond_false])
    · have h4 : (xT μ 6) = true := nB_n.mp (cn_eq.mp h4)
      refine z_rcs hc hH 4 (pc' := 478) (lv' := [(10, .int 6), (9, .int (nB b9)), (8, .int (nB b8)), (7, .int x7), (6, .int (nB b6)), (5, .int (nB b5)), (3, .int x3), (2, .int x2), (1, .int x1), (4, .int (nB b4)), (0, .ref 50)]) (st' := [.int 15, .ref 50]) (μ' := mGP μ g (p ||| (lb ((xR μ 6) && ((xR μ 15) && (xR μ 24))) 17)) f) (by rfl) ?_
      refine zq_call hc (z_cx_ok hH (by rfl)) (fb_X7_hasThree d' (by omega) (mGP μ g (p ||| (lb ((xR μ 6) && ((xR μ 15) && (xR μ 24))) 17)) f) 15) (by decide +kernel) (fun r9 μ9 hq => ?_)
      obtain ⟨hμ9, rfl⟩ := hq
      rw [hμ9]
      clear hμ9 μ9
      show Z 0 481 [(10, .int 6), (9, .int (nB b9)), (8, .int (nB b8)), (7, .int x7), (6, .int (nB b6)), (5, .int (nB b5)), (3, .int x3), (2, .int x2), (1, .int x1), (4, .int (nB b4)), (0, .ref 50)] [.int (nB (xT μ 15))] _
      refine zq_if hc hH (by rfl) (tg := 510) (by rfl) (fun h5 => ?_) (fun h5 => ?_)
      · have h5 : (xT μ 15) = false := nB_z.mp (cm_eq9.mp h5)
        exact zJ hJ2 rfl rfl (by simp only [h4, h5, lb_f, Int64.or_zero, nB_t, nB_f, Bool.not_true, Bool.not_false, Bool.and_true, Bool.true_and, Bool.false_and, Bool.and_false, Bool.or_true, Bool.true_or, Bool.false_or, Bool.or_false, cond_true, cond_false])
      · have h5 : (xT μ 15) = true := nB_n.mp (cn_eq.mp h5)
        refine z_rcs0 hc hH 4 (pc' := 490) (lv' := [(10, .int 6), (9, .int (nB b9)), (8, .int (nB b8)), (7, .int x7), (6, .int (nB b6)), (5, .int (nB b5)), (3, .int x3), (2, .int x2), (1, .int x1), (4, .int (nB b4)), (0, .ref 50)]) (st' := [.int 24, .ref 50]) (by rfl) ?_
        refine zq_call hc (z_cx_ok hH (by rfl)) (fb_X7_hasThree d' (by omega) (mGP μ g (p ||| (lb ((xR μ 6) && ((xR μ 15) && (xR μ 24))) 17)) f) 24) (by decide +kernel) (fun r9 μ9 hq => ?_)
        obtain ⟨hμ9, rfl⟩ := hq
        rw [hμ9]
        clear hμ9 μ9
        show Z 0 493 [(10, .int 6), (9, .int (nB b9)), (8, .int (nB b8)), (7, .int x7), (6, .int (nB b6)), (5, .int (nB b5)), (3, .int x3), (2, .int x2), (1, .int x1), (4, .int (nB b4)), (0, .ref 50)] [.int (nB (xT μ 24))] _
        refine zq_if hc hH (by rfl) (tg := 510) (by rfl) (fun h6 => ?_) (fun h6 => ?_)
        · have h6 : (xT μ 24) = false := nB_z.mp (cm_eq9.mp h6)
          exact zJ hJ2 rfl rfl (by simp only [h4, h5, h6, lb_f, Int64.or_zero, nB_t, nB_f, Bool.not_true, Bool.not_false, Bool.and_true, Bool.true_and, Bool.false_and, Bool.and_false, Bool.or_true, Bool.true_or, Bool.false_or, Bool.or_false, cond_true, cond_false])
        · have h6 : (xT μ 24) = true := nB_n.mp (cn_eq.mp h6)
          refine z_rcs0 hc hH 4 (pc' := 503) (lv' := [(10, .int 6), (9, .int (nB b9)), (8, .int (nB b8)), (7, .int x7), (6, .int (nB b6)), (5, .int (nB b5)), (3, .int x3), (2, .int x2), (1, .int x1), (4, .int (nB b4)), (0, .ref 50)]) (st' := [.int 22, .long (p ||| (lb ((xR μ 6) && ((xR μ 15) && (xR μ 24))) 17)), .ref 50]) (by rfl) ?_
          refine zq_call hc (z_cx_ok hH (by rfl)) (fb_X7_bit d' (by omega) (mGP μ g (p ||| (lb ((xR μ 6) && ((xR μ 15) && (xR μ 24))) 17)) f) 22) (by decide +kernel) (fun r9 μ9 hq => ?_)
          obtain ⟨hμ9, rfl⟩ := hq
          rw [hμ9]
          clear hμ9 μ9
          show Z 0 506 [(10, .int 6), (9, .int (nB b9)), (8, .int (nB b8)), (7, .int x7), (6, .int (nB b6)), (5, .int (nB b5)), (3, .int x3), (2, .int x2), (1, .int x1), (4, .int (nB b4)), (0, .ref 50)] [.long (lb true 22), .long (p ||| (lb ((xR μ 6) && ((xR μ 15) && (xR μ 24))) 17)), .ref 50] _
          refine z_rcs hc hH 2 (pc' := 510) (lv' := [(10, .int 6), (9, .int (nB b9)), (8, .int (nB b8)), (7, .int x7), (6, .int (nB b6)), (5, .int (nB b5)), (3, .int x3), (2, .int x2), (1, .int x1), (4, .int (nB b4)), (0, .ref 50)]) (st' := []) (μ' := z_uj (mGP μ g (p ||| (lb ((xR μ 6) && ((xR μ 15) && (xR μ 24))) 17)) f) 50 25 ((p ||| (lb ((xR μ 6) && ((xR μ 15) && (xR μ 24))) 17)) ||| (lb true 22))) (by rfl) ?_
          rw [mGP_p]
          exact zJ hJ2 rfl rfl (by simp only [h4, h5, h6, lb_f, Int64.or_zero, nB_t, nB_f, Bool.not_true, Bool.not_false, Bool.and_true, Bool.true_and, Bool.false_and, Bool.and_false, Bool.or_true, Bool.true_or, Bool.false_or, Bool.or_false, cond_true, cond_false])
  refine zq_if hc hH (by rfl) (tg := 463) (by rfl) (fun h7 => ?_) (fun h7 => ?_)
  · have h7 : (xR μ 6) = false := nB_z.mp (cm_eq9.mp h7)
    exact zJ hJ1 rfl rfl (by simp only [h7, lb_f, Int64.or_zero, nB_t, nB_f, Bool.not_true, Bool.not_false, Bool.and_true, Bool.true_and, Bool.false_and, Bool.and_false, Bool.or_true, Bool.true_or, Bool.false_or, Bool.or_false, cond_true, cond_false])
  · have h7 : (xR μ 6) = true := nB_n.mp (cn_eq.mp h7)
    refine z_rcs hc hH 4 (pc' := 431) (lv' := [(10, .int 6), (9, .int (nB b9)), (8, .int (nB b8)), (7, .int x7), (6, .int (nB b6)), (5, .int (nB b5)), (3, .int x3), (2, .int x2), (1, .int x1), (4, .int (nB b4)), (0, .ref 50)]) (st' := [.int 15, .ref 50]) (μ' := mGP μ g p f) (by rfl) ?_
    refine zq_call hc (z_cx_ok hH (by rfl)) (fb_X7_hasRun d' (by omega) (mGP μ g p f) 15) (by decide +kernel) (fun r9 μ9 hq => ?_)
    obtain ⟨hμ9, rfl⟩ := hq
    rw [hμ9]
    clear hμ9 μ9
    show Z 0 434 [(10, .int 6), (9, .int (nB b9)), (8, .int (nB b8)), (7, .int x7), (6, .int (nB b6)), (5, .int (nB b5)), (3, .int x3), (2, .int x2), (1, .int x1), (4, .int (nB b4)), (0, .ref 50)] [.int (nB (xR μ 15))] (mGP μ g p f)
    refine zq_if hc hH (by rfl) (tg := 463) (by rfl) (fun h8 => ?_) (fun h8 => ?_)
    · have h8 : (xR μ 15) = false := nB_z.mp (cm_eq9.mp h8)
      exact zJ hJ1 rfl rfl (by simp only [h7, h8, lb_f, Int64.or_zero, nB_t, nB_f, Bool.not_true, Bool.not_false, Bool.and_true, Bool.true_and, Bool.false_and, Bool.and_false, Bool.or_true, Bool.true_or, Bool.false_or, Bool.or_false, cond_true, cond_false])
    · have h8 : (xR μ 15) = true := nB_n.mp (cn_eq.mp h8)
      refine z_rcs hc hH 4 (pc' := 443) (lv' := [(10, .int 6), (9, .int (nB b9)), (8, .int (nB b8)), (7, .int x7), (6, .int (nB b6)), (5, .int (nB b5)), (3, .int x3), (2, .int x2), (1, .int x1), (4, .int (nB b4)), (0, .ref 50)]) (st' := [.int 24, .ref 50]) (μ' := mGP μ g p f) (by rfl) ?_
      refine zq_call hc (z_cx_ok hH (by rfl)) (fb_X7_hasRun d' (by omega) (mGP μ g p f) 24) (by decide +kernel) (fun r9 μ9 hq => ?_)
      obtain ⟨hμ9, rfl⟩ := hq
      rw [hμ9]
      clear hμ9 μ9
      show Z 0 446 [(10, .int 6), (9, .int (nB b9)), (8, .int (nB b8)), (7, .int x7), (6, .int (nB b6)), (5, .int (nB b5)), (3, .int x3), (2, .int x2), (1, .int x1), (4, .int (nB b4)), (0, .ref 50)] [.int (nB (xR μ 24))] (mGP μ g p f)
      refine zq_if hc hH (by rfl) (tg := 463) (by rfl) (fun h9 => ?_) (fun h9 => ?_)
      · have h9 : (xR μ 24) = false := nB_z.mp (cm_eq9.mp h9)
        exact zJ hJ1 rfl rfl (by simp only [h7, h8, h9, lb_f, Int64.or_zero, nB_t, nB_f, Bool.not_true, Bool.not_false, Bool.and_true, Bool.true_and, Bool.false_and, Bool.and_false, Bool.or_true, Bool.true_or, Bool.false_or, Bool.or_false, cond_true, cond_false])
      · have h9 : (xR μ 24) = true := nB_n.mp (cn_eq.mp h9)
        refine z_rcs hc hH 4 (pc' := 456) (lv' := [(10, .int 6), (9, .int (nB b9)), (8, .int (nB b8)), (7, .int x7), (6, .int (nB b6)), (5, .int (nB b5)), (3, .int x3), (2, .int x2), (1, .int x1), (4, .int (nB b4)), (0, .ref 50)]) (st' := [.int 17, .long p, .ref 50]) (μ' := mGP μ g p f) (by rfl) ?_
        refine zq_call hc (z_cx_ok hH (by rfl)) (fb_X7_bit d' (by omega) (mGP μ g p f) 17) (by decide +kernel) (fun r9 μ9 hq => ?_)
        obtain ⟨hμ9, rfl⟩ := hq
        rw [hμ9]
        clear hμ9 μ9
        show Z 0 459 [(10, .int 6), (9, .int (nB b9)), (8, .int (nB b8)), (7, .int x7), (6, .int (nB b6)), (5, .int (nB b5)), (3, .int x3), (2, .int x2), (1, .int x1), (4, .int (nB b4)), (0, .ref 50)] [.long (lb true 17), .long p, .ref 50] (mGP μ g p f)
        refine z_rcs hc hH 2 (pc' := 463) (lv' := [(10, .int 6), (9, .int (nB b9)), (8, .int (nB b8)), (7, .int x7), (6, .int (nB b6)), (5, .int (nB b5)), (3, .int x3), (2, .int x2), (1, .int x1), (4, .int (nB b4)), (0, .ref 50)]) (st' := []) (μ' := z_uj (mGP μ g p f) 50 25 (p ||| (lb true 17))) (by rfl) ?_
        rw [mGP_p]
        exact zJ hJ1 rfl rfl (by simp only [h7, h8, h9, lb_f, Int64.or_zero, nB_t, nB_f, Bool.not_true, Bool.not_false, Bool.and_true, Bool.true_and, Bool.false_and, Bool.and_false, Bool.or_true, Bool.true_or, Bool.false_or, Bool.or_false, cond_true, cond_false])
theorem fs402_7 (d' : Nat) (Z : zK) (hd : 4 ≤ d') (μ : zM) (q : Nat) (hq : q ≤ 4) (e4 : μ.1 50 4 = nI q) (s l : Nat → Nat) (hA : AY μ s l) (hco : vp_in (μ.1 50 22) 5) (hc : z_clo z_x0 mi_X7_firstSort (z_C d') Z) (b9 : Bool) (b8 : Bool) (x7 : Int32) (b6 : Bool) (b5 : Bool) (x3 : Int32) (x2 : Int32) (x1 : Int32) (b4 : Bool) (g p : Int64) (f : Int32) (K : Z 0 402 [(10, .int 8), (9, .int (nB b9)), (8, .int (nB b8)), (7, .int x7), (6, .int (nB b6)), (5, .int (nB b5)), (3, .int x3), (2, .int x2), (1, .int x1), (4, .int (nB b4)), (0, .ref 50)] [] (mGP μ g (p ||| (lb ((xT μ 7) && ((xT μ 16) && (xT μ 25))) 22)) f)) : Z 0 402 [(10, .int 7), (9, .int (nB b9)), (8, .int (nB b8)), (7, .int x7), (6, .int (nB b6)), (5, .int (nB b5)), (3, .int x3), (2, .int x2), (1, .int x1), (4, .int (nB b4)), (0, .ref 50)] [] (mGP μ g p f) := by
  have hH : zH mi_X7_firstSort zt_X7_firstSort 79 7 14 := hh_X7_firstSort
  refine z_rcs hc hH 8 (pc' := 466) (lv' := [(10, .int 7), (9, .int (nB b9)), (8, .int (nB b8)), (7, .int x7), (6, .int (nB b6)), (5, .int (nB b5)), (3, .int x3), (2, .int x2), (1, .int x1), (4, .int (nB b4)), (0, .ref 50)]) (st' := [.int 7, .ref 50]) (μ' := mGP μ g p f) (by rfl) ?_
  refine zq_call hc (z_cx_ok hH (by rfl)) (fb_X7_hasThree d' (by omega) (mGP μ g p f) 7) (by decide +kernel) (fun r9 μ9 hq => ?_)
  obtain ⟨hμ9, rfl⟩ := hq
  rw [hμ9]
  clear hμ9 μ9
  show Z 0 469 [(10, .int 7), (9, .int (nB b9)), (8, .int (nB b8)), (7, .int x7), (6, .int (nB b6)), (5, .int (nB b5)), (3, .int x3), (2, .int x2), (1, .int x1), (4, .int (nB b4)), (0, .ref 50)] [.int (nB (xT μ 7))] (mGP μ g p f)
  have hJ1 : Z 0 510 [(10, .int 7), (9, .int (nB b9)), (8, .int (nB b8)), (7, .int x7), (6, .int (nB b6)), (5, .int (nB b5)), (3, .int x3), (2, .int x2), (1, .int x1), (4, .int (nB b4)), (0, .ref 50)] [] (mGP μ g (p ||| (lb ((xT μ 7) && ((xT μ 16) && (xT μ 25))) 22)) f) := by
    refine z_rcs0 hc hH 2 (pc' := 402) (lv' := [(10, .int 8), (9, .int (nB b9)), (8, .int (nB b8)), (7, .int x7), (6, .int (nB b6)), (5, .int (nB b5)), (3, .int x3), (2, .int x2), (1, .int x1), (4, .int (nB b4)), (0, .ref 50)]) (st' := []) (by rfl) ?_
    exact K
  refine zq_if hc hH (by rfl) (tg := 510) (by rfl) (fun h2 => ?_) (fun h2 => ?_)
  · have h2 : (xT μ 7) = false := nB_z.mp (cm_eq9.mp h2)
    exact zJ hJ1 rfl rfl (by simp only [h2, lb_f, Int64.or_zero, nB_t, nB_f, Bool.not_true, Bool.not_false, Bool.and_true, Bool.true_and, Bool.false_and, Bool.and_false, Bool.or_true, Bool.true_or, Bool.false_or, Bool.or_false, cond_true, cond_false])
  · have h2 : (xT μ 7) = true := nB_n.mp (cn_eq.mp h2)
    refine z_rcs hc hH 4 (pc' := 478) (lv' := [(10, .int 7), (9, .int (nB b9)), (8, .int (nB b8)), (7, .int x7), (6, .int (nB b6)), (5, .int (nB b5)), (3, .int x3), (2, .int x2), (1, .int x1), (4, .int (nB b4)), (0, .ref 50)]) (st' := [.int 16, .ref 50]) (μ' := mGP μ g p f) (by rfl) ?_
    refine zq_call hc (z_cx_ok hH (by rfl)) (fb_X7_hasThree d' (by omega) (mGP μ g p f) 16) (by decide +kernel) (fun r9 μ9 hq => ?_)
    obtain ⟨hμ9, rfl⟩ := hq
    rw [hμ9]
    clear hμ9 μ9
    show Z 0 481 [(10, .int 7), (9, .int (nB b9)), (8, .int (nB b8)), (7, .int x7), (6, .int (nB b6)), (5, .int (nB b5)), (3, .int x3), (2, .int x2), (1, .int x1), (4, .int (nB b4)), (0, .ref 50)] [.int (nB (xT μ 16))] (mGP μ g p f)
    refine zq_if hc hH (by rfl) (tg := 510) (by rfl) (fun h3 => ?_) (fun h3 => ?_)
    · have h3 : (xT μ 16) = false := nB_z.mp (cm_eq9.mp h3)
      exact zJ hJ1 rfl rfl (by simp only [h2, h3, lb_f, Int64.or_zero, nB_t, nB_f, Bool.not_true, Bool.not_false, Bool.and_true, Bool.true_and, Bool.false_and, Bool.and_false, Bool.or_true, Bool.true_or, Bool.false_or, Bool.or_false, cond_true, cond_false])
    · have h3 : (xT μ 16) = true := nB_n.mp (cn_eq.mp h3)
      refine z_rcs hc hH 4 (pc' := 490) (lv' := [(10, .int 7), (9, .int (nB b9)), (8, .int (nB b8)), (7, .int x7), (6, .int (nB b6)), (5, .int (nB b5)), (3, .int x3), (2, .int x2), (1, .int x1), (4, .int (nB b4)), (0, .ref 50)]) (st' := [.int 25, .ref 50]) (μ' := mGP μ g p f) (by rfl) ?_
      refine zq_call hc (z_cx_ok hH (by rfl)) (fb_X7_hasThree d' (by omega) (mGP μ g p f) 25) (by decide +kernel) (fun r9 μ9 hq => ?_)
      obtain ⟨hμ9, rfl⟩ := hq
      rw [hμ9]
      clear hμ9 μ9
      show Z 0 493 [(10, .int 7), (9, .int (nB b9)), (8, .int (nB b8)), (7, .int x7), (6, .int (nB b6)), (5, .int (nB b5)), (3, .int x3), (2, .int x2), (1, .int x1), (4, .int (nB b4)), (0, .ref 50)] [.int (nB (xT μ 25))] (mGP μ g p f)
      refine zq_if hc hH (by rfl) (tg := 510) (by rfl) (fun h4 => ?_) (fun h4 => ?_)
      · have h4 : (xT μ 25) = false := nB_z.mp (cm_eq9.mp h4)
        exact zJ hJ1 rfl rfl (by simp only [h2, h3, h4, lb_f, Int64.or_zero, nB_t, nB_f, Bool.not_true, Bool.not_false, Bool.and_true, Bool.true_and, Bool.false_and, Bool.and_false, Bool.or_true, Bool.true_or, Bool.false_or, Bool.or_false, cond_true, cond_false])
      · have h4 : (xT μ 25) = true := nB_n.mp (cn_eq.mp h4)
        refine z_rcs hc hH 4 (pc' := 503) (lv' := [(10, .int 7), (9, .int (nB b9)), (8, .int (nB b8)), (7, .int x7), (6, .int (nB b6)), (5, .int (nB b5)), (3, .int x3), (2, .int x2), (1, .int x1), (4, .int (nB b4)), (0, .ref 50)]) (st' := [.int 22, .long p, .ref 50]) (μ' := mGP μ g p f) (by rfl) ?_
        refine zq_call hc (z_cx_ok hH (by rfl)) (fb_X7_bit d' (by omega) (mGP μ g p f) 22) (by decide +kernel) (fun r9 μ9 hq => ?_)
        obtain ⟨hμ9, rfl⟩ := hq
        rw [hμ9]
        clear hμ9 μ9
        show Z 0 506 [(10, .int 7), (9, .int (nB b9)), (8, .int (nB b8)), (7, .int x7), (6, .int (nB b6)), (5, .int (nB b5)), (3, .int x3), (2, .int x2), (1, .int x1), (4, .int (nB b4)), (0, .ref 50)] [.long (lb true 22), .long p, .ref 50] (mGP μ g p f)
        refine z_rcs hc hH 2 (pc' := 510) (lv' := [(10, .int 7), (9, .int (nB b9)), (8, .int (nB b8)), (7, .int x7), (6, .int (nB b6)), (5, .int (nB b5)), (3, .int x3), (2, .int x2), (1, .int x1), (4, .int (nB b4)), (0, .ref 50)]) (st' := []) (μ' := z_uj (mGP μ g p f) 50 25 (p ||| (lb true 22))) (by rfl) ?_
        rw [mGP_p]
        exact zJ hJ1 rfl rfl (by simp only [h2, h3, h4, lb_f, Int64.or_zero, nB_t, nB_f, Bool.not_true, Bool.not_false, Bool.and_true, Bool.true_and, Bool.false_and, Bool.and_false, Bool.or_true, Bool.true_or, Bool.false_or, Bool.or_false, cond_true, cond_false])
theorem fs402_8 (d' : Nat) (Z : zK) (hd : 4 ≤ d') (μ : zM) (q : Nat) (hq : q ≤ 4) (e4 : μ.1 50 4 = nI q) (s l : Nat → Nat) (hA : AY μ s l) (hco : vp_in (μ.1 50 22) 5) (hc : z_clo z_x0 mi_X7_firstSort (z_C d') Z) (b9 : Bool) (b8 : Bool) (x7 : Int32) (b6 : Bool) (b5 : Bool) (x3 : Int32) (x2 : Int32) (x1 : Int32) (b4 : Bool) (g p : Int64) (f : Int32) (K : Z 0 402 [(10, .int 9), (9, .int (nB b9)), (8, .int (nB b8)), (7, .int x7), (6, .int (nB b6)), (5, .int (nB b5)), (3, .int x3), (2, .int x2), (1, .int x1), (4, .int (nB b4)), (0, .ref 50)] [] (mGP μ g (p ||| (lb ((xT μ 8) && ((xT μ 17) && (xT μ 26))) 22)) f)) : Z 0 402 [(10, .int 8), (9, .int (nB b9)), (8, .int (nB b8)), (7, .int x7), (6, .int (nB b6)), (5, .int (nB b5)), (3, .int x3), (2, .int x2), (1, .int x1), (4, .int (nB b4)), (0, .ref 50)] [] (mGP μ g p f) := by
  have hH : zH mi_X7_firstSort zt_X7_firstSort 79 7 14 := hh_X7_firstSort
  refine z_rcs hc hH 8 (pc' := 466) (lv' := [(10, .int 8), (9, .int (nB b9)), (8, .int (nB b8)), (7, .int x7), (6, .int (nB b6)), (5, .int (nB b5)), (3, .int x3), (2, .int x2), (1, .int x1), (4, .int (nB b4)), (0, .ref 50)]) (st' := [.int 8, .ref 50]) (μ' := mGP μ g p f) (by rfl) ?_
  refine zq_call hc (z_cx_ok hH (by rfl)) (fb_X7_hasThree d' (by omega) (mGP μ g p f) 8) (by decide +kernel) (fun r9 μ9 hq => ?_)
  obtain ⟨hμ9, rfl⟩ := hq
  rw [hμ9]
  clear hμ9 μ9
  show Z 0 469 [(10, .int 8), (9, .int (nB b9)), (8, .int (nB b8)), (7, .int x7), (6, .int (nB b6)), (5, .int (nB b5)), (3, .int x3), (2, .int x2), (1, .int x1), (4, .int (nB b4)), (0, .ref 50)] [.int (nB (xT μ 8))] (mGP μ g p f)
  have hJ1 : Z 0 510 [(10, .int 8), (9, .int (nB b9)), (8, .int (nB b8)), (7, .int x7), (6, .int (nB b6)), (5, .int (nB b5)), (3, .int x3), (2, .int x2), (1, .int x1), (4, .int (nB b4)), (0, .ref 50)] [] (mGP μ g (p ||| (lb ((xT μ 8) && ((xT μ 17) && (xT μ 26))) 22)) f) := by
    refine z_rcs0 hc hH 2 (pc' := 402) (lv' := [(10, .int 9), (9, .int (nB b9)), (8, .int (nB b8)), (7, .int x7), (6, .int (nB b6)), (5, .int (nB b5)), (3, .int x3), (2, .int x2), (1, .int x1), (4, .int (nB b4)), (0, .ref 50)]) (st' := []) (by rfl) ?_
    exact K
  refine zq_if hc hH (by rfl) (tg := 510) (by rfl) (fun h2 => ?_) (fun h2 => ?_)
  · have h2 : (xT μ 8) = false := nB_z.mp (cm_eq9.mp h2)
    exact zJ hJ1 rfl rfl (by simp only [h2, lb_f, Int64.or_zero, nB_t, nB_f, Bool.not_true, Bool.not_false, Bool.and_true, Bool.true_and, Bool.false_and, Bool.and_false, Bool.or_true, Bool.true_or, Bool.false_or, Bool.or_false, cond_true, cond_false])
  · have h2 : (xT μ 8) = true := nB_n.mp (cn_eq.mp h2)
    refine z_rcs hc hH 4 (pc' := 478) (lv' := [(10, .int 8), (9, .int (nB b9)), (8, .int (nB b8)), (7, .int x7), (6, .int (nB b6)), (5, .int (nB b5)), (3, .int x3), (2, .int x2), (1, .int x1), (4, .int (nB b4)), (0, .ref 50)]) (st' := [.int 17, .ref 50]) (μ' := mGP μ g p f) (by rfl) ?_
    refine zq_call hc (z_cx_ok hH (by rfl)) (fb_X7_hasThree d' (by omega) (mGP μ g p f) 17) (by decide +kernel) (fun r9 μ9 hq => ?_)
    obtain ⟨hμ9, rfl⟩ := hq
    rw [hμ9]
    clear hμ9 μ9
    show Z 0 481 [(10, .int 8), (9, .int (nB b9)), (8, .int (nB b8)), (7, .int x7), (6, .int (nB b6)), (5, .int (nB b5)), (3, .int x3), (2, .int x2), (1, .int x1), (4, .int (nB b4)), (0, .ref 50)] [.int (nB (xT μ 17))] (mGP μ g p f)
    refine zq_if hc hH (by rfl) (tg := 510) (by rfl) (fun h3 => ?_) (fun h3 => ?_)
    · have h3 : (xT μ 17) = false := nB_z.mp (cm_eq9.mp h3)
      exact zJ hJ1 rfl rfl (by simp only [h2, h3, lb_f, Int64.or_zero, nB_t, nB_f, Bool.not_true, Bool.not_false, Bool.and_true, Bool.true_and, Bool.false_and, Bool.and_false, Bool.or_true, Bool.true_or, Bool.false_or, Bool.or_false, cond_true, cond_false])
    · have h3 : (xT μ 17) = true := nB_n.mp (cn_eq.mp h3)
      refine z_rcs hc hH 4 (pc' := 490) (lv' := [(10, .int 8), (9, .int (nB b9)), (8, .int (nB b8)), (7, .int x7), (6, .int (nB b6)), (5, .int (nB b5)), (3, .int x3), (2, .int x2), (1, .int x1), (4, .int (nB b4)), (0, .ref 50)]) (st' := [.int 26, .ref 50]) (μ' := mGP μ g p f) (by rfl) ?_
      refine zq_call hc (z_cx_ok hH (by rfl)) (fb_X7_hasThree d' (by omega) (mGP μ g p f) 26) (by decide +kernel) (fun r9 μ9 hq => ?_)
      obtain ⟨hμ9, rfl⟩ := hq
      rw [hμ9]
      clear hμ9 μ9
      show Z 0 493 [(10, .int 8), (9, .int (nB b9)), (8, .int (nB b8)), (7, .int x7), (6, .int (nB b6)), (5, .int (nB b5)), (3, .int x3), (2, .int x2), (1, .int x1), (4, .int (nB b4)), (0, .ref 50)] [.int (nB (xT μ 26))] (mGP μ g p f)
      refine zq_if hc hH (by rfl) (tg := 510) (by rfl) (fun h4 => ?_) (fun h4 => ?_)
      · have h4 : (xT μ 26) = false := nB_z.mp (cm_eq9.mp h4)
        exact zJ hJ1 rfl rfl (by simp only [h2, h3, h4, lb_f, Int64.or_zero, nB_t, nB_f, Bool.not_true, Bool.not_false, Bool.and_true, Bool.true_and, Bool.false_and, Bool.and_false, Bool.or_true, Bool.true_or, Bool.false_or, Bool.or_false, cond_true, cond_false])
      · have h4 : (xT μ 26) = true := nB_n.mp (cn_eq.mp h4)
        refine z_rcs hc hH 4 (pc' := 503) (lv' := [(10, .int 8), (9, .int (nB b9)), (8, .int (nB b8)), (7, .int x7), (6, .int (nB b6)), (5, .int (nB b5)), (3, .int x3), (2, .int x2), (1, .int x1), (4, .int (nB b4)), (0, .ref 50)]) (st' := [.int 22, .long p, .ref 50]) (μ' := mGP μ g p f) (by rfl) ?_
        refine zq_call hc (z_cx_ok hH (by rfl)) (fb_X7_bit d' (by omega) (mGP μ g p f) 22) (by decide +kernel) (fun r9 μ9 hq => ?_)
        obtain ⟨hμ9, rfl⟩ := hq
        rw [hμ9]
        clear hμ9 μ9
        show Z 0 506 [(10, .int 8), (9, .int (nB b9)), (8, .int (nB b8)), (7, .int x7), (6, .int (nB b6)), (5, .int (nB b5)), (3, .int x3), (2, .int x2), (1, .int x1), (4, .int (nB b4)), (0, .ref 50)] [.long (lb true 22), .long p, .ref 50] (mGP μ g p f)
        refine z_rcs hc hH 2 (pc' := 510) (lv' := [(10, .int 8), (9, .int (nB b9)), (8, .int (nB b8)), (7, .int x7), (6, .int (nB b6)), (5, .int (nB b5)), (3, .int x3), (2, .int x2), (1, .int x1), (4, .int (nB b4)), (0, .ref 50)]) (st' := []) (μ' := z_uj (mGP μ g p f) 50 25 (p ||| (lb true 22))) (by rfl) ?_
        rw [mGP_p]
        exact zJ hJ1 rfl rfl (by simp only [h2, h3, h4, lb_f, Int64.or_zero, nB_t, nB_f, Bool.not_true, Bool.not_false, Bool.and_true, Bool.true_and, Bool.false_and, Bool.and_false, Bool.or_true, Bool.true_or, Bool.false_or, Bool.or_false, cond_true, cond_false])
theorem fs402_9 (d' : Nat) (Z : zK) (hd : 4 ≤ d') (μ : zM) (q : Nat) (hq : q ≤ 4) (e4 : μ.1 50 4 = nI q) (s l : Nat → Nat) (hA : AY μ s l) (hco : vp_in (μ.1 50 22) 5) (hc : z_clo z_x0 mi_X7_firstSort (z_C d') Z) (b9 : Bool) (b8 : Bool) (x7 : Int32) (b6 : Bool) (b5 : Bool) (x3 : Int32) (x2 : Int32) (x1 : Int32) (b4 : Bool) (g p : Int64) (f : Int32) (K : Z 0 519 [(10, .int 0), (9, .int (nB b9)), (8, .int (nB b8)), (7, .int x7), (6, .int (nB b6)), (5, .int (nB b5)), (3, .int x3), (2, .int x2), (1, .int x1), (4, .int (nB b4)), (0, .ref 50)] [] (mGP μ g p f)) : Z 0 402 [(10, .int 9), (9, .int (nB b9)), (8, .int (nB b8)), (7, .int x7), (6, .int (nB b6)), (5, .int (nB b5)), (3, .int x3), (2, .int x2), (1, .int x1), (4, .int (nB b4)), (0, .ref 50)] [] (mGP μ g p f) := by
  have hH : zH mi_X7_firstSort zt_X7_firstSort 79 7 14 := hh_X7_firstSort
  refine z_rcs hc hH 5 (pc' := 519) (lv' := [(10, .int 0), (9, .int (nB b9)), (8, .int (nB b8)), (7, .int x7), (6, .int (nB b6)), (5, .int (nB b5)), (3, .int x3), (2, .int x2), (1, .int x1), (4, .int (nB b4)), (0, .ref 50)]) (st' := []) (μ' := mGP μ g p f) (by rfl) ?_
  exact K
theorem fs519 (d' : Nat) (Z : zK) (hd : 4 ≤ d') (μ : zM) (q : Nat) (hq : q ≤ 4) (e4 : μ.1 50 4 = nI q) (s l : Nat → Nat) (hA : AY μ s l) (hco : vp_in (μ.1 50 22) 5) (hc : z_clo z_x0 mi_X7_firstSort (z_C d') Z) (b9 : Bool) (b8 : Bool) (x7 : Int32) (b6 : Bool) (b5 : Bool) (x3 : Int32) (x2 : Int32) (x1 : Int32) (b4 : Bool) (g p : Int64) (f : Int32) (K : Z 0 639 [(10, .int 27), (9, .int (nB b9)), (8, .int (nB b8)), (7, .int x7), (6, .int (nB b6)), (5, .int (nB b5)), (3, .int x3), (2, .int x2), (1, .int x1), (4, .int (nB b4)), (0, .ref 50)] [] (mGP μ g ((((((((p ||| (lb ((xR μ 0) && ((xR μ 3) && (xR μ 6))) 18)) ||| (lb ((xR μ 9) && ((xR μ 12) && (xR μ 15))) 18)) ||| (lb ((xR μ 18) && ((xR μ 21) && (xR μ 24))) 18)) ||| (lb (decide (x1 = 0)) 19)) ||| (lb (decide (x2 = 3)) 20)) ||| (lb (decide (x3 = 3)) 21)) ||| (lb (xE1 μ x1) 23)) ||| (lb (xE2 μ x1) 27)) f)) : Z 0 519 [(10, .int 0), (9, .int (nB b9)), (8, .int (nB b8)), (7, .int x7), (6, .int (nB b6)), (5, .int (nB b5)), (3, .int x3), (2, .int x2), (1, .int x1), (4, .int (nB b4)), (0, .ref 50)] [] (mGP μ g p f) := by
  have hH : zH mi_X7_firstSort zt_X7_firstSort 79 7 14 := hh_X7_firstSort
  refine z_rcs hc hH 5 (pc' := 529) (lv' := [(10, .int 0), (9, .int (nB b9)), (8, .int (nB b8)), (7, .int x7), (6, .int (nB b6)), (5, .int (nB b5)), (3, .int x3), (2, .int x2), (1, .int x1), (4, .int (nB b4)), (0, .ref 50)]) (st' := [.int 0, .ref 50]) (μ' := mGP μ g p f) (by rfl) ?_
  refine zq_call hc (z_cx_ok hH (by rfl)) (fb_X7_hasRun d' (by omega) (mGP μ g p f) 0) (by decide +kernel) (fun r9 μ9 hq => ?_)
  obtain ⟨hμ9, rfl⟩ := hq
  rw [hμ9]
  clear hμ9 μ9
  show Z 0 532 [(10, .int 0), (9, .int (nB b9)), (8, .int (nB b8)), (7, .int x7), (6, .int (nB b6)), (5, .int (nB b5)), (3, .int x3), (2, .int x2), (1, .int x1), (4, .int (nB b4)), (0, .ref 50)] [.int (nB (xR μ 0))] (mGP μ g p f)
  have hJ1 : Z 0 572 [(10, .int 0), (9, .int (nB b9)), (8, .int (nB b8)), (7, .int x7), (6, .int (nB b6)), (5, .int (nB b5)), (3, .int x3), (2, .int x2), (1, .int x1), (4, .int (nB b4)), (0, .ref 50)] [] (mGP μ g (p ||| (lb ((xR μ 0) && ((xR μ 3) && (xR μ 6))) 18)) f) := by
    refine z_rcs0 hc hH 7 (pc' := 529) (lv' := [(10, .int 9), (9, .int (nB b9)), (8, .int (nB b8)), (7, .int x7), (6, .int (nB b6)), (5, .int (nB b5)), (3, .int x3), (2, .int x2), (1, .int x1), (4, .int (nB b4)), (0, .ref 50)]) (st' := [.int 9, .ref 50]) (by rfl) ?_
    refine zq_call hc (z_cx_ok hH (by rfl)) (fb_X7_hasRun d' (by omega) (mGP μ g (p ||| (lb ((xR μ 0) && ((xR μ 3) && (xR μ 6))) 18)) f) 9) (by decide +kernel) (fun r9 μ9 hq => ?_)
    obtain ⟨hμ9, rfl⟩ := hq
    rw [hμ9]
    clear hμ9 μ9
    show Z 0 532 [(10, .int 9), (9, .int (nB b9)), (8, .int (nB b8)), (7, .int x7), (6, .int (nB b6)), (5, .int (nB b5)), (3, .int x3), (2, .int x2), (1, .int x1), (4, .int (nB b4)), (0, .ref 50)] [.int (nB (xR μ 9))] _
    have hJ2 : Z 0 572 [(10, .int 9), (9, .int (nB b9)), (8, .int (nB b8)), (7, .int x7), (6, .int (nB b6)), (5, .int (nB b5)), (3, .int x3), (2, .int x2), (1, .int x1), (4, .int (nB b4)), (0, .ref 50)] [] (mGP μ g ((p ||| (lb ((xR μ 0) && ((xR μ 3) && (xR μ 6))) 18)) ||| (lb ((xR μ 9) && ((xR μ 12) && (xR μ 15))) 18)) f) := by
      generalize hyy3 : ((p ||| (lb ((xR μ 0) && ((xR μ 3) && (xR μ 6))) 18)) ||| (lb ((xR μ 9) && ((xR μ 12) && (xR μ 15))) 18) : Int64) = yy3
      refine z_rcs hc hH 7 (pc' := 529) (lv' := [(10, .int 18), (9, .int (nB b9)), (8, .int (nB b8)), (7, .int x7), (6, .int (nB b6)), (5, .int (nB b5)), (3, .int x3), (2, .int x2), (1, .int x1), (4, .int (nB b4)), (0, .ref 50)]) (st' := [.int 18, .ref 50]) (μ' := mGP μ g yy3 f) (by rfl) ?_
      refine zq_call hc (z_cx_ok hH (by rfl)) (fb_X7_hasRun d' (by omega) (mGP μ g yy3 f) 18) (by decide +kernel) (fun r9 μ9 hq => ?_)
      obtain ⟨hμ9, rfl⟩ := hq
      rw [hμ9]
      clear hμ9 μ9
      show Z 0 532 [(10, .int 18), (9, .int (nB b9)), (8, .int (nB b8)), (7, .int x7), (6, .int (nB b6)), (5, .int (nB b5)), (3, .int x3), (2, .int x2), (1, .int x1), (4, .int (nB b4)), (0, .ref 50)] [.int (nB (xR μ 18))] (mGP μ g yy3 f)
      have hJ4 : Z 0 572 [(10, .int 18), (9, .int (nB b9)), (8, .int (nB b8)), (7, .int x7), (6, .int (nB b6)), (5, .int (nB b5)), (3, .int x3), (2, .int x2), (1, .int x1), (4, .int (nB b4)), (0, .ref 50)] [] (mGP μ g (yy3 ||| (lb ((xR μ 18) && ((xR μ 21) && (xR μ 24))) 18)) f) := by
        refine z_rcs0 hc hH 6 (pc' := 579) (lv' := [(10, .int 27), (9, .int (nB b9)), (8, .int (nB b8)), (7, .int x7), (6, .int (nB b6)), (5, .int (nB b5)), (3, .int x3), (2, .int x2), (1, .int x1), (4, .int (nB b4)), (0, .ref 50)]) (st' := [.int x1]) (by rfl) ?_
        have hJ5 : Z 0 596 [(10, .int 27), (9, .int (nB b9)), (8, .int (nB b8)), (7, .int x7), (6, .int (nB b6)), (5, .int (nB b5)), (3, .int x3), (2, .int x2), (1, .int x1), (4, .int (nB b4)), (0, .ref 50)] [] (mGP μ g ((yy3 ||| (lb ((xR μ 18) && ((xR μ 21) && (xR μ 24))) 18)) ||| (lb (decide (x1 = 0)) 19)) f) := by
          generalize hyy6 : ((yy3 ||| (lb ((xR μ 18) && ((xR μ 21) && (xR μ 24))) 18)) ||| (lb (decide (x1 = 0)) 19) : Int64) = yy6
          refine z_rcs hc hH 2 (pc' := 598) (lv' := [(10, .int 27), (9, .int (nB b9)), (8, .int (nB b8)), (7, .int x7), (6, .int (nB b6)), (5, .int (nB b5)), (3, .int x3), (2, .int x2), (1, .int x1), (4, .int (nB b4)), (0, .ref 50)]) (st' := [.int 3, .int x2]) (μ' := mGP μ g yy6 f) (by rfl) ?_
          have hJ7 : Z 0 615 [(10, .int 27), (9, .int (nB b9)), (8, .int (nB b8)), (7, .int x7), (6, .int (nB b6)), (5, .int (nB b5)), (3, .int x3), (2, .int x2), (1, .int x1), (4, .int (nB b4)), (0, .ref 50)] [] (mGP μ g (yy6 ||| (lb (decide (x2 = 3)) 20)) f) := by
            refine z_rcs0 hc hH 2 (pc' := 617) (lv' := [(10, .int 27), (9, .int (nB b9)), (8, .int (nB b8)), (7, .int x7), (6, .int (nB b6)), (5, .int (nB b5)), (3, .int x3), (2, .int x2), (1, .int x1), (4, .int (nB b4)), (0, .ref 50)]) (st' := [.int 3, .int x3]) (by rfl) ?_
            have hJ8 : Z 0 634 [(10, .int 27), (9, .int (nB b9)), (8, .int (nB b8)), (7, .int x7), (6, .int (nB b6)), (5, .int (nB b5)), (3, .int x3), (2, .int x2), (1, .int x1), (4, .int (nB b4)), (0, .ref 50)] [] (mGP μ g ((yy6 ||| (lb (decide (x2 = 3)) 20)) ||| (lb (decide (x3 = 3)) 21)) f) := by
              refine z_rcs0 hc hH 2 (pc' := 636) (lv' := [(10, .int 27), (9, .int (nB b9)), (8, .int (nB b8)), (7, .int x7), (6, .int (nB b6)), (5, .int (nB b5)), (3, .int x3), (2, .int x2), (1, .int x1), (4, .int (nB b4)), (0, .ref 50)]) (st' := [.int x1, .ref 50]) (by rfl) ?_
              refine zq_call hc (z_cx_ok hH (by rfl)) (fb_X7_edges d' (by omega) (mGP μ g ((yy6 ||| (lb (decide (x2 = 3)) 20)) ||| (lb (decide (x3 = 3)) 21)) f) x1) (by decide +kernel) (fun r9 μ9 hq => ?_)
              obtain ⟨rfl, rfl⟩ := hq
              rw [mGP2]
              show Z 0 639 [(10, .int 27), (9, .int (nB b9)), (8, .int (nB b8)), (7, .int x7), (6, .int (nB b6)), (5, .int (nB b5)), (3, .int x3), (2, .int x2), (1, .int x1), (4, .int (nB b4)), (0, .ref 50)] [] (mGP μ g ((((yy6 ||| (lb (decide (x2 = 3)) 20)) ||| (lb (decide (x3 = 3)) 21)) ||| (lb (xE1 μ x1) 23)) ||| (lb (xE2 μ x1) 27)) f)
              subst hyy6
              subst hyy3
              exact K
            refine zq_ic hc hH (by rfl) (tg := 634) (by rfl) (fun h9 => ?_) (fun h9 => ?_)
            · have h9 : (decide (x3 = 3)) = false := decide_eq_false (cm_ne.mp h9)
              exact zJ hJ8 rfl rfl (by simp only [h9, lb_f, Int64.or_zero, nB_t, nB_f, Bool.not_true, Bool.not_false, Bool.and_true, Bool.true_and, Bool.false_and, Bool.and_false, Bool.or_true, Bool.true_or, Bool.false_or, Bool.or_false, cond_true, cond_false])
            · have h9 : (decide (x3 = 3)) = true := decide_eq_true (cn_ne.mp h9)
              refine z_rcs hc hH 4 (pc' := 627) (lv' := [(10, .int 27), (9, .int (nB b9)), (8, .int (nB b8)), (7, .int x7), (6, .int (nB b6)), (5, .int (nB b5)), (3, .int x3), (2, .int x2), (1, .int x1), (4, .int (nB b4)), (0, .ref 50)]) (st' := [.int 21, .long (yy6 ||| (lb (decide (x2 = 3)) 20)), .ref 50]) (μ' := mGP μ g (yy6 ||| (lb (decide (x2 = 3)) 20)) f) (by rfl) ?_
              refine zq_call hc (z_cx_ok hH (by rfl)) (fb_X7_bit d' (by omega) (mGP μ g (yy6 ||| (lb (decide (x2 = 3)) 20)) f) 21) (by decide +kernel) (fun r9 μ9 hq => ?_)
              obtain ⟨hμ9, rfl⟩ := hq
              rw [hμ9]
              clear hμ9 μ9
              show Z 0 630 [(10, .int 27), (9, .int (nB b9)), (8, .int (nB b8)), (7, .int x7), (6, .int (nB b6)), (5, .int (nB b5)), (3, .int x3), (2, .int x2), (1, .int x1), (4, .int (nB b4)), (0, .ref 50)] [.long (lb true 21), .long (yy6 ||| (lb (decide (x2 = 3)) 20)), .ref 50] _
              refine z_rcs hc hH 2 (pc' := 634) (lv' := [(10, .int 27), (9, .int (nB b9)), (8, .int (nB b8)), (7, .int x7), (6, .int (nB b6)), (5, .int (nB b5)), (3, .int x3), (2, .int x2), (1, .int x1), (4, .int (nB b4)), (0, .ref 50)]) (st' := []) (μ' := z_uj (mGP μ g (yy6 ||| (lb (decide (x2 = 3)) 20)) f) 50 25 ((yy6 ||| (lb (decide (x2 = 3)) 20)) ||| (lb true 21))) (by rfl) ?_
              rw [mGP_p]
              exact zJ hJ8 rfl rfl (by simp only [h9, lb_f, Int64.or_zero, nB_t, nB_f, Bool.not_true, Bool.not_false, Bool.and_true, Bool.true_and, Bool.false_and, Bool.and_false, Bool.or_true, Bool.true_or, Bool.false_or, Bool.or_false, cond_true, cond_false])
          refine zq_ic hc hH (by rfl) (tg := 615) (by rfl) (fun h10 => ?_) (fun h10 => ?_)
          · have h10 : (decide (x2 = 3)) = false := decide_eq_false (cm_ne.mp h10)
            exact zJ hJ7 rfl rfl (by simp only [h10, lb_f, Int64.or_zero, nB_t, nB_f, Bool.not_true, Bool.not_false, Bool.and_true, Bool.true_and, Bool.false_and, Bool.and_false, Bool.or_true, Bool.true_or, Bool.false_or, Bool.or_false, cond_true, cond_false])
          · have h10 : (decide (x2 = 3)) = true := decide_eq_true (cn_ne.mp h10)
            refine z_rcs hc hH 4 (pc' := 608) (lv' := [(10, .int 27), (9, .int (nB b9)), (8, .int (nB b8)), (7, .int x7), (6, .int (nB b6)), (5, .int (nB b5)), (3, .int x3), (2, .int x2), (1, .int x1), (4, .int (nB b4)), (0, .ref 50)]) (st' := [.int 20, .long yy6, .ref 50]) (μ' := mGP μ g yy6 f) (by rfl) ?_
            refine zq_call hc (z_cx_ok hH (by rfl)) (fb_X7_bit d' (by omega) (mGP μ g yy6 f) 20) (by decide +kernel) (fun r9 μ9 hq => ?_)
            obtain ⟨hμ9, rfl⟩ := hq
            rw [hμ9]
            clear hμ9 μ9
            show Z 0 611 [(10, .int 27), (9, .int (nB b9)), (8, .int (nB b8)), (7, .int x7), (6, .int (nB b6)), (5, .int (nB b5)), (3, .int x3), (2, .int x2), (1, .int x1), (4, .int (nB b4)), (0, .ref 50)] [.long (lb true 20), .long yy6, .ref 50] (mGP μ g yy6 f)
            refine z_rcs hc hH 2 (pc' := 615) (lv' := [(10, .int 27), (9, .int (nB b9)), (8, .int (nB b8)), (7, .int x7), (6, .int (nB b6)), (5, .int (nB b5)), (3, .int x3), (2, .int x2), (1, .int x1), (4, .int (nB b4)), (0, .ref 50)]) (st' := []) (μ' := z_uj (mGP μ g yy6 f) 50 25 (yy6 ||| (lb true 20))) (by rfl) ?_
            rw [mGP_p]
            exact zJ hJ7 rfl rfl (by simp only [h10, lb_f, Int64.or_zero, nB_t, nB_f, Bool.not_true, Bool.not_false, Bool.and_true, Bool.true_and, Bool.false_and, Bool.and_false, Bool.or_true, Bool.true_or, Bool.false_or, Bool.or_false, cond_true, cond_false])
        refine zq_if hc hH (by rfl) (tg := 596) (by rfl) (fun h11 => ?_) (fun h11 => ?_)
        · have h11 : (decide (x1 = 0)) = false := decide_eq_false (cm_ne.mp h11)
          exact zJ hJ5 rfl rfl (by simp only [h11, lb_f, Int64.or_zero, nB_t, nB_f, Bool.not_true, Bool.not_false, Bool.and_true, Bool.true_and, Bool.false_and, Bool.and_false, Bool.or_true, Bool.true_or, Bool.false_or, Bool.or_false, cond_true, cond_false])
        · have h11 : (decide (x1 = 0)) = true := decide_eq_true (cn_ne.mp h11)
          refine z_rcs hc hH 4 (pc' := 589) (lv' := [(10, .int 27), (9, .int (nB b9)), (8, .int (nB b8)), (7, .int x7), (6, .int (nB b6)), (5, .int (nB b5)), (3, .int x3), (2, .int x2), (1, .int x1), (4, .int (nB b4)), (0, .ref 50)]) (st' := [.int 19, .long (yy3 ||| (lb ((xR μ 18) && ((xR μ 21) && (xR μ 24))) 18)), .ref 50]) (μ' := mGP μ g (yy3 ||| (lb ((xR μ 18) && ((xR μ 21) && (xR μ 24))) 18)) f) (by rfl) ?_
          refine zq_call hc (z_cx_ok hH (by rfl)) (fb_X7_bit d' (by omega) (mGP μ g (yy3 ||| (lb ((xR μ 18) && ((xR μ 21) && (xR μ 24))) 18)) f) 19) (by decide +kernel) (fun r9 μ9 hq => ?_)
          obtain ⟨hμ9, rfl⟩ := hq
          rw [hμ9]
          clear hμ9 μ9
          show Z 0 592 [(10, .int 27), (9, .int (nB b9)), (8, .int (nB b8)), (7, .int x7), (6, .int (nB b6)), (5, .int (nB b5)), (3, .int x3), (2, .int x2), (1, .int x1), (4, .int (nB b4)), (0, .ref 50)] [.long (lb true 19), .long (yy3 ||| (lb ((xR μ 18) && ((xR μ 21) && (xR μ 24))) 18)), .ref 50] _
          refine z_rcs hc hH 2 (pc' := 596) (lv' := [(10, .int 27), (9, .int (nB b9)), (8, .int (nB b8)), (7, .int x7), (6, .int (nB b6)), (5, .int (nB b5)), (3, .int x3), (2, .int x2), (1, .int x1), (4, .int (nB b4)), (0, .ref 50)]) (st' := []) (μ' := z_uj (mGP μ g (yy3 ||| (lb ((xR μ 18) && ((xR μ 21) && (xR μ 24))) 18)) f) 50 25 ((yy3 ||| (lb ((xR μ 18) && ((xR μ 21) && (xR μ 24))) 18)) ||| (lb true 19))) (by rfl) ?_
          rw [mGP_p]
          exact zJ hJ5 rfl rfl (by simp only [h11, lb_f, Int64.or_zero, nB_t, nB_f, Bool.not_true, Bool.not_false, Bool.and_true, Bool.true_and, Bool.false_and, Bool.and_false, Bool.or_true, Bool.true_or, Bool.false_or, Bool.or_false, cond_true, cond_false])
      refine zq_if hc hH (by rfl) (tg := 572) (by rfl) (fun h12 => ?_) (fun h12 => ?_)
      · have h12 : (xR μ 18) = false := nB_z.mp (cm_eq9.mp h12)
        exact zJ hJ4 rfl rfl (by simp only [h12, lb_f, Int64.or_zero, nB_t, nB_f, Bool.not_true, Bool.not_false, Bool.and_true, Bool.true_and, Bool.false_and, Bool.and_false, Bool.or_true, Bool.true_or, Bool.false_or, Bool.or_false, cond_true, cond_false])
      · have h12 : (xR μ 18) = true := nB_n.mp (cn_eq.mp h12)
        refine z_rcs hc hH 4 (pc' := 540) (lv' := [(10, .int 18), (9, .int (nB b9)), (8, .int (nB b8)), (7, .int x7), (6, .int (nB b6)), (5, .int (nB b5)), (3, .int x3), (2, .int x2), (1, .int x1), (4, .int (nB b4)), (0, .ref 50)]) (st' := [.int 21, .ref 50]) (μ' := mGP μ g yy3 f) (by rfl) ?_
        refine zq_call hc (z_cx_ok hH (by rfl)) (fb_X7_hasRun d' (by omega) (mGP μ g yy3 f) 21) (by decide +kernel) (fun r9 μ9 hq => ?_)
        obtain ⟨hμ9, rfl⟩ := hq
        rw [hμ9]
        clear hμ9 μ9
        show Z 0 543 [(10, .int 18), (9, .int (nB b9)), (8, .int (nB b8)), (7, .int x7), (6, .int (nB b6)), (5, .int (nB b5)), (3, .int x3), (2, .int x2), (1, .int x1), (4, .int (nB b4)), (0, .ref 50)] [.int (nB (xR μ 21))] (mGP μ g yy3 f)
        refine zq_if hc hH (by rfl) (tg := 572) (by rfl) (fun h13 => ?_) (fun h13 => ?_)
        · have h13 : (xR μ 21) = false := nB_z.mp (cm_eq9.mp h13)
          exact zJ hJ4 rfl rfl (by simp only [h12, h13, lb_f, Int64.or_zero, nB_t, nB_f, Bool.not_true, Bool.not_false, Bool.and_true, Bool.true_and, Bool.false_and, Bool.and_false, Bool.or_true, Bool.true_or, Bool.false_or, Bool.or_false, cond_true, cond_false])
        · have h13 : (xR μ 21) = true := nB_n.mp (cn_eq.mp h13)
          refine z_rcs hc hH 4 (pc' := 552) (lv' := [(10, .int 18), (9, .int (nB b9)), (8, .int (nB b8)), (7, .int x7), (6, .int (nB b6)), (5, .int (nB b5)), (3, .int x3), (2, .int x2), (1, .int x1), (4, .int (nB b4)), (0, .ref 50)]) (st' := [.int 24, .ref 50]) (μ' := mGP μ g yy3 f) (by rfl) ?_
          refine zq_call hc (z_cx_ok hH (by rfl)) (fb_X7_hasRun d' (by omega) (mGP μ g yy3 f) 24) (by decide +kernel) (fun r9 μ9 hq => ?_)
          obtain ⟨hμ9, rfl⟩ := hq
          rw [hμ9]
          clear hμ9 μ9
          show Z 0 555 [(10, .int 18), (9, .int (nB b9)), (8, .int (nB b8)), (7, .int x7), (6, .int (nB b6)), (5, .int (nB b5)), (3, .int x3), (2, .int x2), (1, .int x1), (4, .int (nB b4)), (0, .ref 50)] [.int (nB (xR μ 24))] (mGP μ g yy3 f)
          refine zq_if hc hH (by rfl) (tg := 572) (by rfl) (fun h14 => ?_) (fun h14 => ?_)
          · have h14 : (xR μ 24) = false := nB_z.mp (cm_eq9.mp h14)
            exact zJ hJ4 rfl rfl (by simp only [h12, h13, h14, lb_f, Int64.or_zero, nB_t, nB_f, Bool.not_true, Bool.not_false, Bool.and_true, Bool.true_and, Bool.false_and, Bool.and_false, Bool.or_true, Bool.true_or, Bool.false_or, Bool.or_false, cond_true, cond_false])
          · have h14 : (xR μ 24) = true := nB_n.mp (cn_eq.mp h14)
            refine z_rcs hc hH 4 (pc' := 565) (lv' := [(10, .int 18), (9, .int (nB b9)), (8, .int (nB b8)), (7, .int x7), (6, .int (nB b6)), (5, .int (nB b5)), (3, .int x3), (2, .int x2), (1, .int x1), (4, .int (nB b4)), (0, .ref 50)]) (st' := [.int 18, .long yy3, .ref 50]) (μ' := mGP μ g yy3 f) (by rfl) ?_
            refine zq_call hc (z_cx_ok hH (by rfl)) (fb_X7_bit d' (by omega) (mGP μ g yy3 f) 18) (by decide +kernel) (fun r9 μ9 hq => ?_)
            obtain ⟨hμ9, rfl⟩ := hq
            rw [hμ9]
            clear hμ9 μ9
            show Z 0 568 [(10, .int 18), (9, .int (nB b9)), (8, .int (nB b8)), (7, .int x7), (6, .int (nB b6)), (5, .int (nB b5)), (3, .int x3), (2, .int x2), (1, .int x1), (4, .int (nB b4)), (0, .ref 50)] [.long (lb true 18), .long yy3, .ref 50] (mGP μ g yy3 f)
            refine z_rcs hc hH 2 (pc' := 572) (lv' := [(10, .int 18), (9, .int (nB b9)), (8, .int (nB b8)), (7, .int x7), (6, .int (nB b6)), (5, .int (nB b5)), (3, .int x3), (2, .int x2), (1, .int x1), (4, .int (nB b4)), (0, .ref 50)]) (st' := []) (μ' := z_uj (mGP μ g yy3 f) 50 25 (yy3 ||| (lb true 18))) (by rfl) ?_
            rw [mGP_p]
            exact zJ hJ4 rfl rfl (by simp only [h12, h13, h14, lb_f, Int64.or_zero, nB_t, nB_f, Bool.not_true, Bool.not_false, Bool.and_true, Bool.true_and, Bool.false_and, Bool.and_false, Bool.or_true, Bool.true_or, Bool.false_or, Bool.or_false, cond_true, cond_false])
    refine zq_if hc hH (by rfl) (tg := 572) (by rfl) (fun h15 => ?_) (fun h15 => ?_)
    · have h15 : (xR μ 9) = false := nB_z.mp (cm_eq9.mp h15)
      exact zJ hJ2 rfl rfl (by simp only [h15, lb_f, Int64.or_zero, nB_t, nB_f, Bool.not_true, Bool.not_false, Bool.and_true, Bool.true_and, Bool.false_and, Bool.and_false, Bool.or_true, Bool.true_or, Bool.false_or, Bool.or_false, cond_true, cond_false])
    · have h15 : (xR μ 9) = true := nB_n.mp (cn_eq.mp h15)
      refine z_rcs hc hH 4 (pc' := 540) (lv' := [(10, .int 9), (9, .int (nB b9)), (8, .int (nB b8)), (7, .int x7), (6, .int (nB b6)), (5, .int (nB b5)), (3, .int x3), (2, .int x2), (1, .int x1), (4, .int (nB b4)), (0, .ref 50)]) (st' := [.int 12, .ref 50]) (μ' := mGP μ g (p ||| (lb ((xR μ 0) && ((xR μ 3) && (xR μ 6))) 18)) f) (by rfl) ?_
      refine zq_call hc (z_cx_ok hH (by rfl)) (fb_X7_hasRun d' (by omega) (mGP μ g (p ||| (lb ((xR μ 0) && ((xR μ 3) && (xR μ 6))) 18)) f) 12) (by decide +kernel) (fun r9 μ9 hq => ?_)
      obtain ⟨hμ9, rfl⟩ := hq
      rw [hμ9]
      clear hμ9 μ9
      show Z 0 543 [(10, .int 9), (9, .int (nB b9)), (8, .int (nB b8)), (7, .int x7), (6, .int (nB b6)), (5, .int (nB b5)), (3, .int x3), (2, .int x2), (1, .int x1), (4, .int (nB b4)), (0, .ref 50)] [.int (nB (xR μ 12))] _
      refine zq_if hc hH (by rfl) (tg := 572) (by rfl) (fun h16 => ?_) (fun h16 => ?_)
      · have h16 : (xR μ 12) = false := nB_z.mp (cm_eq9.mp h16)
        exact zJ hJ2 rfl rfl (by simp only [h15, h16, lb_f, Int64.or_zero, nB_t, nB_f, Bool.not_true, Bool.not_false, Bool.and_true, Bool.true_and, Bool.false_and, Bool.and_false, Bool.or_true, Bool.true_or, Bool.false_or, Bool.or_false, cond_true, cond_false])
      · have h16 : (xR μ 12) = true := nB_n.mp (cn_eq.mp h16)
        refine z_rcs0 hc hH 4 (pc' := 552) (lv' := [(10, .int 9), (9, .int (nB b9)), (8, .int (nB b8)), (7, .int x7), (6, .int (nB b6)), (5, .int (nB b5)), (3, .int x3), (2, .int x2), (1, .int x1), (4, .int (nB b4)), (0, .ref 50)]) (st' := [.int 15, .ref 50]) (by rfl) ?_
        refine zq_call hc (z_cx_ok hH (by rfl)) (fb_X7_hasRun d' (by omega) (mGP μ g (p ||| (lb ((xR μ 0) && ((xR μ 3) && (xR μ 6))) 18)) f) 15) (by decide +kernel) (fun r9 μ9 hq => ?_)
        obtain ⟨hμ9, rfl⟩ := hq
        rw [hμ9]
        clear hμ9 μ9
        show Z 0 555 [(10, .int 9), (9, .int (nB b9)), (8, .int (nB b8)), (7, .int x7), (6, .int (nB b6)), (5, .int (nB b5)), (3, .int x3), (2, .int x2), (1, .int x1), (4, .int (nB b4)), (0, .ref 50)] [.int (nB (xR μ 15))] _
        refine zq_if hc hH (by rfl) (tg := 572) (by rfl) (fun h17 => ?_) (fun h17 => ?_)
        · have h17 : (xR μ 15) = false := nB_z.mp (cm_eq9.mp h17)
          exact zJ hJ2 rfl rfl (by simp only [h15, h16, h17, lb_f, Int64.or_zero, nB_t, nB_f, Bool.not_true, Bool.not_false, Bool.and_true, Bool.true_and, Bool.false_and, Bool.and_false, Bool.or_true, Bool.true_or, Bool.false_or, Bool.or_false, cond_true, cond_false])
        · have h17 : (xR μ 15) = true := nB_n.mp (cn_eq.mp h17)
          refine z_rcs0 hc hH 4 (pc' := 565) (lv' := [(10, .int 9), (9, .int (nB b9)), (8, .int (nB b8)), (7, .int x7), (6, .int (nB b6)), (5, .int (nB b5)), (3, .int x3), (2, .int x2), (1, .int x1), (4, .int (nB b4)), (0, .ref 50)]) (st' := [.int 18, .long (p ||| (lb ((xR μ 0) && ((xR μ 3) && (xR μ 6))) 18)), .ref 50]) (by rfl) ?_
          refine zq_call hc (z_cx_ok hH (by rfl)) (fb_X7_bit d' (by omega) (mGP μ g (p ||| (lb ((xR μ 0) && ((xR μ 3) && (xR μ 6))) 18)) f) 18) (by decide +kernel) (fun r9 μ9 hq => ?_)
          obtain ⟨hμ9, rfl⟩ := hq
          rw [hμ9]
          clear hμ9 μ9
          show Z 0 568 [(10, .int 9), (9, .int (nB b9)), (8, .int (nB b8)), (7, .int x7), (6, .int (nB b6)), (5, .int (nB b5)), (3, .int x3), (2, .int x2), (1, .int x1), (4, .int (nB b4)), (0, .ref 50)] [.long (lb true 18), .long (p ||| (lb ((xR μ 0) && ((xR μ 3) && (xR μ 6))) 18)), .ref 50] _
          refine z_rcs hc hH 2 (pc' := 572) (lv' := [(10, .int 9), (9, .int (nB b9)), (8, .int (nB b8)), (7, .int x7), (6, .int (nB b6)), (5, .int (nB b5)), (3, .int x3), (2, .int x2), (1, .int x1), (4, .int (nB b4)), (0, .ref 50)]) (st' := []) (μ' := z_uj (mGP μ g (p ||| (lb ((xR μ 0) && ((xR μ 3) && (xR μ 6))) 18)) f) 50 25 ((p ||| (lb ((xR μ 0) && ((xR μ 3) && (xR μ 6))) 18)) ||| (lb true 18))) (by rfl) ?_
          rw [mGP_p]
          exact zJ hJ2 rfl rfl (by simp only [h15, h16, h17, lb_f, Int64.or_zero, nB_t, nB_f, Bool.not_true, Bool.not_false, Bool.and_true, Bool.true_and, Bool.false_and, Bool.and_false, Bool.or_true, Bool.true_or, Bool.false_or, Bool.or_false, cond_true, cond_false])
  refine zq_if hc hH (by rfl) (tg := 572) (by rfl) (fun h18 => ?_) (fun h18 => ?_)
  · have h18 : (xR μ 0) = false := nB_z.mp (cm_eq9.mp h18)
    exact zJ hJ1 rfl rfl (by simp only [h18, lb_f, Int64.or_zero, nB_t, nB_f, Bool.not_true, Bool.not_false, Bool.and_true, Bool.true_and, Bool.false_and, Bool.and_false, Bool.or_true, Bool.true_or, Bool.false_or, Bool.or_false, cond_true, cond_false])
  · have h18 : (xR μ 0) = true := nB_n.mp (cn_eq.mp h18)
    refine z_rcs hc hH 4 (pc' := 540) (lv' := [(10, .int 0), (9, .int (nB b9)), (8, .int (nB b8)), (7, .int x7), (6, .int (nB b6)), (5, .int (nB b5)), (3, .int x3), (2, .int x2), (1, .int x1), (4, .int (nB b4)), (0, .ref 50)]) (st' := [.int 3, .ref 50]) (μ' := mGP μ g p f) (by rfl) ?_
    refine zq_call hc (z_cx_ok hH (by rfl)) (fb_X7_hasRun d' (by omega) (mGP μ g p f) 3) (by decide +kernel) (fun r9 μ9 hq => ?_)
    obtain ⟨hμ9, rfl⟩ := hq
    rw [hμ9]
    clear hμ9 μ9
    show Z 0 543 [(10, .int 0), (9, .int (nB b9)), (8, .int (nB b8)), (7, .int x7), (6, .int (nB b6)), (5, .int (nB b5)), (3, .int x3), (2, .int x2), (1, .int x1), (4, .int (nB b4)), (0, .ref 50)] [.int (nB (xR μ 3))] (mGP μ g p f)
    refine zq_if hc hH (by rfl) (tg := 572) (by rfl) (fun h19 => ?_) (fun h19 => ?_)
    · have h19 : (xR μ 3) = false := nB_z.mp (cm_eq9.mp h19)
      exact zJ hJ1 rfl rfl (by simp only [h18, h19, lb_f, Int64.or_zero, nB_t, nB_f, Bool.not_true, Bool.not_false, Bool.and_true, Bool.true_and, Bool.false_and, Bool.and_false, Bool.or_true, Bool.true_or, Bool.false_or, Bool.or_false, cond_true, cond_false])
    · have h19 : (xR μ 3) = true := nB_n.mp (cn_eq.mp h19)
      refine z_rcs hc hH 4 (pc' := 552) (lv' := [(10, .int 0), (9, .int (nB b9)), (8, .int (nB b8)), (7, .int x7), (6, .int (nB b6)), (5, .int (nB b5)), (3, .int x3), (2, .int x2), (1, .int x1), (4, .int (nB b4)), (0, .ref 50)]) (st' := [.int 6, .ref 50]) (μ' := mGP μ g p f) (by rfl) ?_
      refine zq_call hc (z_cx_ok hH (by rfl)) (fb_X7_hasRun d' (by omega) (mGP μ g p f) 6) (by decide +kernel) (fun r9 μ9 hq => ?_)
      obtain ⟨hμ9, rfl⟩ := hq
      rw [hμ9]
      clear hμ9 μ9
      show Z 0 555 [(10, .int 0), (9, .int (nB b9)), (8, .int (nB b8)), (7, .int x7), (6, .int (nB b6)), (5, .int (nB b5)), (3, .int x3), (2, .int x2), (1, .int x1), (4, .int (nB b4)), (0, .ref 50)] [.int (nB (xR μ 6))] (mGP μ g p f)
      refine zq_if hc hH (by rfl) (tg := 572) (by rfl) (fun h20 => ?_) (fun h20 => ?_)
      · have h20 : (xR μ 6) = false := nB_z.mp (cm_eq9.mp h20)
        exact zJ hJ1 rfl rfl (by simp only [h18, h19, h20, lb_f, Int64.or_zero, nB_t, nB_f, Bool.not_true, Bool.not_false, Bool.and_true, Bool.true_and, Bool.false_and, Bool.and_false, Bool.or_true, Bool.true_or, Bool.false_or, Bool.or_false, cond_true, cond_false])
      · have h20 : (xR μ 6) = true := nB_n.mp (cn_eq.mp h20)
        refine z_rcs hc hH 4 (pc' := 565) (lv' := [(10, .int 0), (9, .int (nB b9)), (8, .int (nB b8)), (7, .int x7), (6, .int (nB b6)), (5, .int (nB b5)), (3, .int x3), (2, .int x2), (1, .int x1), (4, .int (nB b4)), (0, .ref 50)]) (st' := [.int 18, .long p, .ref 50]) (μ' := mGP μ g p f) (by rfl) ?_
        refine zq_call hc (z_cx_ok hH (by rfl)) (fb_X7_bit d' (by omega) (mGP μ g p f) 18) (by decide +kernel) (fun r9 μ9 hq => ?_)
        obtain ⟨hμ9, rfl⟩ := hq
        rw [hμ9]
        clear hμ9 μ9
        show Z 0 568 [(10, .int 0), (9, .int (nB b9)), (8, .int (nB b8)), (7, .int x7), (6, .int (nB b6)), (5, .int (nB b5)), (3, .int x3), (2, .int x2), (1, .int x1), (4, .int (nB b4)), (0, .ref 50)] [.long (lb true 18), .long p, .ref 50] (mGP μ g p f)
        refine z_rcs hc hH 2 (pc' := 572) (lv' := [(10, .int 0), (9, .int (nB b9)), (8, .int (nB b8)), (7, .int x7), (6, .int (nB b6)), (5, .int (nB b5)), (3, .int x3), (2, .int x2), (1, .int x1), (4, .int (nB b4)), (0, .ref 50)]) (st' := []) (μ' := z_uj (mGP μ g p f) 50 25 (p ||| (lb true 18))) (by rfl) ?_
        rw [mGP_p]
        exact zJ hJ1 rfl rfl (by simp only [h18, h19, h20, lb_f, Int64.or_zero, nB_t, nB_f, Bool.not_true, Bool.not_false, Bool.and_true, Bool.true_and, Bool.false_and, Bool.and_false, Bool.or_true, Bool.true_or, Bool.false_or, Bool.or_false, cond_true, cond_false])
theorem fs639 (d' : Nat) (Z : zK) (hd : 4 ≤ d') (μ : zM) (q : Nat) (hq : q ≤ 4) (e4 : μ.1 50 4 = nI q) (s l : Nat → Nat) (hA : AY μ s l) (hco : vp_in (μ.1 50 22) 5) (hc : z_clo z_x0 mi_X7_firstSort (z_C d') Z) (b9 : Bool) (b8 : Bool) (x7 : Int32) (b6 : Bool) (b5 : Bool) (x3 : Int32) (x2 : Int32) (x1 : Int32) (b4 : Bool) (g p : Int64) (f : Int32) (K : Z 0 861 [(12, .int 34), (10, .int (((0 + (nB (xT μ 31))) + (nB (xT μ 32))) + (nB (xT μ 33)))), (11, .int ((((0 + (nB (xT μ 27))) + (nB (xT μ 28))) + (nB (xT μ 29))) + (nB (xT μ 30)))), (9, .int (nB b9)), (8, .int (nB b8)), (7, .int x7), (6, .int (nB b6)), (5, .int (nB b5)), (3, .int x3), (2, .int x2), (1, .int x1), (4, .int (nB b4)), (0, .ref 50)] [] (mGP μ (tlG μ (((((g ||| (lb (decide (x2 = 4)) 33)) ||| (lb (decide ((((0 + (nB (xT μ 31))) + (nB (xT μ 32))) + (nB (xT μ 33))) = 3)) 34)) ||| (lb ((decide (((((0 + (nB (xT μ 27))) + (nB (xT μ 28))) + (nB (xT μ 29))) + (nB (xT μ 30))) = 3)) && (!(decide ((μ.1 50 21) ≤ 26)) && (!(decide (31 ≤ (μ.1 50 21)))))) 35)) ||| (lb (decide (((((0 + (nB (xT μ 27))) + (nB (xT μ 28))) + (nB (xT μ 29))) + (nB (xT μ 30))) = 4)) 36)) ||| (lb (decide (x3 = 4)) 41)) (tF μ q 34 0 t70)) (tlP μ (p ||| (lb ((decide ((((0 + (nB (xT μ 31))) + (nB (xT μ 32))) + (nB (xT μ 33))) = 2)) && (xDr (μ.1 50 21))) 25)) (tF μ q 34 0 t70)) f)) : Z 0 639 [(10, .int 27), (9, .int (nB b9)), (8, .int (nB b8)), (7, .int x7), (6, .int (nB b6)), (5, .int (nB b5)), (3, .int x3), (2, .int x2), (1, .int x1), (4, .int (nB b4)), (0, .ref 50)] [] (mGP μ g p f) := by
  have hH : zH mi_X7_firstSort zt_X7_firstSort 79 7 14 := hh_X7_firstSort
  refine z_rcs hc hH 10 (pc' := 658) (lv' := [(12, .int 27), (11, .int 0), (10, .int 0), (9, .int (nB b9)), (8, .int (nB b8)), (7, .int x7), (6, .int (nB b6)), (5, .int (nB b5)), (3, .int x3), (2, .int x2), (1, .int x1), (4, .int (nB b4)), (0, .ref 50)]) (st' := [.int 27]) (μ' := mGP μ g p f) (by rfl) ?_
  refine zq_call hc (z_cx_ok hH (by rfl)) (fb_X7_isDragon d' (by omega) (mGP μ g p f) 27) (by decide +kernel) (fun r9 μ9 hq => ?_)
  obtain ⟨hμ9, rfl⟩ := hq
  rw [hμ9]
  clear hμ9 μ9
  show Z 0 661 [(12, .int 27), (11, .int 0), (10, .int 0), (9, .int (nB b9)), (8, .int (nB b8)), (7, .int x7), (6, .int (nB b6)), (5, .int (nB b5)), (3, .int x3), (2, .int x2), (1, .int x1), (4, .int (nB b4)), (0, .ref 50)] [.int (nB (xDr 27))] (mGP μ g p f)
  rw [show nB (xDr 27) = 0 from by decide +kernel]
  show Z 0 661 [(12, .int 27), (11, .int 0), (10, .int 0), (9, .int (nB b9)), (8, .int (nB b8)), (7, .int x7), (6, .int (nB b6)), (5, .int (nB b5)), (3, .int x3), (2, .int x2), (1, .int x1), (4, .int (nB b4)), (0, .ref 50)] [.int 0] (mGP μ g p f)
  refine z_rcs hc hH 4 (pc' := 691) (lv' := [(12, .int 27), (11, .int 0), (10, .int 0), (9, .int (nB b9)), (8, .int (nB b8)), (7, .int x7), (6, .int (nB b6)), (5, .int (nB b5)), (3, .int x3), (2, .int x2), (1, .int x1), (4, .int (nB b4)), (0, .ref 50)]) (st' := [.int 27, .ref 50, .int 0]) (μ' := mGP μ g p f) (by rfl) ?_
  refine zq_call hc (z_cx_ok hH (by rfl)) (fb_X7_hasThree d' (by omega) (mGP μ g p f) 27) (by decide +kernel) (fun r9 μ9 hq => ?_)
  obtain ⟨hμ9, rfl⟩ := hq
  rw [hμ9]
  clear hμ9 μ9
  show Z 0 694 [(12, .int 27), (11, .int 0), (10, .int 0), (9, .int (nB b9)), (8, .int (nB b8)), (7, .int x7), (6, .int (nB b6)), (5, .int (nB b5)), (3, .int x3), (2, .int x2), (1, .int x1), (4, .int (nB b4)), (0, .ref 50)] [.int (nB (xT μ 27)), .int 0] (mGP μ g p f)
  have hJ1 : Z 0 702 [(12, .int 27), (11, .int 0), (10, .int 0), (9, .int (nB b9)), (8, .int (nB b8)), (7, .int x7), (6, .int (nB b6)), (5, .int (nB b5)), (3, .int x3), (2, .int x2), (1, .int x1), (4, .int (nB b4)), (0, .ref 50)] [.int (nB (xT μ 27)), .int 0] (mGP μ g p f) := by
    refine z_rcs hc hH 8 (pc' := 658) (lv' := [(12, .int 28), (11, .int (0 + (nB (xT μ 27)))), (10, .int 0), (9, .int (nB b9)), (8, .int (nB b8)), (7, .int x7), (6, .int (nB b6)), (5, .int (nB b5)), (3, .int x3), (2, .int x2), (1, .int x1), (4, .int (nB b4)), (0, .ref 50)]) (st' := [.int 28]) (μ' := mGP μ g p f) (by rfl) ?_
    refine zq_call hc (z_cx_ok hH (by rfl)) (fb_X7_isDragon d' (by omega) (mGP μ g p f) 28) (by decide +kernel) (fun r9 μ9 hq => ?_)
    obtain ⟨hμ9, rfl⟩ := hq
    rw [hμ9]
    clear hμ9 μ9
    show Z 0 661 [(12, .int 28), (11, .int (0 + (nB (xT μ 27)))), (10, .int 0), (9, .int (nB b9)), (8, .int (nB b8)), (7, .int x7), (6, .int (nB b6)), (5, .int (nB b5)), (3, .int x3), (2, .int x2), (1, .int x1), (4, .int (nB b4)), (0, .ref 50)] [.int (nB (xDr 28))] (mGP μ g p f)
    rw [show nB (xDr 28) = 0 from by decide +kernel]
    show Z 0 661 [(12, .int 28), (11, .int (0 + (nB (xT μ 27)))), (10, .int 0), (9, .int (nB b9)), (8, .int (nB b8)), (7, .int x7), (6, .int (nB b6)), (5, .int (nB b5)), (3, .int x3), (2, .int x2), (1, .int x1), (4, .int (nB b4)), (0, .ref 50)] [.int 0] (mGP μ g p f)
    refine z_rcs hc hH 4 (pc' := 691) (lv' := [(12, .int 28), (11, .int (0 + (nB (xT μ 27)))), (10, .int 0), (9, .int (nB b9)), (8, .int (nB b8)), (7, .int x7), (6, .int (nB b6)), (5, .int (nB b5)), (3, .int x3), (2, .int x2), (1, .int x1), (4, .int (nB b4)), (0, .ref 50)]) (st' := [.int 28, .ref 50, .int (0 + (nB (xT μ 27)))]) (μ' := mGP μ g p f) (by rfl) ?_
    refine zq_call hc (z_cx_ok hH (by rfl)) (fb_X7_hasThree d' (by omega) (mGP μ g p f) 28) (by decide +kernel) (fun r9 μ9 hq => ?_)
    obtain ⟨hμ9, rfl⟩ := hq
    rw [hμ9]
    clear hμ9 μ9
    show Z 0 694 [(12, .int 28), (11, .int (0 + (nB (xT μ 27)))), (10, .int 0), (9, .int (nB b9)), (8, .int (nB b8)), (7, .int x7), (6, .int (nB b6)), (5, .int (nB b5)), (3, .int x3), (2, .int x2), (1, .int x1), (4, .int (nB b4)), (0, .ref 50)] [.int (nB (xT μ 28)), .int (0 + (nB (xT μ 27)))] (mGP μ g p f)
    have hJ2 : Z 0 702 [(12, .int 28), (11, .int (0 + (nB (xT μ 27)))), (10, .int 0), (9, .int (nB b9)), (8, .int (nB b8)), (7, .int x7), (6, .int (nB b6)), (5, .int (nB b5)), (3, .int x3), (2, .int x2), (1, .int x1), (4, .int (nB b4)), (0, .ref 50)] [.int (nB (xT μ 28)), .int (0 + (nB (xT μ 27)))] (mGP μ g p f) := by
      refine z_rcs hc hH 8 (pc' := 658) (lv' := [(12, .int 29), (11, .int ((0 + (nB (xT μ 27))) + (nB (xT μ 28)))), (10, .int 0), (9, .int (nB b9)), (8, .int (nB b8)), (7, .int x7), (6, .int (nB b6)), (5, .int (nB b5)), (3, .int x3), (2, .int x2), (1, .int x1), (4, .int (nB b4)), (0, .ref 50)]) (st' := [.int 29]) (μ' := mGP μ g p f) (by rfl) ?_
      refine zq_call hc (z_cx_ok hH (by rfl)) (fb_X7_isDragon d' (by omega) (mGP μ g p f) 29) (by decide +kernel) (fun r9 μ9 hq => ?_)
      obtain ⟨hμ9, rfl⟩ := hq
      rw [hμ9]
      clear hμ9 μ9
      show Z 0 661 [(12, .int 29), (11, .int ((0 + (nB (xT μ 27))) + (nB (xT μ 28)))), (10, .int 0), (9, .int (nB b9)), (8, .int (nB b8)), (7, .int x7), (6, .int (nB b6)), (5, .int (nB b5)), (3, .int x3), (2, .int x2), (1, .int x1), (4, .int (nB b4)), (0, .ref 50)] [.int (nB (xDr 29))] (mGP μ g p f)
      rw [show nB (xDr 29) = 0 from by decide +kernel]
      show Z 0 661 [(12, .int 29), (11, .int ((0 + (nB (xT μ 27))) + (nB (xT μ 28)))), (10, .int 0), (9, .int (nB b9)), (8, .int (nB b8)), (7, .int x7), (6, .int (nB b6)), (5, .int (nB b5)), (3, .int x3), (2, .int x2), (1, .int x1), (4, .int (nB b4)), (0, .ref 50)] [.int 0] (mGP μ g p f)
      refine z_rcs hc hH 4 (pc' := 691) (lv' := [(12, .int 29), (11, .int ((0 + (nB (xT μ 27))) + (nB (xT μ 28)))), (10, .int 0), (9, .int (nB b9)), (8, .int (nB b8)), (7, .int x7), (6, .int (nB b6)), (5, .int (nB b5)), (3, .int x3), (2, .int x2), (1, .int x1), (4, .int (nB b4)), (0, .ref 50)]) (st' := [.int 29, .ref 50, .int ((0 + (nB (xT μ 27))) + (nB (xT μ 28)))]) (μ' := mGP μ g p f) (by rfl) ?_
      refine zq_call hc (z_cx_ok hH (by rfl)) (fb_X7_hasThree d' (by omega) (mGP μ g p f) 29) (by decide +kernel) (fun r9 μ9 hq => ?_)
      obtain ⟨hμ9, rfl⟩ := hq
      rw [hμ9]
      clear hμ9 μ9
      show Z 0 694 [(12, .int 29), (11, .int ((0 + (nB (xT μ 27))) + (nB (xT μ 28)))), (10, .int 0), (9, .int (nB b9)), (8, .int (nB b8)), (7, .int x7), (6, .int (nB b6)), (5, .int (nB b5)), (3, .int x3), (2, .int x2), (1, .int x1), (4, .int (nB b4)), (0, .ref 50)] [.int (nB (xT μ 29)), .int ((0 + (nB (xT μ 27))) + (nB (xT μ 28)))] (mGP μ g p f)
      have hJ3 : Z 0 702 [(12, .int 29), (11, .int ((0 + (nB (xT μ 27))) + (nB (xT μ 28)))), (10, .int 0), (9, .int (nB b9)), (8, .int (nB b8)), (7, .int x7), (6, .int (nB b6)), (5, .int (nB b5)), (3, .int x3), (2, .int x2), (1, .int x1), (4, .int (nB b4)), (0, .ref 50)] [.int (nB (xT μ 29)), .int ((0 + (nB (xT μ 27))) + (nB (xT μ 28)))] (mGP μ g p f) := by
        refine z_rcs hc hH 8 (pc' := 658) (lv' := [(12, .int 30), (11, .int (((0 + (nB (xT μ 27))) + (nB (xT μ 28))) + (nB (xT μ 29)))), (10, .int 0), (9, .int (nB b9)), (8, .int (nB b8)), (7, .int x7), (6, .int (nB b6)), (5, .int (nB b5)), (3, .int x3), (2, .int x2), (1, .int x1), (4, .int (nB b4)), (0, .ref 50)]) (st' := [.int 30]) (μ' := mGP μ g p f) (by rfl) ?_
        refine zq_call hc (z_cx_ok hH (by rfl)) (fb_X7_isDragon d' (by omega) (mGP μ g p f) 30) (by decide +kernel) (fun r9 μ9 hq => ?_)
        obtain ⟨hμ9, rfl⟩ := hq
        rw [hμ9]
        clear hμ9 μ9
        show Z 0 661 [(12, .int 30), (11, .int (((0 + (nB (xT μ 27))) + (nB (xT μ 28))) + (nB (xT μ 29)))), (10, .int 0), (9, .int (nB b9)), (8, .int (nB b8)), (7, .int x7), (6, .int (nB b6)), (5, .int (nB b5)), (3, .int x3), (2, .int x2), (1, .int x1), (4, .int (nB b4)), (0, .ref 50)] [.int (nB (xDr 30))] (mGP μ g p f)
        rw [show nB (xDr 30) = 0 from by decide +kernel]
        show Z 0 661 [(12, .int 30), (11, .int (((0 + (nB (xT μ 27))) + (nB (xT μ 28))) + (nB (xT μ 29)))), (10, .int 0), (9, .int (nB b9)), (8, .int (nB b8)), (7, .int x7), (6, .int (nB b6)), (5, .int (nB b5)), (3, .int x3), (2, .int x2), (1, .int x1), (4, .int (nB b4)), (0, .ref 50)] [.int 0] (mGP μ g p f)
        refine z_rcs hc hH 4 (pc' := 691) (lv' := [(12, .int 30), (11, .int (((0 + (nB (xT μ 27))) + (nB (xT μ 28))) + (nB (xT μ 29)))), (10, .int 0), (9, .int (nB b9)), (8, .int (nB b8)), (7, .int x7), (6, .int (nB b6)), (5, .int (nB b5)), (3, .int x3), (2, .int x2), (1, .int x1), (4, .int (nB b4)), (0, .ref 50)]) (st' := [.int 30, .ref 50, .int (((0 + (nB (xT μ 27))) + (nB (xT μ 28))) + (nB (xT μ 29)))]) (μ' := mGP μ g p f) (by rfl) ?_
        refine zq_call hc (z_cx_ok hH (by rfl)) (fb_X7_hasThree d' (by omega) (mGP μ g p f) 30) (by decide +kernel) (fun r9 μ9 hq => ?_)
        obtain ⟨hμ9, rfl⟩ := hq
        rw [hμ9]
        clear hμ9 μ9
        show Z 0 694 [(12, .int 30), (11, .int (((0 + (nB (xT μ 27))) + (nB (xT μ 28))) + (nB (xT μ 29)))), (10, .int 0), (9, .int (nB b9)), (8, .int (nB b8)), (7, .int x7), (6, .int (nB b6)), (5, .int (nB b5)), (3, .int x3), (2, .int x2), (1, .int x1), (4, .int (nB b4)), (0, .ref 50)] [.int (nB (xT μ 30)), .int (((0 + (nB (xT μ 27))) + (nB (xT μ 28))) + (nB (xT μ 29)))] (mGP μ g p f)
        have hJ4 : Z 0 702 [(12, .int 30), (11, .int (((0 + (nB (xT μ 27))) + (nB (xT μ 28))) + (nB (xT μ 29)))), (10, .int 0), (9, .int (nB b9)), (8, .int (nB b8)), (7, .int x7), (6, .int (nB b6)), (5, .int (nB b5)), (3, .int x3), (2, .int x2), (1, .int x1), (4, .int (nB b4)), (0, .ref 50)] [.int (nB (xT μ 30)), .int (((0 + (nB (xT μ 27))) + (nB (xT μ 28))) + (nB (xT μ 29)))] (mGP μ g p f) := by
          refine z_rcs hc hH 8 (pc' := 658) (lv' := [(12, .int 31), (11, .int ((((0 + (nB (xT μ 27))) + (nB (xT μ 28))) + (nB (xT μ 29))) + (nB (xT μ 30)))), (10, .int 0), (9, .int (nB b9)), (8, .int (nB b8)), (7, .int x7), (6, .int (nB b6)), (5, .int (nB b5)), (3, .int x3), (2, .int x2), (1, .int x1), (4, .int (nB b4)), (0, .ref 50)]) (st' := [.int 31]) (μ' := mGP μ g p f) (by rfl) ?_
          refine zq_call hc (z_cx_ok hH (by rfl)) (fb_X7_isDragon d' (by omega) (mGP μ g p f) 31) (by decide +kernel) (fun r9 μ9 hq => ?_)
          obtain ⟨hμ9, rfl⟩ := hq
          rw [hμ9]
          clear hμ9 μ9
          show Z 0 661 [(12, .int 31), (11, .int ((((0 + (nB (xT μ 27))) + (nB (xT μ 28))) + (nB (xT μ 29))) + (nB (xT μ 30)))), (10, .int 0), (9, .int (nB b9)), (8, .int (nB b8)), (7, .int x7), (6, .int (nB b6)), (5, .int (nB b5)), (3, .int x3), (2, .int x2), (1, .int x1), (4, .int (nB b4)), (0, .ref 50)] [.int (nB (xDr 31))] (mGP μ g p f)
          rw [show nB (xDr 31) = 1 from by decide +kernel]
          show Z 0 661 [(12, .int 31), (11, .int ((((0 + (nB (xT μ 27))) + (nB (xT μ 28))) + (nB (xT μ 29))) + (nB (xT μ 30)))), (10, .int 0), (9, .int (nB b9)), (8, .int (nB b8)), (7, .int x7), (6, .int (nB b6)), (5, .int (nB b5)), (3, .int x3), (2, .int x2), (1, .int x1), (4, .int (nB b4)), (0, .ref 50)] [.int 1] (mGP μ g p f)
          refine z_rcs hc hH 4 (pc' := 669) (lv' := [(12, .int 31), (11, .int ((((0 + (nB (xT μ 27))) + (nB (xT μ 28))) + (nB (xT μ 29))) + (nB (xT μ 30)))), (10, .int 0), (9, .int (nB b9)), (8, .int (nB b8)), (7, .int x7), (6, .int (nB b6)), (5, .int (nB b5)), (3, .int x3), (2, .int x2), (1, .int x1), (4, .int (nB b4)), (0, .ref 50)]) (st' := [.int 31, .ref 50, .int 0]) (μ' := mGP μ g p f) (by rfl) ?_
          refine zq_call hc (z_cx_ok hH (by rfl)) (fb_X7_hasThree d' (by omega) (mGP μ g p f) 31) (by decide +kernel) (fun r9 μ9 hq => ?_)
          obtain ⟨hμ9, rfl⟩ := hq
          rw [hμ9]
          clear hμ9 μ9
          show Z 0 672 [(12, .int 31), (11, .int ((((0 + (nB (xT μ 27))) + (nB (xT μ 28))) + (nB (xT μ 29))) + (nB (xT μ 30)))), (10, .int 0), (9, .int (nB b9)), (8, .int (nB b8)), (7, .int x7), (6, .int (nB b6)), (5, .int (nB b5)), (3, .int x3), (2, .int x2), (1, .int x1), (4, .int (nB b4)), (0, .ref 50)] [.int (nB (xT μ 31)), .int 0] (mGP μ g p f)
          have hJ5 : Z 0 680 [(12, .int 31), (11, .int ((((0 + (nB (xT μ 27))) + (nB (xT μ 28))) + (nB (xT μ 29))) + (nB (xT μ 30)))), (10, .int 0), (9, .int (nB b9)), (8, .int (nB b8)), (7, .int x7), (6, .int (nB b6)), (5, .int (nB b5)), (3, .int x3), (2, .int x2), (1, .int x1), (4, .int (nB b4)), (0, .ref 50)] [.int (nB (xT μ 31)), .int 0] (mGP μ g p f) := by
            generalize hyy6 : ((((0 + (nB (xT μ 27))) + (nB (xT μ 28))) + (nB (xT μ 29))) + (nB (xT μ 30)) : Int32) = yy6
            refine z_rcs hc hH 9 (pc' := 658) (lv' := [(12, .int 32), (10, .int (0 + (nB (xT μ 31)))), (11, .int yy6), (9, .int (nB b9)), (8, .int (nB b8)), (7, .int x7), (6, .int (nB b6)), (5, .int (nB b5)), (3, .int x3), (2, .int x2), (1, .int x1), (4, .int (nB b4)), (0, .ref 50)]) (st' := [.int 32]) (μ' := mGP μ g p f) (by rfl) ?_
            refine zq_call hc (z_cx_ok hH (by rfl)) (fb_X7_isDragon d' (by omega) (mGP μ g p f) 32) (by decide +kernel) (fun r9 μ9 hq => ?_)
            obtain ⟨hμ9, rfl⟩ := hq
            rw [hμ9]
            clear hμ9 μ9
            show Z 0 661 [(12, .int 32), (10, .int (0 + (nB (xT μ 31)))), (11, .int yy6), (9, .int (nB b9)), (8, .int (nB b8)), (7, .int x7), (6, .int (nB b6)), (5, .int (nB b5)), (3, .int x3), (2, .int x2), (1, .int x1), (4, .int (nB b4)), (0, .ref 50)] [.int (nB (xDr 32))] (mGP μ g p f)
            rw [show nB (xDr 32) = 1 from by decide +kernel]
            show Z 0 661 [(12, .int 32), (10, .int (0 + (nB (xT μ 31)))), (11, .int yy6), (9, .int (nB b9)), (8, .int (nB b8)), (7, .int x7), (6, .int (nB b6)), (5, .int (nB b5)), (3, .int x3), (2, .int x2), (1, .int x1), (4, .int (nB b4)), (0, .ref 50)] [.int 1] (mGP μ g p f)
            refine z_rcs hc hH 4 (pc' := 669) (lv' := [(12, .int 32), (10, .int (0 + (nB (xT μ 31)))), (11, .int yy6), (9, .int (nB b9)), (8, .int (nB b8)), (7, .int x7), (6, .int (nB b6)), (5, .int (nB b5)), (3, .int x3), (2, .int x2), (1, .int x1), (4, .int (nB b4)), (0, .ref 50)]) (st' := [.int 32, .ref 50, .int (0 + (nB (xT μ 31)))]) (μ' := mGP μ g p f) (by rfl) ?_
            refine zq_call hc (z_cx_ok hH (by rfl)) (fb_X7_hasThree d' (by omega) (mGP μ g p f) 32) (by decide +kernel) (fun r9 μ9 hq => ?_)
            obtain ⟨hμ9, rfl⟩ := hq
            rw [hμ9]
            clear hμ9 μ9
            show Z 0 672 [(12, .int 32), (10, .int (0 + (nB (xT μ 31)))), (11, .int yy6), (9, .int (nB b9)), (8, .int (nB b8)), (7, .int x7), (6, .int (nB b6)), (5, .int (nB b5)), (3, .int x3), (2, .int x2), (1, .int x1), (4, .int (nB b4)), (0, .ref 50)] [.int (nB (xT μ 32)), .int (0 + (nB (xT μ 31)))] (mGP μ g p f)
            have hJ7 : Z 0 680 [(12, .int 32), (10, .int (0 + (nB (xT μ 31)))), (11, .int yy6), (9, .int (nB b9)), (8, .int (nB b8)), (7, .int x7), (6, .int (nB b6)), (5, .int (nB b5)), (3, .int x3), (2, .int x2), (1, .int x1), (4, .int (nB b4)), (0, .ref 50)] [.int (nB (xT μ 32)), .int (0 + (nB (xT μ 31)))] (mGP μ g p f) := by
              refine z_rcs hc hH 9 (pc' := 658) (lv' := [(12, .int 33), (10, .int ((0 + (nB (xT μ 31))) + (nB (xT μ 32)))), (11, .int yy6), (9, .int (nB b9)), (8, .int (nB b8)), (7, .int x7), (6, .int (nB b6)), (5, .int (nB b5)), (3, .int x3), (2, .int x2), (1, .int x1), (4, .int (nB b4)), (0, .ref 50)]) (st' := [.int 33]) (μ' := mGP μ g p f) (by rfl) ?_
              refine zq_call hc (z_cx_ok hH (by rfl)) (fb_X7_isDragon d' (by omega) (mGP μ g p f) 33) (by decide +kernel) (fun r9 μ9 hq => ?_)
              obtain ⟨hμ9, rfl⟩ := hq
              rw [hμ9]
              clear hμ9 μ9
              show Z 0 661 [(12, .int 33), (10, .int ((0 + (nB (xT μ 31))) + (nB (xT μ 32)))), (11, .int yy6), (9, .int (nB b9)), (8, .int (nB b8)), (7, .int x7), (6, .int (nB b6)), (5, .int (nB b5)), (3, .int x3), (2, .int x2), (1, .int x1), (4, .int (nB b4)), (0, .ref 50)] [.int (nB (xDr 33))] (mGP μ g p f)
              rw [show nB (xDr 33) = 1 from by decide +kernel]
              show Z 0 661 [(12, .int 33), (10, .int ((0 + (nB (xT μ 31))) + (nB (xT μ 32)))), (11, .int yy6), (9, .int (nB b9)), (8, .int (nB b8)), (7, .int x7), (6, .int (nB b6)), (5, .int (nB b5)), (3, .int x3), (2, .int x2), (1, .int x1), (4, .int (nB b4)), (0, .ref 50)] [.int 1] (mGP μ g p f)
              refine z_rcs hc hH 4 (pc' := 669) (lv' := [(12, .int 33), (10, .int ((0 + (nB (xT μ 31))) + (nB (xT μ 32)))), (11, .int yy6), (9, .int (nB b9)), (8, .int (nB b8)), (7, .int x7), (6, .int (nB b6)), (5, .int (nB b5)), (3, .int x3), (2, .int x2), (1, .int x1), (4, .int (nB b4)), (0, .ref 50)]) (st' := [.int 33, .ref 50, .int ((0 + (nB (xT μ 31))) + (nB (xT μ 32)))]) (μ' := mGP μ g p f) (by rfl) ?_
              refine zq_call hc (z_cx_ok hH (by rfl)) (fb_X7_hasThree d' (by omega) (mGP μ g p f) 33) (by decide +kernel) (fun r9 μ9 hq => ?_)
              obtain ⟨hμ9, rfl⟩ := hq
              rw [hμ9]
              clear hμ9 μ9
              show Z 0 672 [(12, .int 33), (10, .int ((0 + (nB (xT μ 31))) + (nB (xT μ 32)))), (11, .int yy6), (9, .int (nB b9)), (8, .int (nB b8)), (7, .int x7), (6, .int (nB b6)), (5, .int (nB b5)), (3, .int x3), (2, .int x2), (1, .int x1), (4, .int (nB b4)), (0, .ref 50)] [.int (nB (xT μ 33)), .int ((0 + (nB (xT μ 31))) + (nB (xT μ 32)))] (mGP μ g p f)
              have hJ8 : Z 0 680 [(12, .int 33), (10, .int ((0 + (nB (xT μ 31))) + (nB (xT μ 32)))), (11, .int yy6), (9, .int (nB b9)), (8, .int (nB b8)), (7, .int x7), (6, .int (nB b6)), (5, .int (nB b5)), (3, .int x3), (2, .int x2), (1, .int x1), (4, .int (nB b4)), (0, .ref 50)] [.int (nB (xT μ 33)), .int ((0 + (nB (xT μ 31))) + (nB (xT μ 32)))] (mGP μ g p f) := by
                refine z_rcs hc hH 10 (pc' := 714) (lv' := [(12, .int 34), (10, .int (((0 + (nB (xT μ 31))) + (nB (xT μ 32))) + (nB (xT μ 33)))), (11, .int yy6), (9, .int (nB b9)), (8, .int (nB b8)), (7, .int x7), (6, .int (nB b6)), (5, .int (nB b5)), (3, .int x3), (2, .int x2), (1, .int x1), (4, .int (nB b4)), (0, .ref 50)]) (st' := [.int 2, .int (((0 + (nB (xT μ 31))) + (nB (xT μ 32))) + (nB (xT μ 33)))]) (μ' := mGP μ g p f) (by rfl) ?_
                have hJ9 : Z 0 741 [(12, .int 34), (10, .int (((0 + (nB (xT μ 31))) + (nB (xT μ 32))) + (nB (xT μ 33)))), (11, .int yy6), (9, .int (nB b9)), (8, .int (nB b8)), (7, .int x7), (6, .int (nB b6)), (5, .int (nB b5)), (3, .int x3), (2, .int x2), (1, .int x1), (4, .int (nB b4)), (0, .ref 50)] [] (mGP μ g (p ||| (lb ((decide ((((0 + (nB (xT μ 31))) + (nB (xT μ 32))) + (nB (xT μ 33))) = 2)) && (xDr (μ.1 50 21))) 25)) f) := by
                  generalize hyy10 : (p ||| (lb ((decide ((((0 + (nB (xT μ 31))) + (nB (xT μ 32))) + (nB (xT μ 33))) = 2)) && (xDr (μ.1 50 21))) 25) : Int64) = yy10
                  refine z_rcs hc hH 2 (pc' := 743) (lv' := [(12, .int 34), (10, .int (((0 + (nB (xT μ 31))) + (nB (xT μ 32))) + (nB (xT μ 33)))), (11, .int yy6), (9, .int (nB b9)), (8, .int (nB b8)), (7, .int x7), (6, .int (nB b6)), (5, .int (nB b5)), (3, .int x3), (2, .int x2), (1, .int x1), (4, .int (nB b4)), (0, .ref 50)]) (st' := [.int 4, .int x2]) (μ' := mGP μ g yy10 f) (by rfl) ?_
                  have hJ11 : Z 0 760 [(12, .int 34), (10, .int (((0 + (nB (xT μ 31))) + (nB (xT μ 32))) + (nB (xT μ 33)))), (11, .int yy6), (9, .int (nB b9)), (8, .int (nB b8)), (7, .int x7), (6, .int (nB b6)), (5, .int (nB b5)), (3, .int x3), (2, .int x2), (1, .int x1), (4, .int (nB b4)), (0, .ref 50)] [] (mGP μ (g ||| (lb (decide (x2 = 4)) 33)) yy10 f) := by
                    refine z_rcs0 hc hH 2 (pc' := 763) (lv' := [(12, .int 34), (10, .int (((0 + (nB (xT μ 31))) + (nB (xT μ 32))) + (nB (xT μ 33)))), (11, .int yy6), (9, .int (nB b9)), (8, .int (nB b8)), (7, .int x7), (6, .int (nB b6)), (5, .int (nB b5)), (3, .int x3), (2, .int x2), (1, .int x1), (4, .int (nB b4)), (0, .ref 50)]) (st' := [.int 3, .int (((0 + (nB (xT μ 31))) + (nB (xT μ 32))) + (nB (xT μ 33)))]) (by rfl) ?_
                    have hJ12 : Z 0 780 [(12, .int 34), (10, .int (((0 + (nB (xT μ 31))) + (nB (xT μ 32))) + (nB (xT μ 33)))), (11, .int yy6), (9, .int (nB b9)), (8, .int (nB b8)), (7, .int x7), (6, .int (nB b6)), (5, .int (nB b5)), (3, .int x3), (2, .int x2), (1, .int x1), (4, .int (nB b4)), (0, .ref 50)] [] (mGP μ ((g ||| (lb (decide (x2 = 4)) 33)) ||| (lb (decide ((((0 + (nB (xT μ 31))) + (nB (xT μ 32))) + (nB (xT μ 33))) = 3)) 34)) yy10 f) := by
                      generalize hyy13 : ((g ||| (lb (decide (x2 = 4)) 33)) ||| (lb (decide ((((0 + (nB (xT μ 31))) + (nB (xT μ 32))) + (nB (xT μ 33))) = 3)) 34) : Int64) = yy13
                      refine z_rcs hc hH 2 (pc' := 783) (lv' := [(12, .int 34), (10, .int (((0 + (nB (xT μ 31))) + (nB (xT μ 32))) + (nB (xT μ 33)))), (11, .int yy6), (9, .int (nB b9)), (8, .int (nB b8)), (7, .int x7), (6, .int (nB b6)), (5, .int (nB b5)), (3, .int x3), (2, .int x2), (1, .int x1), (4, .int (nB b4)), (0, .ref 50)]) (st' := [.int 3, .int yy6]) (μ' := mGP μ yy13 yy10 f) (by rfl) ?_
                      have hJ14 : Z 0 818 [(12, .int 34), (10, .int (((0 + (nB (xT μ 31))) + (nB (xT μ 32))) + (nB (xT μ 33)))), (11, .int yy6), (9, .int (nB b9)), (8, .int (nB b8)), (7, .int x7), (6, .int (nB b6)), (5, .int (nB b5)), (3, .int x3), (2, .int x2), (1, .int x1), (4, .int (nB b4)), (0, .ref 50)] [] (mGP μ (yy13 ||| (lb ((decide (yy6 = 3)) && (!(decide ((μ.1 50 21) ≤ 26)) && (!(decide (31 ≤ (μ.1 50 21)))))) 35)) yy10 f) := by
                        generalize hyy15 : (yy13 ||| (lb ((decide (yy6 = 3)) && (!(decide ((μ.1 50 21) ≤ 26)) && (!(decide (31 ≤ (μ.1 50 21)))))) 35) : Int64) = yy15
                        refine z_rcs hc hH 2 (pc' := 821) (lv' := [(12, .int 34), (10, .int (((0 + (nB (xT μ 31))) + (nB (xT μ 32))) + (nB (xT μ 33)))), (11, .int yy6), (9, .int (nB b9)), (8, .int (nB b8)), (7, .int x7), (6, .int (nB b6)), (5, .int (nB b5)), (3, .int x3), (2, .int x2), (1, .int x1), (4, .int (nB b4)), (0, .ref 50)]) (st' := [.int 4, .int yy6]) (μ' := mGP μ yy15 yy10 f) (by rfl) ?_
                        have hJ16 : Z 0 838 [(12, .int 34), (10, .int (((0 + (nB (xT μ 31))) + (nB (xT μ 32))) + (nB (xT μ 33)))), (11, .int yy6), (9, .int (nB b9)), (8, .int (nB b8)), (7, .int x7), (6, .int (nB b6)), (5, .int (nB b5)), (3, .int x3), (2, .int x2), (1, .int x1), (4, .int (nB b4)), (0, .ref 50)] [] (mGP μ (yy15 ||| (lb (decide (yy6 = 4)) 36)) yy10 f) := by
                          refine z_rcs0 hc hH 2 (pc' := 840) (lv' := [(12, .int 34), (10, .int (((0 + (nB (xT μ 31))) + (nB (xT μ 32))) + (nB (xT μ 33)))), (11, .int yy6), (9, .int (nB b9)), (8, .int (nB b8)), (7, .int x7), (6, .int (nB b6)), (5, .int (nB b5)), (3, .int x3), (2, .int x2), (1, .int x1), (4, .int (nB b4)), (0, .ref 50)]) (st' := [.int 4, .int x3]) (by rfl) ?_
                          have hJ17 : Z 0 857 [(12, .int 34), (10, .int (((0 + (nB (xT μ 31))) + (nB (xT μ 32))) + (nB (xT μ 33)))), (11, .int yy6), (9, .int (nB b9)), (8, .int (nB b8)), (7, .int x7), (6, .int (nB b6)), (5, .int (nB b5)), (3, .int x3), (2, .int x2), (1, .int x1), (4, .int (nB b4)), (0, .ref 50)] [] (mGP μ ((yy15 ||| (lb (decide (yy6 = 4)) 36)) ||| (lb (decide (x3 = 4)) 41)) yy10 f) := by
                            refine z_rcs0 hc hH 1 (pc' := 858) (lv' := [(12, .int 34), (10, .int (((0 + (nB (xT μ 31))) + (nB (xT μ 32))) + (nB (xT μ 33)))), (11, .int yy6), (9, .int (nB b9)), (8, .int (nB b8)), (7, .int x7), (6, .int (nB b6)), (5, .int (nB b5)), (3, .int x3), (2, .int x2), (1, .int x1), (4, .int (nB b4)), (0, .ref 50)]) (st' := [.ref 50]) (by rfl) ?_
                            refine zq_call hc (z_cx_ok hH (by rfl)) (fb_X7_tiles d' (by omega) (mGP μ ((yy15 ||| (lb (decide (yy6 = 4)) 36)) ||| (lb (decide (x3 = 4)) 41)) yy10 f) q hq e4) (by decide +kernel) (fun r9 μ9 hq => ?_)
                            obtain ⟨rfl, rfl⟩ := hq
                            rw [mGP2]
                            rw [tF_mGP]
                            show Z 0 861 [(12, .int 34), (10, .int (((0 + (nB (xT μ 31))) + (nB (xT μ 32))) + (nB (xT μ 33)))), (11, .int yy6), (9, .int (nB b9)), (8, .int (nB b8)), (7, .int x7), (6, .int (nB b6)), (5, .int (nB b5)), (3, .int x3), (2, .int x2), (1, .int x1), (4, .int (nB b4)), (0, .ref 50)] [] (mGP μ (tlG μ ((yy15 ||| (lb (decide (yy6 = 4)) 36)) ||| (lb (decide (x3 = 4)) 41)) (tF μ q 34 0 t70)) (tlP μ yy10 (tF μ q 34 0 t70)) f)
                            subst hyy15
                            subst hyy13
                            subst hyy10
                            subst hyy6
                            exact K
                          refine zq_ic hc hH (by rfl) (tg := 857) (by rfl) (fun h18 => ?_) (fun h18 => ?_)
                          · have h18 : (decide (x3 = 4)) = false := decide_eq_false (cm_ne.mp h18)
                            exact zJ hJ17 rfl rfl (by simp only [h18, lb_f, Int64.or_zero, nB_t, nB_f, Bool.not_true, Bool.not_false, Bool.and_true, Bool.true_and, Bool.false_and, Bool.and_false, Bool.or_true, Bool.true_or, Bool.false_or, Bool.or_false, cond_true, cond_false])
                          · have h18 : (decide (x3 = 4)) = true := decide_eq_true (cn_ne.mp h18)
                            refine z_rcs hc hH 4 (pc' := 850) (lv' := [(12, .int 34), (10, .int (((0 + (nB (xT μ 31))) + (nB (xT μ 32))) + (nB (xT μ 33)))), (11, .int yy6), (9, .int (nB b9)), (8, .int (nB b8)), (7, .int x7), (6, .int (nB b6)), (5, .int (nB b5)), (3, .int x3), (2, .int x2), (1, .int x1), (4, .int (nB b4)), (0, .ref 50)]) (st' := [.int 41, .long (yy15 ||| (lb (decide (yy6 = 4)) 36)), .ref 50]) (μ' := mGP μ (yy15 ||| (lb (decide (yy6 = 4)) 36)) yy10 f) (by rfl) ?_
                            refine zq_call hc (z_cx_ok hH (by rfl)) (fb_X7_bit d' (by omega) (mGP μ (yy15 ||| (lb (decide (yy6 = 4)) 36)) yy10 f) 41) (by decide +kernel) (fun r9 μ9 hq => ?_)
                            obtain ⟨hμ9, rfl⟩ := hq
                            rw [hμ9]
                            clear hμ9 μ9
                            show Z 0 853 [(12, .int 34), (10, .int (((0 + (nB (xT μ 31))) + (nB (xT μ 32))) + (nB (xT μ 33)))), (11, .int yy6), (9, .int (nB b9)), (8, .int (nB b8)), (7, .int x7), (6, .int (nB b6)), (5, .int (nB b5)), (3, .int x3), (2, .int x2), (1, .int x1), (4, .int (nB b4)), (0, .ref 50)] [.long (lb true 41), .long (yy15 ||| (lb (decide (yy6 = 4)) 36)), .ref 50] _
                            refine z_rcs hc hH 2 (pc' := 857) (lv' := [(12, .int 34), (10, .int (((0 + (nB (xT μ 31))) + (nB (xT μ 32))) + (nB (xT μ 33)))), (11, .int yy6), (9, .int (nB b9)), (8, .int (nB b8)), (7, .int x7), (6, .int (nB b6)), (5, .int (nB b5)), (3, .int x3), (2, .int x2), (1, .int x1), (4, .int (nB b4)), (0, .ref 50)]) (st' := []) (μ' := z_uj (mGP μ (yy15 ||| (lb (decide (yy6 = 4)) 36)) yy10 f) 50 24 ((yy15 ||| (lb (decide (yy6 = 4)) 36)) ||| (lb true 41))) (by rfl) ?_
                            rw [mGP_g]
                            exact zJ hJ17 rfl rfl (by simp only [h18, lb_f, Int64.or_zero, nB_t, nB_f, Bool.not_true, Bool.not_false, Bool.and_true, Bool.true_and, Bool.false_and, Bool.and_false, Bool.or_true, Bool.true_or, Bool.false_or, Bool.or_false, cond_true, cond_false])
                        refine zq_ic hc hH (by rfl) (tg := 838) (by rfl) (fun h19 => ?_) (fun h19 => ?_)
                        · have h19 : (decide (yy6 = 4)) = false := decide_eq_false (cm_ne.mp h19)
                          exact zJ hJ16 rfl rfl (by simp only [h19, lb_f, Int64.or_zero, nB_t, nB_f, Bool.not_true, Bool.not_false, Bool.and_true, Bool.true_and, Bool.false_and, Bool.and_false, Bool.or_true, Bool.true_or, Bool.false_or, Bool.or_false, cond_true, cond_false])
                        · have h19 : (decide (yy6 = 4)) = true := decide_eq_true (cn_ne.mp h19)
                          refine z_rcs hc hH 4 (pc' := 831) (lv' := [(12, .int 34), (10, .int (((0 + (nB (xT μ 31))) + (nB (xT μ 32))) + (nB (xT μ 33)))), (11, .int yy6), (9, .int (nB b9)), (8, .int (nB b8)), (7, .int x7), (6, .int (nB b6)), (5, .int (nB b5)), (3, .int x3), (2, .int x2), (1, .int x1), (4, .int (nB b4)), (0, .ref 50)]) (st' := [.int 36, .long yy15, .ref 50]) (μ' := mGP μ yy15 yy10 f) (by rfl) ?_
                          refine zq_call hc (z_cx_ok hH (by rfl)) (fb_X7_bit d' (by omega) (mGP μ yy15 yy10 f) 36) (by decide +kernel) (fun r9 μ9 hq => ?_)
                          obtain ⟨hμ9, rfl⟩ := hq
                          rw [hμ9]
                          clear hμ9 μ9
                          show Z 0 834 [(12, .int 34), (10, .int (((0 + (nB (xT μ 31))) + (nB (xT μ 32))) + (nB (xT μ 33)))), (11, .int yy6), (9, .int (nB b9)), (8, .int (nB b8)), (7, .int x7), (6, .int (nB b6)), (5, .int (nB b5)), (3, .int x3), (2, .int x2), (1, .int x1), (4, .int (nB b4)), (0, .ref 50)] [.long (lb true 36), .long yy15, .ref 50] (mGP μ yy15 yy10 f)
                          refine z_rcs hc hH 2 (pc' := 838) (lv' := [(12, .int 34), (10, .int (((0 + (nB (xT μ 31))) + (nB (xT μ 32))) + (nB (xT μ 33)))), (11, .int yy6), (9, .int (nB b9)), (8, .int (nB b8)), (7, .int x7), (6, .int (nB b6)), (5, .int (nB b5)), (3, .int x3), (2, .int x2), (1, .int x1), (4, .int (nB b4)), (0, .ref 50)]) (st' := []) (μ' := z_uj (mGP μ yy15 yy10 f) 50 24 (yy15 ||| (lb true 36))) (by rfl) ?_
                          rw [mGP_g]
                          exact zJ hJ16 rfl rfl (by simp only [h19, lb_f, Int64.or_zero, nB_t, nB_f, Bool.not_true, Bool.not_false, Bool.and_true, Bool.true_and, Bool.false_and, Bool.and_false, Bool.or_true, Bool.true_or, Bool.false_or, Bool.or_false, cond_true, cond_false])
                      refine zq_ic hc hH (by rfl) (tg := 818) (by rfl) (fun h20 => ?_) (fun h20 => ?_)
                      · have h20 : (decide (yy6 = 3)) = false := decide_eq_false (cm_ne.mp h20)
                        exact zJ hJ14 rfl rfl (by simp only [h20, lb_f, Int64.or_zero, nB_t, nB_f, Bool.not_true, Bool.not_false, Bool.and_true, Bool.true_and, Bool.false_and, Bool.and_false, Bool.or_true, Bool.true_or, Bool.false_or, Bool.or_false, cond_true, cond_false])
                      · have h20 : (decide (yy6 = 3)) = true := decide_eq_true (cn_ne.mp h20)
                        refine z_rcs hc hH 3 (pc' := 792) (lv' := [(12, .int 34), (10, .int (((0 + (nB (xT μ 31))) + (nB (xT μ 32))) + (nB (xT μ 33)))), (11, .int yy6), (9, .int (nB b9)), (8, .int (nB b8)), (7, .int x7), (6, .int (nB b6)), (5, .int (nB b5)), (3, .int x3), (2, .int x2), (1, .int x1), (4, .int (nB b4)), (0, .ref 50)]) (st' := [.int 26, .int (μ.1 50 21)]) (μ' := mGP μ yy13 yy10 f) (by rfl) ?_
                        refine zq_ic hc hH (by rfl) (tg := 818) (by rfl) (fun h21 => ?_) (fun h21 => ?_)
                        · have h21 : (decide ((μ.1 50 21) ≤ 26)) = true := decide_eq_true (cm_le.mp h21)
                          exact zJ hJ14 rfl rfl (by simp only [h20, h21, lb_f, Int64.or_zero, nB_t, nB_f, Bool.not_true, Bool.not_false, Bool.and_true, Bool.true_and, Bool.false_and, Bool.and_false, Bool.or_true, Bool.true_or, Bool.false_or, Bool.or_false, cond_true, cond_false])
                        · have h21 : (decide ((μ.1 50 21) ≤ 26)) = false := decide_eq_false (cn_le.mp h21)
                          refine z_rcs hc hH 3 (pc' := 801) (lv' := [(12, .int 34), (10, .int (((0 + (nB (xT μ 31))) + (nB (xT μ 32))) + (nB (xT μ 33)))), (11, .int yy6), (9, .int (nB b9)), (8, .int (nB b8)), (7, .int x7), (6, .int (nB b6)), (5, .int (nB b5)), (3, .int x3), (2, .int x2), (1, .int x1), (4, .int (nB b4)), (0, .ref 50)]) (st' := [.int 31, .int (μ.1 50 21)]) (μ' := mGP μ yy13 yy10 f) (by rfl) ?_
                          refine zq_ic hc hH (by rfl) (tg := 818) (by rfl) (fun h22 => ?_) (fun h22 => ?_)
                          · have h22 : (decide (31 ≤ (μ.1 50 21))) = true := decide_eq_true (cm_ge.mp h22)
                            exact zJ hJ14 rfl rfl (by simp only [h20, h21, h22, lb_f, Int64.or_zero, nB_t, nB_f, Bool.not_true, Bool.not_false, Bool.and_true, Bool.true_and, Bool.false_and, Bool.and_false, Bool.or_true, Bool.true_or, Bool.false_or, Bool.or_false, cond_true, cond_false])
                          · have h22 : (decide (31 ≤ (μ.1 50 21))) = false := decide_eq_false (cn_ge.mp h22)
                            refine z_rcs hc hH 4 (pc' := 811) (lv' := [(12, .int 34), (10, .int (((0 + (nB (xT μ 31))) + (nB (xT μ 32))) + (nB (xT μ 33)))), (11, .int yy6), (9, .int (nB b9)), (8, .int (nB b8)), (7, .int x7), (6, .int (nB b6)), (5, .int (nB b5)), (3, .int x3), (2, .int x2), (1, .int x1), (4, .int (nB b4)), (0, .ref 50)]) (st' := [.int 35, .long yy13, .ref 50]) (μ' := mGP μ yy13 yy10 f) (by rfl) ?_
                            refine zq_call hc (z_cx_ok hH (by rfl)) (fb_X7_bit d' (by omega) (mGP μ yy13 yy10 f) 35) (by decide +kernel) (fun r9 μ9 hq => ?_)
                            obtain ⟨hμ9, rfl⟩ := hq
                            rw [hμ9]
                            clear hμ9 μ9
                            show Z 0 814 [(12, .int 34), (10, .int (((0 + (nB (xT μ 31))) + (nB (xT μ 32))) + (nB (xT μ 33)))), (11, .int yy6), (9, .int (nB b9)), (8, .int (nB b8)), (7, .int x7), (6, .int (nB b6)), (5, .int (nB b5)), (3, .int x3), (2, .int x2), (1, .int x1), (4, .int (nB b4)), (0, .ref 50)] [.long (lb true 35), .long yy13, .ref 50] (mGP μ yy13 yy10 f)
                            refine z_rcs hc hH 2 (pc' := 818) (lv' := [(12, .int 34), (10, .int (((0 + (nB (xT μ 31))) + (nB (xT μ 32))) + (nB (xT μ 33)))), (11, .int yy6), (9, .int (nB b9)), (8, .int (nB b8)), (7, .int x7), (6, .int (nB b6)), (5, .int (nB b5)), (3, .int x3), (2, .int x2), (1, .int x1), (4, .int (nB b4)), (0, .ref 50)]) (st' := []) (μ' := z_uj (mGP μ yy13 yy10 f) 50 24 (yy13 ||| (lb true 35))) (by rfl) ?_
                            rw [mGP_g]
                            exact zJ hJ14 rfl rfl (by simp only [h20, h21, h22, lb_f, Int64.or_zero, nB_t, nB_f, Bool.not_true, Bool.not_false, Bool.and_true, Bool.true_and, Bool.false_and, Bool.and_false, Bool.or_true, Bool.true_or, Bool.false_or, Bool.or_false, cond_true, cond_false])
                    refine zq_ic hc hH (by rfl) (tg := 780) (by rfl) (fun h23 => ?_) (fun h23 => ?_)
                    · have h23 : (decide ((((0 + (nB (xT μ 31))) + (nB (xT μ 32))) + (nB (xT μ 33))) = 3)) = false := decide_eq_false (cm_ne.mp h23)
                      exact zJ hJ12 rfl rfl (by simp only [h23, lb_f, Int64.or_zero, nB_t, nB_f, Bool.not_true, Bool.not_false, Bool.and_true, Bool.true_and, Bool.false_and, Bool.and_false, Bool.or_true, Bool.true_or, Bool.false_or, Bool.or_false, cond_true, cond_false])
                    · have h23 : (decide ((((0 + (nB (xT μ 31))) + (nB (xT μ 32))) + (nB (xT μ 33))) = 3)) = true := decide_eq_true (cn_ne.mp h23)
                      refine z_rcs hc hH 4 (pc' := 773) (lv' := [(12, .int 34), (10, .int (((0 + (nB (xT μ 31))) + (nB (xT μ 32))) + (nB (xT μ 33)))), (11, .int yy6), (9, .int (nB b9)), (8, .int (nB b8)), (7, .int x7), (6, .int (nB b6)), (5, .int (nB b5)), (3, .int x3), (2, .int x2), (1, .int x1), (4, .int (nB b4)), (0, .ref 50)]) (st' := [.int 34, .long (g ||| (lb (decide (x2 = 4)) 33)), .ref 50]) (μ' := mGP μ (g ||| (lb (decide (x2 = 4)) 33)) yy10 f) (by rfl) ?_
                      refine zq_call hc (z_cx_ok hH (by rfl)) (fb_X7_bit d' (by omega) (mGP μ (g ||| (lb (decide (x2 = 4)) 33)) yy10 f) 34) (by decide +kernel) (fun r9 μ9 hq => ?_)
                      obtain ⟨hμ9, rfl⟩ := hq
                      rw [hμ9]
                      clear hμ9 μ9
                      show Z 0 776 [(12, .int 34), (10, .int (((0 + (nB (xT μ 31))) + (nB (xT μ 32))) + (nB (xT μ 33)))), (11, .int yy6), (9, .int (nB b9)), (8, .int (nB b8)), (7, .int x7), (6, .int (nB b6)), (5, .int (nB b5)), (3, .int x3), (2, .int x2), (1, .int x1), (4, .int (nB b4)), (0, .ref 50)] [.long (lb true 34), .long (g ||| (lb (decide (x2 = 4)) 33)), .ref 50] _
                      refine z_rcs hc hH 2 (pc' := 780) (lv' := [(12, .int 34), (10, .int (((0 + (nB (xT μ 31))) + (nB (xT μ 32))) + (nB (xT μ 33)))), (11, .int yy6), (9, .int (nB b9)), (8, .int (nB b8)), (7, .int x7), (6, .int (nB b6)), (5, .int (nB b5)), (3, .int x3), (2, .int x2), (1, .int x1), (4, .int (nB b4)), (0, .ref 50)]) (st' := []) (μ' := z_uj (mGP μ (g ||| (lb (decide (x2 = 4)) 33)) yy10 f) 50 24 ((g ||| (lb (decide (x2 = 4)) 33)) ||| (lb true 34))) (by rfl) ?_
                      rw [mGP_g]
                      exact zJ hJ12 rfl rfl (by simp only [h23, lb_f, Int64.or_zero, nB_t, nB_f, Bool.not_true, Bool.not_false, Bool.and_true, Bool.true_and, Bool.false_and, Bool.and_false, Bool.or_true, Bool.true_or, Bool.false_or, Bool.or_false, cond_true, cond_false])
                  refine zq_ic hc hH (by rfl) (tg := 760) (by rfl) (fun h24 => ?_) (fun h24 => ?_)
                  · have h24 : (decide (x2 = 4)) = false := decide_eq_false (cm_ne.mp h24)
                    exact zJ hJ11 rfl rfl (by simp only [h24, lb_f, Int64.or_zero, nB_t, nB_f, Bool.not_true, Bool.not_false, Bool.and_true, Bool.true_and, Bool.false_and, Bool.and_false, Bool.or_true, Bool.true_or, Bool.false_or, Bool.or_false, cond_true, cond_false])
                  · have h24 : (decide (x2 = 4)) = true := decide_eq_true (cn_ne.mp h24)
                    refine z_rcs hc hH 4 (pc' := 753) (lv' := [(12, .int 34), (10, .int (((0 + (nB (xT μ 31))) + (nB (xT μ 32))) + (nB (xT μ 33)))), (11, .int yy6), (9, .int (nB b9)), (8, .int (nB b8)), (7, .int x7), (6, .int (nB b6)), (5, .int (nB b5)), (3, .int x3), (2, .int x2), (1, .int x1), (4, .int (nB b4)), (0, .ref 50)]) (st' := [.int 33, .long g, .ref 50]) (μ' := mGP μ g yy10 f) (by rfl) ?_
                    refine zq_call hc (z_cx_ok hH (by rfl)) (fb_X7_bit d' (by omega) (mGP μ g yy10 f) 33) (by decide +kernel) (fun r9 μ9 hq => ?_)
                    obtain ⟨hμ9, rfl⟩ := hq
                    rw [hμ9]
                    clear hμ9 μ9
                    show Z 0 756 [(12, .int 34), (10, .int (((0 + (nB (xT μ 31))) + (nB (xT μ 32))) + (nB (xT μ 33)))), (11, .int yy6), (9, .int (nB b9)), (8, .int (nB b8)), (7, .int x7), (6, .int (nB b6)), (5, .int (nB b5)), (3, .int x3), (2, .int x2), (1, .int x1), (4, .int (nB b4)), (0, .ref 50)] [.long (lb true 33), .long g, .ref 50] (mGP μ g yy10 f)
                    refine z_rcs hc hH 2 (pc' := 760) (lv' := [(12, .int 34), (10, .int (((0 + (nB (xT μ 31))) + (nB (xT μ 32))) + (nB (xT μ 33)))), (11, .int yy6), (9, .int (nB b9)), (8, .int (nB b8)), (7, .int x7), (6, .int (nB b6)), (5, .int (nB b5)), (3, .int x3), (2, .int x2), (1, .int x1), (4, .int (nB b4)), (0, .ref 50)]) (st' := []) (μ' := z_uj (mGP μ g yy10 f) 50 24 (g ||| (lb true 33))) (by rfl) ?_
                    rw [mGP_g]
                    exact zJ hJ11 rfl rfl (by simp only [h24, lb_f, Int64.or_zero, nB_t, nB_f, Bool.not_true, Bool.not_false, Bool.and_true, Bool.true_and, Bool.false_and, Bool.and_false, Bool.or_true, Bool.true_or, Bool.false_or, Bool.or_false, cond_true, cond_false])
                refine zq_ic hc hH (by rfl) (tg := 741) (by rfl) (fun h25 => ?_) (fun h25 => ?_)
                · have h25 : (decide ((((0 + (nB (xT μ 31))) + (nB (xT μ 32))) + (nB (xT μ 33))) = 2)) = false := decide_eq_false (cm_ne.mp h25)
                  exact zJ hJ9 rfl rfl (by simp only [h25, lb_f, Int64.or_zero, nB_t, nB_f, Bool.not_true, Bool.not_false, Bool.and_true, Bool.true_and, Bool.false_and, Bool.and_false, Bool.or_true, Bool.true_or, Bool.false_or, Bool.or_false, cond_true, cond_false])
                · have h25 : (decide ((((0 + (nB (xT μ 31))) + (nB (xT μ 32))) + (nB (xT μ 33))) = 2)) = true := decide_eq_true (cn_ne.mp h25)
                  refine z_rcs hc hH 2 (pc' := 721) (lv' := [(12, .int 34), (10, .int (((0 + (nB (xT μ 31))) + (nB (xT μ 32))) + (nB (xT μ 33)))), (11, .int yy6), (9, .int (nB b9)), (8, .int (nB b8)), (7, .int x7), (6, .int (nB b6)), (5, .int (nB b5)), (3, .int x3), (2, .int x2), (1, .int x1), (4, .int (nB b4)), (0, .ref 50)]) (st' := [.int (μ.1 50 21)]) (μ' := mGP μ g p f) (by rfl) ?_
                  refine zq_call hc (z_cx_ok hH (by rfl)) (fb_X7_isDragon d' (by omega) (mGP μ g p f) (μ.1 50 21)) (by decide +kernel) (fun r9 μ9 hq => ?_)
                  obtain ⟨hμ9, rfl⟩ := hq
                  rw [hμ9]
                  clear hμ9 μ9
                  show Z 0 724 [(12, .int 34), (10, .int (((0 + (nB (xT μ 31))) + (nB (xT μ 32))) + (nB (xT μ 33)))), (11, .int yy6), (9, .int (nB b9)), (8, .int (nB b8)), (7, .int x7), (6, .int (nB b6)), (5, .int (nB b5)), (3, .int x3), (2, .int x2), (1, .int x1), (4, .int (nB b4)), (0, .ref 50)] [.int (nB (xDr (μ.1 50 21)))] (mGP μ g p f)
                  refine zq_if hc hH (by rfl) (tg := 741) (by rfl) (fun h26 => ?_) (fun h26 => ?_)
                  · have h26 : (xDr (μ.1 50 21)) = false := nB_z.mp (cm_eq9.mp h26)
                    exact zJ hJ9 rfl rfl (by simp only [h25, h26, lb_f, Int64.or_zero, nB_t, nB_f, Bool.not_true, Bool.not_false, Bool.and_true, Bool.true_and, Bool.false_and, Bool.and_false, Bool.or_true, Bool.true_or, Bool.false_or, Bool.or_false, cond_true, cond_false])
                  · have h26 : (xDr (μ.1 50 21)) = true := nB_n.mp (cn_eq.mp h26)
                    refine z_rcs hc hH 4 (pc' := 734) (lv' := [(12, .int 34), (10, .int (((0 + (nB (xT μ 31))) + (nB (xT μ 32))) + (nB (xT μ 33)))), (11, .int yy6), (9, .int (nB b9)), (8, .int (nB b8)), (7, .int x7), (6, .int (nB b6)), (5, .int (nB b5)), (3, .int x3), (2, .int x2), (1, .int x1), (4, .int (nB b4)), (0, .ref 50)]) (st' := [.int 25, .long p, .ref 50]) (μ' := mGP μ g p f) (by rfl) ?_
                    refine zq_call hc (z_cx_ok hH (by rfl)) (fb_X7_bit d' (by omega) (mGP μ g p f) 25) (by decide +kernel) (fun r9 μ9 hq => ?_)
                    obtain ⟨hμ9, rfl⟩ := hq
                    rw [hμ9]
                    clear hμ9 μ9
                    show Z 0 737 [(12, .int 34), (10, .int (((0 + (nB (xT μ 31))) + (nB (xT μ 32))) + (nB (xT μ 33)))), (11, .int yy6), (9, .int (nB b9)), (8, .int (nB b8)), (7, .int x7), (6, .int (nB b6)), (5, .int (nB b5)), (3, .int x3), (2, .int x2), (1, .int x1), (4, .int (nB b4)), (0, .ref 50)] [.long (lb true 25), .long p, .ref 50] (mGP μ g p f)
                    refine z_rcs hc hH 2 (pc' := 741) (lv' := [(12, .int 34), (10, .int (((0 + (nB (xT μ 31))) + (nB (xT μ 32))) + (nB (xT μ 33)))), (11, .int yy6), (9, .int (nB b9)), (8, .int (nB b8)), (7, .int x7), (6, .int (nB b6)), (5, .int (nB b5)), (3, .int x3), (2, .int x2), (1, .int x1), (4, .int (nB b4)), (0, .ref 50)]) (st' := []) (μ' := z_uj (mGP μ g p f) 50 25 (p ||| (lb true 25))) (by rfl) ?_
                    rw [mGP_p]
                    exact zJ hJ9 rfl rfl (by simp only [h25, h26, lb_f, Int64.or_zero, nB_t, nB_f, Bool.not_true, Bool.not_false, Bool.and_true, Bool.true_and, Bool.false_and, Bool.and_false, Bool.or_true, Bool.true_or, Bool.false_or, Bool.or_false, cond_true, cond_false])
              refine zq_if hc hH (by rfl) (tg := 679) (by rfl) (fun h27 => ?_) (fun h27 => ?_)
              · have h27 : (xT μ 33) = false := nB_z.mp (cm_eq9.mp h27)
                refine z_rcs hc hH 1 (pc' := 680) (lv' := [(12, .int 33), (10, .int ((0 + (nB (xT μ 31))) + (nB (xT μ 32)))), (11, .int yy6), (9, .int (nB b9)), (8, .int (nB b8)), (7, .int x7), (6, .int (nB b6)), (5, .int (nB b5)), (3, .int x3), (2, .int x2), (1, .int x1), (4, .int (nB b4)), (0, .ref 50)]) (st' := [.int 0, .int ((0 + (nB (xT μ 31))) + (nB (xT μ 32)))]) (μ' := mGP μ g p f) (by rfl) ?_
                exact zJ hJ8 rfl (by simp only [h27, lb_f, Int64.or_zero, nB_t, nB_f, Bool.not_true, Bool.not_false, Bool.and_true, Bool.true_and, Bool.false_and, Bool.and_false, Bool.or_true, Bool.true_or, Bool.false_or, Bool.or_false, cond_true, cond_false]) rfl
              · have h27 : (xT μ 33) = true := nB_n.mp (cn_eq.mp h27)
                refine z_rcs hc hH 2 (pc' := 680) (lv' := [(12, .int 33), (10, .int ((0 + (nB (xT μ 31))) + (nB (xT μ 32)))), (11, .int yy6), (9, .int (nB b9)), (8, .int (nB b8)), (7, .int x7), (6, .int (nB b6)), (5, .int (nB b5)), (3, .int x3), (2, .int x2), (1, .int x1), (4, .int (nB b4)), (0, .ref 50)]) (st' := [.int 1, .int ((0 + (nB (xT μ 31))) + (nB (xT μ 32)))]) (μ' := mGP μ g p f) (by rfl) ?_
                exact zJ hJ8 rfl (by simp only [h27, lb_f, Int64.or_zero, nB_t, nB_f, Bool.not_true, Bool.not_false, Bool.and_true, Bool.true_and, Bool.false_and, Bool.and_false, Bool.or_true, Bool.true_or, Bool.false_or, Bool.or_false, cond_true, cond_false]) rfl
            refine zq_if hc hH (by rfl) (tg := 679) (by rfl) (fun h28 => ?_) (fun h28 => ?_)
            · have h28 : (xT μ 32) = false := nB_z.mp (cm_eq9.mp h28)
              refine z_rcs hc hH 1 (pc' := 680) (lv' := [(12, .int 32), (10, .int (0 + (nB (xT μ 31)))), (11, .int yy6), (9, .int (nB b9)), (8, .int (nB b8)), (7, .int x7), (6, .int (nB b6)), (5, .int (nB b5)), (3, .int x3), (2, .int x2), (1, .int x1), (4, .int (nB b4)), (0, .ref 50)]) (st' := [.int 0, .int (0 + (nB (xT μ 31)))]) (μ' := mGP μ g p f) (by rfl) ?_
              exact zJ hJ7 rfl (by simp only [h28, lb_f, Int64.or_zero, nB_t, nB_f, Bool.not_true, Bool.not_false, Bool.and_true, Bool.true_and, Bool.false_and, Bool.and_false, Bool.or_true, Bool.true_or, Bool.false_or, Bool.or_false, cond_true, cond_false]) rfl
            · have h28 : (xT μ 32) = true := nB_n.mp (cn_eq.mp h28)
              refine z_rcs hc hH 2 (pc' := 680) (lv' := [(12, .int 32), (10, .int (0 + (nB (xT μ 31)))), (11, .int yy6), (9, .int (nB b9)), (8, .int (nB b8)), (7, .int x7), (6, .int (nB b6)), (5, .int (nB b5)), (3, .int x3), (2, .int x2), (1, .int x1), (4, .int (nB b4)), (0, .ref 50)]) (st' := [.int 1, .int (0 + (nB (xT μ 31)))]) (μ' := mGP μ g p f) (by rfl) ?_
              exact zJ hJ7 rfl (by simp only [h28, lb_f, Int64.or_zero, nB_t, nB_f, Bool.not_true, Bool.not_false, Bool.and_true, Bool.true_and, Bool.false_and, Bool.and_false, Bool.or_true, Bool.true_or, Bool.false_or, Bool.or_false, cond_true, cond_false]) rfl
          refine zq_if hc hH (by rfl) (tg := 679) (by rfl) (fun h29 => ?_) (fun h29 => ?_)
          · have h29 : (xT μ 31) = false := nB_z.mp (cm_eq9.mp h29)
            refine z_rcs hc hH 1 (pc' := 680) (lv' := [(12, .int 31), (11, .int ((((0 + (nB (xT μ 27))) + (nB (xT μ 28))) + (nB (xT μ 29))) + (nB (xT μ 30)))), (10, .int 0), (9, .int (nB b9)), (8, .int (nB b8)), (7, .int x7), (6, .int (nB b6)), (5, .int (nB b5)), (3, .int x3), (2, .int x2), (1, .int x1), (4, .int (nB b4)), (0, .ref 50)]) (st' := [.int 0, .int 0]) (μ' := mGP μ g p f) (by rfl) ?_
            exact zJ hJ5 rfl (by simp only [h29, lb_f, Int64.or_zero, nB_t, nB_f, Bool.not_true, Bool.not_false, Bool.and_true, Bool.true_and, Bool.false_and, Bool.and_false, Bool.or_true, Bool.true_or, Bool.false_or, Bool.or_false, cond_true, cond_false]) rfl
          · have h29 : (xT μ 31) = true := nB_n.mp (cn_eq.mp h29)
            refine z_rcs hc hH 2 (pc' := 680) (lv' := [(12, .int 31), (11, .int ((((0 + (nB (xT μ 27))) + (nB (xT μ 28))) + (nB (xT μ 29))) + (nB (xT μ 30)))), (10, .int 0), (9, .int (nB b9)), (8, .int (nB b8)), (7, .int x7), (6, .int (nB b6)), (5, .int (nB b5)), (3, .int x3), (2, .int x2), (1, .int x1), (4, .int (nB b4)), (0, .ref 50)]) (st' := [.int 1, .int 0]) (μ' := mGP μ g p f) (by rfl) ?_
            exact zJ hJ5 rfl (by simp only [h29, lb_f, Int64.or_zero, nB_t, nB_f, Bool.not_true, Bool.not_false, Bool.and_true, Bool.true_and, Bool.false_and, Bool.and_false, Bool.or_true, Bool.true_or, Bool.false_or, Bool.or_false, cond_true, cond_false]) rfl
        refine zq_if hc hH (by rfl) (tg := 701) (by rfl) (fun h30 => ?_) (fun h30 => ?_)
        · have h30 : (xT μ 30) = false := nB_z.mp (cm_eq9.mp h30)
          refine z_rcs hc hH 1 (pc' := 702) (lv' := [(12, .int 30), (11, .int (((0 + (nB (xT μ 27))) + (nB (xT μ 28))) + (nB (xT μ 29)))), (10, .int 0), (9, .int (nB b9)), (8, .int (nB b8)), (7, .int x7), (6, .int (nB b6)), (5, .int (nB b5)), (3, .int x3), (2, .int x2), (1, .int x1), (4, .int (nB b4)), (0, .ref 50)]) (st' := [.int 0, .int (((0 + (nB (xT μ 27))) + (nB (xT μ 28))) + (nB (xT μ 29)))]) (μ' := mGP μ g p f) (by rfl) ?_
          exact zJ hJ4 rfl (by simp only [h30, lb_f, Int64.or_zero, nB_t, nB_f, Bool.not_true, Bool.not_false, Bool.and_true, Bool.true_and, Bool.false_and, Bool.and_false, Bool.or_true, Bool.true_or, Bool.false_or, Bool.or_false, cond_true, cond_false]) rfl
        · have h30 : (xT μ 30) = true := nB_n.mp (cn_eq.mp h30)
          refine z_rcs hc hH 2 (pc' := 702) (lv' := [(12, .int 30), (11, .int (((0 + (nB (xT μ 27))) + (nB (xT μ 28))) + (nB (xT μ 29)))), (10, .int 0), (9, .int (nB b9)), (8, .int (nB b8)), (7, .int x7), (6, .int (nB b6)), (5, .int (nB b5)), (3, .int x3), (2, .int x2), (1, .int x1), (4, .int (nB b4)), (0, .ref 50)]) (st' := [.int 1, .int (((0 + (nB (xT μ 27))) + (nB (xT μ 28))) + (nB (xT μ 29)))]) (μ' := mGP μ g p f) (by rfl) ?_
          exact zJ hJ4 rfl (by simp only [h30, lb_f, Int64.or_zero, nB_t, nB_f, Bool.not_true, Bool.not_false, Bool.and_true, Bool.true_and, Bool.false_and, Bool.and_false, Bool.or_true, Bool.true_or, Bool.false_or, Bool.or_false, cond_true, cond_false]) rfl
      refine zq_if hc hH (by rfl) (tg := 701) (by rfl) (fun h31 => ?_) (fun h31 => ?_)
      · have h31 : (xT μ 29) = false := nB_z.mp (cm_eq9.mp h31)
        refine z_rcs hc hH 1 (pc' := 702) (lv' := [(12, .int 29), (11, .int ((0 + (nB (xT μ 27))) + (nB (xT μ 28)))), (10, .int 0), (9, .int (nB b9)), (8, .int (nB b8)), (7, .int x7), (6, .int (nB b6)), (5, .int (nB b5)), (3, .int x3), (2, .int x2), (1, .int x1), (4, .int (nB b4)), (0, .ref 50)]) (st' := [.int 0, .int ((0 + (nB (xT μ 27))) + (nB (xT μ 28)))]) (μ' := mGP μ g p f) (by rfl) ?_
        exact zJ hJ3 rfl (by simp only [h31, lb_f, Int64.or_zero, nB_t, nB_f, Bool.not_true, Bool.not_false, Bool.and_true, Bool.true_and, Bool.false_and, Bool.and_false, Bool.or_true, Bool.true_or, Bool.false_or, Bool.or_false, cond_true, cond_false]) rfl
      · have h31 : (xT μ 29) = true := nB_n.mp (cn_eq.mp h31)
        refine z_rcs hc hH 2 (pc' := 702) (lv' := [(12, .int 29), (11, .int ((0 + (nB (xT μ 27))) + (nB (xT μ 28)))), (10, .int 0), (9, .int (nB b9)), (8, .int (nB b8)), (7, .int x7), (6, .int (nB b6)), (5, .int (nB b5)), (3, .int x3), (2, .int x2), (1, .int x1), (4, .int (nB b4)), (0, .ref 50)]) (st' := [.int 1, .int ((0 + (nB (xT μ 27))) + (nB (xT μ 28)))]) (μ' := mGP μ g p f) (by rfl) ?_
        exact zJ hJ3 rfl (by simp only [h31, lb_f, Int64.or_zero, nB_t, nB_f, Bool.not_true, Bool.not_false, Bool.and_true, Bool.true_and, Bool.false_and, Bool.and_false, Bool.or_true, Bool.true_or, Bool.false_or, Bool.or_false, cond_true, cond_false]) rfl
    refine zq_if hc hH (by rfl) (tg := 701) (by rfl) (fun h32 => ?_) (fun h32 => ?_)
    · have h32 : (xT μ 28) = false := nB_z.mp (cm_eq9.mp h32)
      refine z_rcs hc hH 1 (pc' := 702) (lv' := [(12, .int 28), (11, .int (0 + (nB (xT μ 27)))), (10, .int 0), (9, .int (nB b9)), (8, .int (nB b8)), (7, .int x7), (6, .int (nB b6)), (5, .int (nB b5)), (3, .int x3), (2, .int x2), (1, .int x1), (4, .int (nB b4)), (0, .ref 50)]) (st' := [.int 0, .int (0 + (nB (xT μ 27)))]) (μ' := mGP μ g p f) (by rfl) ?_
      exact zJ hJ2 rfl (by simp only [h32, lb_f, Int64.or_zero, nB_t, nB_f, Bool.not_true, Bool.not_false, Bool.and_true, Bool.true_and, Bool.false_and, Bool.and_false, Bool.or_true, Bool.true_or, Bool.false_or, Bool.or_false, cond_true, cond_false]) rfl
    · have h32 : (xT μ 28) = true := nB_n.mp (cn_eq.mp h32)
      refine z_rcs hc hH 2 (pc' := 702) (lv' := [(12, .int 28), (11, .int (0 + (nB (xT μ 27)))), (10, .int 0), (9, .int (nB b9)), (8, .int (nB b8)), (7, .int x7), (6, .int (nB b6)), (5, .int (nB b5)), (3, .int x3), (2, .int x2), (1, .int x1), (4, .int (nB b4)), (0, .ref 50)]) (st' := [.int 1, .int (0 + (nB (xT μ 27)))]) (μ' := mGP μ g p f) (by rfl) ?_
      exact zJ hJ2 rfl (by simp only [h32, lb_f, Int64.or_zero, nB_t, nB_f, Bool.not_true, Bool.not_false, Bool.and_true, Bool.true_and, Bool.false_and, Bool.and_false, Bool.or_true, Bool.true_or, Bool.false_or, Bool.or_false, cond_true, cond_false]) rfl
  refine zq_if hc hH (by rfl) (tg := 701) (by rfl) (fun h33 => ?_) (fun h33 => ?_)
  · have h33 : (xT μ 27) = false := nB_z.mp (cm_eq9.mp h33)
    refine z_rcs hc hH 1 (pc' := 702) (lv' := [(12, .int 27), (11, .int 0), (10, .int 0), (9, .int (nB b9)), (8, .int (nB b8)), (7, .int x7), (6, .int (nB b6)), (5, .int (nB b5)), (3, .int x3), (2, .int x2), (1, .int x1), (4, .int (nB b4)), (0, .ref 50)]) (st' := [.int 0, .int 0]) (μ' := mGP μ g p f) (by rfl) ?_
    exact zJ hJ1 rfl (by simp only [h33, lb_f, Int64.or_zero, nB_t, nB_f, Bool.not_true, Bool.not_false, Bool.and_true, Bool.true_and, Bool.false_and, Bool.and_false, Bool.or_true, Bool.true_or, Bool.false_or, Bool.or_false, cond_true, cond_false]) rfl
  · have h33 : (xT μ 27) = true := nB_n.mp (cn_eq.mp h33)
    refine z_rcs hc hH 2 (pc' := 702) (lv' := [(12, .int 27), (11, .int 0), (10, .int 0), (9, .int (nB b9)), (8, .int (nB b8)), (7, .int x7), (6, .int (nB b6)), (5, .int (nB b5)), (3, .int x3), (2, .int x2), (1, .int x1), (4, .int (nB b4)), (0, .ref 50)]) (st' := [.int 1, .int 0]) (μ' := mGP μ g p f) (by rfl) ?_
    exact zJ hJ1 rfl (by simp only [h33, lb_f, Int64.or_zero, nB_t, nB_f, Bool.not_true, Bool.not_false, Bool.and_true, Bool.true_and, Bool.false_and, Bool.and_false, Bool.or_true, Bool.true_or, Bool.false_or, Bool.or_false, cond_true, cond_false]) rfl
theorem fs861 (d' : Nat) (Z : zK) (hd : 4 ≤ d') (μ : zM) (q : Nat) (hq : q ≤ 4) (e4 : μ.1 50 4 = nI q) (s l : Nat → Nat) (hA : AY μ s l) (hco : vp_in (μ.1 50 22) 5) (hc : z_clo z_x0 mi_X7_firstSort (z_C d') Z) (x10 : Int32) (x11 : Int32) (b9 : Bool) (b8 : Bool) (x7 : Int32) (b6 : Bool) (b5 : Bool) (x3 : Int32) (x2 : Int32) (x1 : Int32) (b4 : Bool) (g p : Int64) (f : Int32) (K : Z 0 889 [(12, .int 0), (10, .int x10), (11, .int x11), (9, .int (nB b9)), (8, .int (nB b8)), (7, .int x7), (6, .int (nB b6)), (5, .int (nB b5)), (3, .int x3), (2, .int x2), (1, .int x1), (4, .int (nB b4)), (0, .ref 50)] [] (mGP μ g p (20 + (bif decide ((μ.1 50 11) = 0) then bif b4 then (0 : Int32) else 10 else 0)))) : Z 0 861 [(12, .int 34), (10, .int x10), (11, .int x11), (9, .int (nB b9)), (8, .int (nB b8)), (7, .int x7), (6, .int (nB b6)), (5, .int (nB b5)), (3, .int x3), (2, .int x2), (1, .int x1), (4, .int (nB b4)), (0, .ref 50)] [] (mGP μ g p f) := by
  have hH : zH mi_X7_firstSort zt_X7_firstSort 79 7 14 := hh_X7_firstSort
  refine z_rcs hc hH 4 (pc' := 868) (lv' := [(12, .int 34), (10, .int x10), (11, .int x11), (9, .int (nB b9)), (8, .int (nB b8)), (7, .int x7), (6, .int (nB b6)), (5, .int (nB b5)), (3, .int x3), (2, .int x2), (1, .int x1), (4, .int (nB b4)), (0, .ref 50)]) (st' := [.int (μ.1 50 11), .int 20, .ref 50]) (μ' := mGP μ g p f) (by rfl) ?_
  have hJ1 : Z 0 882 [(12, .int 34), (10, .int x10), (11, .int x11), (9, .int (nB b9)), (8, .int (nB b8)), (7, .int x7), (6, .int (nB b6)), (5, .int (nB b5)), (3, .int x3), (2, .int x2), (1, .int x1), (4, .int (nB b4)), (0, .ref 50)] [.int (bif decide ((μ.1 50 11) = 0) then bif b4 then (0 : Int32) else 10 else 0), .int 20, .ref 50] (mGP μ g p f) := by
    generalize hyy2 : (bif decide ((μ.1 50 11) = 0) then bif b4 then (0 : Int32) else 10 else 0 : Int32) = yy2
    refine z_rcs hc hH 2 (pc' := 886) (lv' := [(12, .int 34), (10, .int x10), (11, .int x11), (9, .int (nB b9)), (8, .int (nB b8)), (7, .int x7), (6, .int (nB b6)), (5, .int (nB b5)), (3, .int x3), (2, .int x2), (1, .int x1), (4, .int (nB b4)), (0, .ref 50)]) (st' := []) (μ' := z_ui (mGP μ g p f) 50 23 (20 + yy2)) (by rfl) ?_
    rw [mGP_f]
    refine z_rcs hc hH 2 (pc' := 889) (lv' := [(12, .int 0), (10, .int x10), (11, .int x11), (9, .int (nB b9)), (8, .int (nB b8)), (7, .int x7), (6, .int (nB b6)), (5, .int (nB b5)), (3, .int x3), (2, .int x2), (1, .int x1), (4, .int (nB b4)), (0, .ref 50)]) (st' := []) (μ' := mGP μ g p (20 + yy2)) (by rfl) ?_
    subst hyy2
    exact K
  refine zq_if hc hH (by rfl) (tg := 881) (by rfl) (fun h3 => ?_) (fun h3 => ?_)
  · have h3 : (decide ((μ.1 50 11) = 0)) = false := decide_eq_false (cm_ne.mp h3)
    refine z_rcs hc hH 1 (pc' := 882) (lv' := [(12, .int 34), (10, .int x10), (11, .int x11), (9, .int (nB b9)), (8, .int (nB b8)), (7, .int x7), (6, .int (nB b6)), (5, .int (nB b5)), (3, .int x3), (2, .int x2), (1, .int x1), (4, .int (nB b4)), (0, .ref 50)]) (st' := [.int 0, .int 20, .ref 50]) (μ' := mGP μ g p f) (by rfl) ?_
    exact zJ hJ1 rfl (by simp only [h3, lb_f, Int64.or_zero, nB_t, nB_f, Bool.not_true, Bool.not_false, Bool.and_true, Bool.true_and, Bool.false_and, Bool.and_false, Bool.or_true, Bool.true_or, Bool.false_or, Bool.or_false, cond_true, cond_false]) rfl
  · have h3 : (decide ((μ.1 50 11) = 0)) = true := decide_eq_true (cn_ne.mp h3)
    refine z_rcs hc hH 1 (pc' := 873) (lv' := [(12, .int 34), (10, .int x10), (11, .int x11), (9, .int (nB b9)), (8, .int (nB b8)), (7, .int x7), (6, .int (nB b6)), (5, .int (nB b5)), (3, .int x3), (2, .int x2), (1, .int x1), (4, .int (nB b4)), (0, .ref 50)]) (st' := [.int (nB b4), .int 20, .ref 50]) (μ' := mGP μ g p f) (by rfl) ?_
    refine zq_if hc hH (by rfl) (tg := 881) (by rfl) (fun h4 => ?_) (fun h4 => ?_)
    · have h4 : (b4) = true := nB_n.mp (cm_ne.mp h4)
      refine z_rcs hc hH 1 (pc' := 882) (lv' := [(12, .int 34), (10, .int x10), (11, .int x11), (9, .int (nB b9)), (8, .int (nB b8)), (7, .int x7), (6, .int (nB b6)), (5, .int (nB b5)), (3, .int x3), (2, .int x2), (1, .int x1), (4, .int (nB b4)), (0, .ref 50)]) (st' := [.int 0, .int 20, .ref 50]) (μ' := mGP μ g p f) (by rfl) ?_
      exact zJ hJ1 rfl (by simp only [h3, h4, lb_f, Int64.or_zero, nB_t, nB_f, Bool.not_true, Bool.not_false, Bool.and_true, Bool.true_and, Bool.false_and, Bool.and_false, Bool.or_true, Bool.true_or, Bool.false_or, Bool.or_false, cond_true, cond_false]) rfl
    · have h4 : (b4) = false := nB_z.mp (cn_ne.mp h4)
      refine z_rcs hc hH 2 (pc' := 882) (lv' := [(12, .int 34), (10, .int x10), (11, .int x11), (9, .int (nB b9)), (8, .int (nB b8)), (7, .int x7), (6, .int (nB b6)), (5, .int (nB b5)), (3, .int x3), (2, .int x2), (1, .int x1), (4, .int (nB b4)), (0, .ref 50)]) (st' := [.int 10, .int 20, .ref 50]) (μ' := mGP μ g p f) (by rfl) ?_
      exact zJ hJ1 rfl (by simp only [h3, h4, lb_f, Int64.or_zero, nB_t, nB_f, Bool.not_true, Bool.not_false, Bool.and_true, Bool.true_and, Bool.false_and, Bool.and_false, Bool.or_true, Bool.true_or, Bool.false_or, Bool.or_false, cond_true, cond_false]) rfl
/-! an offer is compared with the best: the reference -/
set_option maxRecDepth 8000
theorem cmp_le {a b : Int64} : decide (lg_cmp a b ≤ 0) = !decide (b < a) := by
  rw [← decide_not]
  refine decide_eq_decide.mpr ?_
  unfold lg_cmp
  by_cases h : a > b
  · rw [if_pos h]
    exact ⟨fun z => absurd z (by decide), fun z => absurd h z⟩
  · rw [if_neg h]
    by_cases h2 : a = b
    · rw [if_pos h2]; exact ⟨fun _ => h, fun _ => by decide⟩
    · rw [if_neg h2]; exact ⟨fun _ => h, fun _ => by decide⟩
noncomputable def xBt (μ : zM) (ba ha : Int32) (fo : Int64) : Bool := bif decide (ba = (μ.1 50 13)) then bif decide (ha = (μ.1 50 14)) then bif decide ((μ.1 50 23) = (μ.1 50 15)) then !(decide ((lg_cmp fo (μ.2.1 50 17)) ≤ 0)) else !(decide ((μ.1 50 23) ≤ (μ.1 50 15))) else !(decide (ha ≤ (μ.1 50 14))) else !(decide (ba ≤ (μ.1 50 13)))
theorem xBt_iff (μ : zM) (ba ha : Int32) (fo : Int64) : xBt μ ba ha fo = true ↔ g4 (ba, ha, μ.1 50 23, fo) (bq μ) := by
  unfold xBt g4 bq
  rw [cmp_le]
  have le : ∀ x y : Int32, decide (x ≤ y) = !decide (y < x) := fun x y => by rw [← decide_not]; exact decide_eq_decide.mpr Int32.not_lt.symm
  rw [le, le, le]
  have irr : ∀ x : Int32, ¬ x < x := fun x => Int32.lt_irrefl
  by_cases h1 : ba = μ.1 50 13 <;> by_cases h2 : ha = μ.1 50 14 <;> by_cases h3 : μ.1 50 23 = μ.1 50 15 <;> simp [h1, h2, h3, irr]
noncomputable def CQ (μ μ' : zM) (x : Q4) : Prop := a_Fz [(50, 13), (50, 14), (50, 15), (50, 17)] μ μ' ∧ BS (fun y => y = x) (bq μ) (bq μ')
theorem cp339a (d' : Nat) (Z : zK) (μ : zM) (ba ha x6 : Int32) (fo : Int64) (o : Bool) (hc : z_clo z_x0 mi_X7_compare (z_C d') Z) (hr : z_ret mi_X7_compare (fun r μ' => r = none ∧ CQ μ μ' (ba, ha, μ.1 50 23, fo)) Z) : Z 0 339 [(4, .long fo), (2, .int ha), (3, .int ba), (6, .int x6), (0, .ref 50), (1, .int (nB o))] [] μ := by
  have hH : zH mi_X7_compare zt_X7_compare 79 7 7 := hh_X7_compare
  refine z_rcs hc hH 3 (pc' := 344) (lv' := [(4, .long fo), (2, .int ha), (3, .int ba), (6, .int x6), (0, .ref 50), (1, .int (nB o))]) (st' := [.int (μ.1 50 13), .int ba]) (μ' := μ) (by rfl) ?_
  have hJ1 : Z 0 432 [(4, .long fo), (2, .int ha), (3, .int ba), (6, .int x6), (0, .ref 50), (1, .int (nB o))] [.int (nB (bif decide (ba = (μ.1 50 13)) then bif decide (ha = (μ.1 50 14)) then bif decide ((μ.1 50 23) = (μ.1 50 15)) then !(decide ((lg_cmp fo (μ.2.1 50 17)) ≤ 0)) else !(decide ((μ.1 50 23) ≤ (μ.1 50 15))) else !(decide (ha ≤ (μ.1 50 14))) else !(decide (ba ≤ (μ.1 50 13)))))] μ := by
    generalize hee2 : (bif decide (ba = (μ.1 50 13)) then bif decide (ha = (μ.1 50 14)) then bif decide ((μ.1 50 23) = (μ.1 50 15)) then !(decide ((lg_cmp fo (μ.2.1 50 17)) ≤ 0)) else !(decide ((μ.1 50 23) ≤ (μ.1 50 15))) else !(decide (ha ≤ (μ.1 50 14))) else !(decide (ba ≤ (μ.1 50 13)))) = ee2
    refine z_rcs hc hH 1 (pc' := 434) (lv' := [(6, .int (nB ee2)), (4, .long fo), (2, .int ha), (3, .int ba), (0, .ref 50), (1, .int (nB o))]) (st' := []) (μ' := μ) (by rfl) ?_
    subst hee2
    show Z 0 434 [(6, .int (nB (xBt μ ba ha fo))), (4, .long fo), (2, .int ha), (3, .int ba), (0, .ref 50), (1, .int (nB o))] [] μ
    have bt := xBt_iff μ ba ha fo
    generalize xBt μ ba ha fo = e at bt ⊢
    refine z_rcs hc hH 1 (pc' := 436) (lv' := [(6, .int (nB e)), (4, .long fo), (2, .int ha), (3, .int ba), (0, .ref 50), (1, .int (nB o))]) (st' := [.int (nB e)]) (μ' := μ) (by rfl) ?_
    refine zq_if hc hH (by rfl) (tg := 440) (by rfl) (fun h => ?_) (fun h => ?_)
    · have h : e = true := nB_n.mp (cm_ne.mp h)
      refine z_rcs hc hH 13 (pc' := 464) (lv' := [(6, .int (nB e)), (4, .long fo), (2, .int ha), (3, .int ba), (0, .ref 50), (1, .int (nB o))]) (st' := []) (μ' := z_uj (z_ui (z_ui (z_ui μ 50 13 ba) 50 14 ha) 50 15 (μ.1 50 23)) 50 17 fo) (by rfl) ?_
      have ge := bt.mp h
      exact hr 0 464 _ _ _ none (by decide +kernel) (by rfl) (⟨rfl, by exact a_Fz_uj (a_Fz_ui (a_Fz_ui (a_Fz_ui (a_Fz_rf _ _) (by decide +kernel)) (by decide +kernel)) (by decide +kernel)) (by decide +kernel), BS_one (Or.inl ⟨ge, rfl⟩)⟩)
    · have h : e = false := nB_z.mp (cn_ne.mp h)
      exact hr 0 439 _ _ _ none (by decide +kernel) (by rfl) (⟨rfl, a_Fz_rf _ _, BS_one (Or.inr ⟨fun g => absurd (bt.mpr g) (by rw [h]; decide), rfl⟩)⟩)
  refine zq_ic hc hH (by rfl) (tg := 363) (by rfl) (fun h3 => ?_) (fun h3 => ?_)
  · have h3 : (decide (ba = (μ.1 50 13))) = true := decide_eq_true (cm_eq9.mp h3)
    refine z_rcs hc hH 3 (pc' := 368) (lv' := [(4, .long fo), (2, .int ha), (3, .int ba), (6, .int x6), (0, .ref 50), (1, .int (nB o))]) (st' := [.int (μ.1 50 14), .int ha]) (μ' := μ) (by rfl) ?_
    refine zq_ic hc hH (by rfl) (tg := 387) (by rfl) (fun h4 => ?_) (fun h4 => ?_)
    · have h4 : (decide (ha = (μ.1 50 14))) = true := decide_eq_true (cm_eq9.mp h4)
      refine z_rcs hc hH 4 (pc' := 395) (lv' := [(4, .long fo), (2, .int ha), (3, .int ba), (6, .int x6), (0, .ref 50), (1, .int (nB o))]) (st' := [.int (μ.1 50 15), .int (μ.1 50 23)]) (μ' := μ) (by rfl) ?_
      refine zq_ic hc hH (by rfl) (tg := 417) (by rfl) (fun h5 => ?_) (fun h5 => ?_)
      · have h5 : (decide ((μ.1 50 23) = (μ.1 50 15))) = true := decide_eq_true (cm_eq9.mp h5)
        refine z_rcs hc hH 4 (pc' := 424) (lv' := [(4, .long fo), (2, .int ha), (3, .int ba), (6, .int x6), (0, .ref 50), (1, .int (nB o))]) (st' := [.int (lg_cmp fo (μ.2.1 50 17))]) (μ' := μ) (by rfl) ?_
        refine zq_if hc hH (by rfl) (tg := 431) (by rfl) (fun h6 => ?_) (fun h6 => ?_)
        · have h6 : (decide ((lg_cmp fo (μ.2.1 50 17)) ≤ 0)) = true := decide_eq_true (cm_le.mp h6)
          refine z_rcs hc hH 1 (pc' := 432) (lv' := [(4, .long fo), (2, .int ha), (3, .int ba), (6, .int x6), (0, .ref 50), (1, .int (nB o))]) (st' := [.int 0]) (μ' := μ) (by rfl) ?_
          exact zJ hJ1 rfl (by first | with_reducible rfl | (simp only [h3, h4, h5, h6, lb_f, Int64.or_zero, Int32.add_zero, nB_t, nB_f, Bool.not_true, Bool.not_false, Bool.and_true, Bool.true_and, Bool.false_and, Bool.and_false, Bool.or_true, Bool.true_or, Bool.false_or, Bool.or_false, cond_true, cond_false]; done) | rfl) rfl
        · have h6 : (decide ((lg_cmp fo (μ.2.1 50 17)) ≤ 0)) = false := decide_eq_false (cn_le.mp h6)
          refine z_rcs hc hH 2 (pc' := 432) (lv' := [(4, .long fo), (2, .int ha), (3, .int ba), (6, .int x6), (0, .ref 50), (1, .int (nB o))]) (st' := [.int 1]) (μ' := μ) (by rfl) ?_
          exact zJ hJ1 rfl (by first | with_reducible rfl | (simp only [h3, h4, h5, h6, lb_f, Int64.or_zero, Int32.add_zero, nB_t, nB_f, Bool.not_true, Bool.not_false, Bool.and_true, Bool.true_and, Bool.false_and, Bool.and_false, Bool.or_true, Bool.true_or, Bool.false_or, Bool.or_false, cond_true, cond_false]; done) | rfl) rfl
      · have h5 : (decide ((μ.1 50 23) = (μ.1 50 15))) = false := decide_eq_false (cn_eq.mp h5)
        refine z_rcs hc hH 4 (pc' := 406) (lv' := [(4, .long fo), (2, .int ha), (3, .int ba), (6, .int x6), (0, .ref 50), (1, .int (nB o))]) (st' := [.int (μ.1 50 15), .int (μ.1 50 23)]) (μ' := μ) (by rfl) ?_
        refine zq_ic hc hH (by rfl) (tg := 413) (by rfl) (fun h7 => ?_) (fun h7 => ?_)
        · have h7 : (decide ((μ.1 50 23) ≤ (μ.1 50 15))) = true := decide_eq_true (cm_le.mp h7)
          refine z_rcs hc hH 2 (pc' := 432) (lv' := [(4, .long fo), (2, .int ha), (3, .int ba), (6, .int x6), (0, .ref 50), (1, .int (nB o))]) (st' := [.int 0]) (μ' := μ) (by rfl) ?_
          exact zJ hJ1 rfl (by first | with_reducible rfl | (simp only [h3, h4, h5, h7, lb_f, Int64.or_zero, Int32.add_zero, nB_t, nB_f, Bool.not_true, Bool.not_false, Bool.and_true, Bool.true_and, Bool.false_and, Bool.and_false, Bool.or_true, Bool.true_or, Bool.false_or, Bool.or_false, cond_true, cond_false]; done) | rfl) rfl
        · have h7 : (decide ((μ.1 50 23) ≤ (μ.1 50 15))) = false := decide_eq_false (cn_le.mp h7)
          refine z_rcs hc hH 2 (pc' := 432) (lv' := [(4, .long fo), (2, .int ha), (3, .int ba), (6, .int x6), (0, .ref 50), (1, .int (nB o))]) (st' := [.int 1]) (μ' := μ) (by rfl) ?_
          exact zJ hJ1 rfl (by first | with_reducible rfl | (simp only [h3, h4, h5, h7, lb_f, Int64.or_zero, Int32.add_zero, nB_t, nB_f, Bool.not_true, Bool.not_false, Bool.and_true, Bool.true_and, Bool.false_and, Bool.and_false, Bool.or_true, Bool.true_or, Bool.false_or, Bool.or_false, cond_true, cond_false]; done) | rfl) rfl
    · have h4 : (decide (ha = (μ.1 50 14))) = false := decide_eq_false (cn_eq.mp h4)
      refine z_rcs hc hH 3 (pc' := 376) (lv' := [(4, .long fo), (2, .int ha), (3, .int ba), (6, .int x6), (0, .ref 50), (1, .int (nB o))]) (st' := [.int (μ.1 50 14), .int ha]) (μ' := μ) (by rfl) ?_
      refine zq_ic hc hH (by rfl) (tg := 383) (by rfl) (fun h8 => ?_) (fun h8 => ?_)
      · have h8 : (decide (ha ≤ (μ.1 50 14))) = true := decide_eq_true (cm_le.mp h8)
        refine z_rcs hc hH 2 (pc' := 432) (lv' := [(4, .long fo), (2, .int ha), (3, .int ba), (6, .int x6), (0, .ref 50), (1, .int (nB o))]) (st' := [.int 0]) (μ' := μ) (by rfl) ?_
        exact zJ hJ1 rfl (by first | with_reducible rfl | (simp only [h3, h4, h8, lb_f, Int64.or_zero, Int32.add_zero, nB_t, nB_f, Bool.not_true, Bool.not_false, Bool.and_true, Bool.true_and, Bool.false_and, Bool.and_false, Bool.or_true, Bool.true_or, Bool.false_or, Bool.or_false, cond_true, cond_false]; done) | rfl) rfl
      · have h8 : (decide (ha ≤ (μ.1 50 14))) = false := decide_eq_false (cn_le.mp h8)
        refine z_rcs hc hH 2 (pc' := 432) (lv' := [(4, .long fo), (2, .int ha), (3, .int ba), (6, .int x6), (0, .ref 50), (1, .int (nB o))]) (st' := [.int 1]) (μ' := μ) (by rfl) ?_
        exact zJ hJ1 rfl (by first | with_reducible rfl | (simp only [h3, h4, h8, lb_f, Int64.or_zero, Int32.add_zero, nB_t, nB_f, Bool.not_true, Bool.not_false, Bool.and_true, Bool.true_and, Bool.false_and, Bool.and_false, Bool.or_true, Bool.true_or, Bool.false_or, Bool.or_false, cond_true, cond_false]; done) | rfl) rfl
  · have h3 : (decide (ba = (μ.1 50 13))) = false := decide_eq_false (cn_eq.mp h3)
    refine z_rcs hc hH 3 (pc' := 352) (lv' := [(4, .long fo), (2, .int ha), (3, .int ba), (6, .int x6), (0, .ref 50), (1, .int (nB o))]) (st' := [.int (μ.1 50 13), .int ba]) (μ' := μ) (by rfl) ?_
    refine zq_ic hc hH (by rfl) (tg := 359) (by rfl) (fun h9 => ?_) (fun h9 => ?_)
    · have h9 : (decide (ba ≤ (μ.1 50 13))) = true := decide_eq_true (cm_le.mp h9)
      refine z_rcs hc hH 2 (pc' := 432) (lv' := [(4, .long fo), (2, .int ha), (3, .int ba), (6, .int x6), (0, .ref 50), (1, .int (nB o))]) (st' := [.int 0]) (μ' := μ) (by rfl) ?_
      exact zJ hJ1 rfl (by first | with_reducible rfl | (simp only [h3, h9, lb_f, Int64.or_zero, Int32.add_zero, nB_t, nB_f, Bool.not_true, Bool.not_false, Bool.and_true, Bool.true_and, Bool.false_and, Bool.and_false, Bool.or_true, Bool.true_or, Bool.false_or, Bool.or_false, cond_true, cond_false]; done) | rfl) rfl
    · have h9 : (decide (ba ≤ (μ.1 50 13))) = false := decide_eq_false (cn_le.mp h9)
      refine z_rcs hc hH 2 (pc' := 432) (lv' := [(4, .long fo), (2, .int ha), (3, .int ba), (6, .int x6), (0, .ref 50), (1, .int (nB o))]) (st' := [.int 1]) (μ' := μ) (by rfl) ?_
      exact zJ hJ1 rfl (by first | with_reducible rfl | (simp only [h3, h9, lb_f, Int64.or_zero, Int32.add_zero, nB_t, nB_f, Bool.not_true, Bool.not_false, Bool.and_true, Bool.true_and, Bool.false_and, Bool.and_false, Bool.or_true, Bool.true_or, Bool.false_or, Bool.or_false, cond_true, cond_false]; done) | rfl) rfl
theorem cp339b (d' : Nat) (Z : zK) (μ : zM) (ba ha x6 : Int32) (fo : Int64) (o : Bool) (hc : z_clo z_x0 mi_X7_compare (z_C d') Z) (hr : z_ret mi_X7_compare (fun r μ' => r = none ∧ CQ μ μ' (ba, ha, μ.1 50 23, fo)) Z) : Z 0 339 [(3, .int ba), (2, .int ha), (4, .long fo), (6, .int x6), (0, .ref 50), (1, .int (nB o))] [] μ := by
  have hH : zH mi_X7_compare zt_X7_compare 79 7 7 := hh_X7_compare
  refine z_rcs hc hH 3 (pc' := 344) (lv' := [(3, .int ba), (2, .int ha), (4, .long fo), (6, .int x6), (0, .ref 50), (1, .int (nB o))]) (st' := [.int (μ.1 50 13), .int ba]) (μ' := μ) (by rfl) ?_
  have hJ1 : Z 0 432 [(3, .int ba), (2, .int ha), (4, .long fo), (6, .int x6), (0, .ref 50), (1, .int (nB o))] [.int (nB (bif decide (ba = (μ.1 50 13)) then bif decide (ha = (μ.1 50 14)) then bif decide ((μ.1 50 23) = (μ.1 50 15)) then !(decide ((lg_cmp fo (μ.2.1 50 17)) ≤ 0)) else !(decide ((μ.1 50 23) ≤ (μ.1 50 15))) else !(decide (ha ≤ (μ.1 50 14))) else !(decide (ba ≤ (μ.1 50 13)))))] μ := by
    generalize hee2 : (bif decide (ba = (μ.1 50 13)) then bif decide (ha = (μ.1 50 14)) then bif decide ((μ.1 50 23) = (μ.1 50 15)) then !(decide ((lg_cmp fo (μ.2.1 50 17)) ≤ 0)) else !(decide ((μ.1 50 23) ≤ (μ.1 50 15))) else !(decide (ha ≤ (μ.1 50 14))) else !(decide (ba ≤ (μ.1 50 13)))) = ee2
    refine z_rcs hc hH 1 (pc' := 434) (lv' := [(6, .int (nB ee2)), (3, .int ba), (2, .int ha), (4, .long fo), (0, .ref 50), (1, .int (nB o))]) (st' := []) (μ' := μ) (by rfl) ?_
    subst hee2
    show Z 0 434 [(6, .int (nB (xBt μ ba ha fo))), (3, .int ba), (2, .int ha), (4, .long fo), (0, .ref 50), (1, .int (nB o))] [] μ
    have bt := xBt_iff μ ba ha fo
    generalize xBt μ ba ha fo = e at bt ⊢
    refine z_rcs hc hH 1 (pc' := 436) (lv' := [(6, .int (nB e)), (3, .int ba), (2, .int ha), (4, .long fo), (0, .ref 50), (1, .int (nB o))]) (st' := [.int (nB e)]) (μ' := μ) (by rfl) ?_
    refine zq_if hc hH (by rfl) (tg := 440) (by rfl) (fun h => ?_) (fun h => ?_)
    · have h : e = true := nB_n.mp (cm_ne.mp h)
      refine z_rcs hc hH 13 (pc' := 464) (lv' := [(6, .int (nB e)), (3, .int ba), (2, .int ha), (4, .long fo), (0, .ref 50), (1, .int (nB o))]) (st' := []) (μ' := z_uj (z_ui (z_ui (z_ui μ 50 13 ba) 50 14 ha) 50 15 (μ.1 50 23)) 50 17 fo) (by rfl) ?_
      have ge := bt.mp h
      exact hr 0 464 _ _ _ none (by decide +kernel) (by rfl) (⟨rfl, by exact a_Fz_uj (a_Fz_ui (a_Fz_ui (a_Fz_ui (a_Fz_rf _ _) (by decide +kernel)) (by decide +kernel)) (by decide +kernel)) (by decide +kernel), BS_one (Or.inl ⟨ge, rfl⟩)⟩)
    · have h : e = false := nB_z.mp (cn_ne.mp h)
      exact hr 0 439 _ _ _ none (by decide +kernel) (by rfl) (⟨rfl, a_Fz_rf _ _, BS_one (Or.inr ⟨fun g => absurd (bt.mpr g) (by rw [h]; decide), rfl⟩)⟩)
  refine zq_ic hc hH (by rfl) (tg := 363) (by rfl) (fun h3 => ?_) (fun h3 => ?_)
  · have h3 : (decide (ba = (μ.1 50 13))) = true := decide_eq_true (cm_eq9.mp h3)
    refine z_rcs hc hH 3 (pc' := 368) (lv' := [(3, .int ba), (2, .int ha), (4, .long fo), (6, .int x6), (0, .ref 50), (1, .int (nB o))]) (st' := [.int (μ.1 50 14), .int ha]) (μ' := μ) (by rfl) ?_
    refine zq_ic hc hH (by rfl) (tg := 387) (by rfl) (fun h4 => ?_) (fun h4 => ?_)
    · have h4 : (decide (ha = (μ.1 50 14))) = true := decide_eq_true (cm_eq9.mp h4)
      refine z_rcs hc hH 4 (pc' := 395) (lv' := [(3, .int ba), (2, .int ha), (4, .long fo), (6, .int x6), (0, .ref 50), (1, .int (nB o))]) (st' := [.int (μ.1 50 15), .int (μ.1 50 23)]) (μ' := μ) (by rfl) ?_
      refine zq_ic hc hH (by rfl) (tg := 417) (by rfl) (fun h5 => ?_) (fun h5 => ?_)
      · have h5 : (decide ((μ.1 50 23) = (μ.1 50 15))) = true := decide_eq_true (cm_eq9.mp h5)
        refine z_rcs hc hH 4 (pc' := 424) (lv' := [(3, .int ba), (2, .int ha), (4, .long fo), (6, .int x6), (0, .ref 50), (1, .int (nB o))]) (st' := [.int (lg_cmp fo (μ.2.1 50 17))]) (μ' := μ) (by rfl) ?_
        refine zq_if hc hH (by rfl) (tg := 431) (by rfl) (fun h6 => ?_) (fun h6 => ?_)
        · have h6 : (decide ((lg_cmp fo (μ.2.1 50 17)) ≤ 0)) = true := decide_eq_true (cm_le.mp h6)
          refine z_rcs hc hH 1 (pc' := 432) (lv' := [(3, .int ba), (2, .int ha), (4, .long fo), (6, .int x6), (0, .ref 50), (1, .int (nB o))]) (st' := [.int 0]) (μ' := μ) (by rfl) ?_
          exact zJ hJ1 rfl (by first | with_reducible rfl | (simp only [h3, h4, h5, h6, lb_f, Int64.or_zero, Int32.add_zero, nB_t, nB_f, Bool.not_true, Bool.not_false, Bool.and_true, Bool.true_and, Bool.false_and, Bool.and_false, Bool.or_true, Bool.true_or, Bool.false_or, Bool.or_false, cond_true, cond_false]; done) | rfl) rfl
        · have h6 : (decide ((lg_cmp fo (μ.2.1 50 17)) ≤ 0)) = false := decide_eq_false (cn_le.mp h6)
          refine z_rcs hc hH 2 (pc' := 432) (lv' := [(3, .int ba), (2, .int ha), (4, .long fo), (6, .int x6), (0, .ref 50), (1, .int (nB o))]) (st' := [.int 1]) (μ' := μ) (by rfl) ?_
          exact zJ hJ1 rfl (by first | with_reducible rfl | (simp only [h3, h4, h5, h6, lb_f, Int64.or_zero, Int32.add_zero, nB_t, nB_f, Bool.not_true, Bool.not_false, Bool.and_true, Bool.true_and, Bool.false_and, Bool.and_false, Bool.or_true, Bool.true_or, Bool.false_or, Bool.or_false, cond_true, cond_false]; done) | rfl) rfl
      · have h5 : (decide ((μ.1 50 23) = (μ.1 50 15))) = false := decide_eq_false (cn_eq.mp h5)
        refine z_rcs hc hH 4 (pc' := 406) (lv' := [(3, .int ba), (2, .int ha), (4, .long fo), (6, .int x6), (0, .ref 50), (1, .int (nB o))]) (st' := [.int (μ.1 50 15), .int (μ.1 50 23)]) (μ' := μ) (by rfl) ?_
        refine zq_ic hc hH (by rfl) (tg := 413) (by rfl) (fun h7 => ?_) (fun h7 => ?_)
        · have h7 : (decide ((μ.1 50 23) ≤ (μ.1 50 15))) = true := decide_eq_true (cm_le.mp h7)
          refine z_rcs hc hH 2 (pc' := 432) (lv' := [(3, .int ba), (2, .int ha), (4, .long fo), (6, .int x6), (0, .ref 50), (1, .int (nB o))]) (st' := [.int 0]) (μ' := μ) (by rfl) ?_
          exact zJ hJ1 rfl (by first | with_reducible rfl | (simp only [h3, h4, h5, h7, lb_f, Int64.or_zero, Int32.add_zero, nB_t, nB_f, Bool.not_true, Bool.not_false, Bool.and_true, Bool.true_and, Bool.false_and, Bool.and_false, Bool.or_true, Bool.true_or, Bool.false_or, Bool.or_false, cond_true, cond_false]; done) | rfl) rfl
        · have h7 : (decide ((μ.1 50 23) ≤ (μ.1 50 15))) = false := decide_eq_false (cn_le.mp h7)
          refine z_rcs hc hH 2 (pc' := 432) (lv' := [(3, .int ba), (2, .int ha), (4, .long fo), (6, .int x6), (0, .ref 50), (1, .int (nB o))]) (st' := [.int 1]) (μ' := μ) (by rfl) ?_
          exact zJ hJ1 rfl (by first | with_reducible rfl | (simp only [h3, h4, h5, h7, lb_f, Int64.or_zero, Int32.add_zero, nB_t, nB_f, Bool.not_true, Bool.not_false, Bool.and_true, Bool.true_and, Bool.false_and, Bool.and_false, Bool.or_true, Bool.true_or, Bool.false_or, Bool.or_false, cond_true, cond_false]; done) | rfl) rfl
    · have h4 : (decide (ha = (μ.1 50 14))) = false := decide_eq_false (cn_eq.mp h4)
      refine z_rcs hc hH 3 (pc' := 376) (lv' := [(3, .int ba), (2, .int ha), (4, .long fo), (6, .int x6), (0, .ref 50), (1, .int (nB o))]) (st' := [.int (μ.1 50 14), .int ha]) (μ' := μ) (by rfl) ?_
      refine zq_ic hc hH (by rfl) (tg := 383) (by rfl) (fun h8 => ?_) (fun h8 => ?_)
      · have h8 : (decide (ha ≤ (μ.1 50 14))) = true := decide_eq_true (cm_le.mp h8)
        refine z_rcs hc hH 2 (pc' := 432) (lv' := [(3, .int ba), (2, .int ha), (4, .long fo), (6, .int x6), (0, .ref 50), (1, .int (nB o))]) (st' := [.int 0]) (μ' := μ) (by rfl) ?_
        exact zJ hJ1 rfl (by first | with_reducible rfl | (simp only [h3, h4, h8, lb_f, Int64.or_zero, Int32.add_zero, nB_t, nB_f, Bool.not_true, Bool.not_false, Bool.and_true, Bool.true_and, Bool.false_and, Bool.and_false, Bool.or_true, Bool.true_or, Bool.false_or, Bool.or_false, cond_true, cond_false]; done) | rfl) rfl
      · have h8 : (decide (ha ≤ (μ.1 50 14))) = false := decide_eq_false (cn_le.mp h8)
        refine z_rcs hc hH 2 (pc' := 432) (lv' := [(3, .int ba), (2, .int ha), (4, .long fo), (6, .int x6), (0, .ref 50), (1, .int (nB o))]) (st' := [.int 1]) (μ' := μ) (by rfl) ?_
        exact zJ hJ1 rfl (by first | with_reducible rfl | (simp only [h3, h4, h8, lb_f, Int64.or_zero, Int32.add_zero, nB_t, nB_f, Bool.not_true, Bool.not_false, Bool.and_true, Bool.true_and, Bool.false_and, Bool.and_false, Bool.or_true, Bool.true_or, Bool.false_or, Bool.or_false, cond_true, cond_false]; done) | rfl) rfl
  · have h3 : (decide (ba = (μ.1 50 13))) = false := decide_eq_false (cn_eq.mp h3)
    refine z_rcs hc hH 3 (pc' := 352) (lv' := [(3, .int ba), (2, .int ha), (4, .long fo), (6, .int x6), (0, .ref 50), (1, .int (nB o))]) (st' := [.int (μ.1 50 13), .int ba]) (μ' := μ) (by rfl) ?_
    refine zq_ic hc hH (by rfl) (tg := 359) (by rfl) (fun h9 => ?_) (fun h9 => ?_)
    · have h9 : (decide (ba ≤ (μ.1 50 13))) = true := decide_eq_true (cm_le.mp h9)
      refine z_rcs hc hH 2 (pc' := 432) (lv' := [(3, .int ba), (2, .int ha), (4, .long fo), (6, .int x6), (0, .ref 50), (1, .int (nB o))]) (st' := [.int 0]) (μ' := μ) (by rfl) ?_
      exact zJ hJ1 rfl (by first | with_reducible rfl | (simp only [h3, h9, lb_f, Int64.or_zero, Int32.add_zero, nB_t, nB_f, Bool.not_true, Bool.not_false, Bool.and_true, Bool.true_and, Bool.false_and, Bool.and_false, Bool.or_true, Bool.true_or, Bool.false_or, Bool.or_false, cond_true, cond_false]; done) | rfl) rfl
    · have h9 : (decide (ba ≤ (μ.1 50 13))) = false := decide_eq_false (cn_le.mp h9)
      refine z_rcs hc hH 2 (pc' := 432) (lv' := [(3, .int ba), (2, .int ha), (4, .long fo), (6, .int x6), (0, .ref 50), (1, .int (nB o))]) (st' := [.int 1]) (μ' := μ) (by rfl) ?_
      exact zJ hJ1 rfl (by first | with_reducible rfl | (simp only [h3, h9, lb_f, Int64.or_zero, Int32.add_zero, nB_t, nB_f, Bool.not_true, Bool.not_false, Bool.and_true, Bool.true_and, Bool.false_and, Bool.and_false, Bool.or_true, Bool.true_or, Bool.false_or, Bool.or_false, cond_true, cond_false]; done) | rfl) rfl

/-! an offer is compared with the best: the reference -/
set_option maxRecDepth 8000
theorem cmp_le {a b : Int64} : decide (lg_cmp a b ≤ 0) = !decide (b < a) := by
  rw [← decide_not]
  refine decide_eq_decide.mpr ?_
  unfold lg_cmp
  by_cases h : a > b
  · rw [if_pos h]
    exact ⟨fun z => absurd z (by decide), fun z => absurd h z⟩
  · rw [if_neg h]
    by_cases h2 : a = b
    · rw [if_pos h2]; exact ⟨fun _ => h, fun _ => by decide⟩
    · rw [if_neg h2]; exact ⟨fun _ => h, fun _ => by decide⟩
noncomputable def xBt (μ : zM) (ba ha : Int32) (fo : Int64) : Bool := bif decide (ba = (μ.1 50 13)) then bif decide (ha = (μ.1 50 14)) then bif decide ((μ.1 50 23) = (μ.1 50 15)) then !(decide ((lg_cmp fo (μ.2.1 50 17)) ≤ 0)) else !(decide ((μ.1 50 23) ≤ (μ.1 50 15))) else !(decide (ha ≤ (μ.1 50 14))) else !(decide (ba ≤ (μ.1 50 13)))
theorem xBt_iff (μ : zM) (ba ha : Int32) (fo : Int64) : xBt μ ba ha fo = true ↔ g4 (ba, ha, μ.1 50 23, fo) (bq μ) := by
  unfold xBt g4 bq
  rw [cmp_le]
  have le : ∀ x y : Int32, decide (x ≤ y) = !decide (y < x) := fun x y => by rw [← decide_not]; exact decide_eq_decide.mpr Int32.not_lt.symm
  rw [le, le, le]
  have irr : ∀ x : Int32, ¬ x < x := fun x => Int32.lt_irrefl
  by_cases h1 : ba = μ.1 50 13 <;> by_cases h2 : ha = μ.1 50 14 <;> by_cases h3 : μ.1 50 23 = μ.1 50 15 <;> simp [h1, h2, h3, irr]
noncomputable def CQ (μ μ' : zM) (x : Q4) : Prop := a_Fz [(50, 13), (50, 14), (50, 15), (50, 17)] μ μ' ∧ BS (fun y => y = x) (bq μ) (bq μ')
theorem cp339a (d' : Nat) (Z : zK) (μ : zM) (ba ha x6 : Int32) (fo : Int64) (o : Bool) (hc : z_clo z_x0 mi_X7_compare (z_C d') Z) (hr : z_ret mi_X7_compare (fun r μ' => r = none ∧ CQ μ μ' (ba, ha, μ.1 50 23, fo)) Z) : Z 0 339 [(4, .long fo), (2, .int ha), (3, .int ba), (6, .int x6), (0, .ref 50), (1, .int (nB o))] [] μ := by
  have hH : zH mi_X7_compare zt_X7_compare 79 7 7 := hh_X7_compare
  refine z_rcs hc hH 3 (pc' := 344) (lv' := [(4, .long fo), (2, .int ha), (3, .int ba), (6, .int x6), (0, .ref 50), (1, .int (nB o))]) (st' := [.int (μ.1 50 13), .int ba]) (μ' := μ) (by rfl) ?_
  have hJ1 : Z 0 432 [(4, .long fo), (2, .int ha), (3, .int ba), (6, .int x6), (0, .ref 50), (1, .int (nB o))] [.int (nB (bif decide (ba = (μ.1 50 13)) then bif decide (ha = (μ.1 50 14)) then bif decide ((μ.1 50 23) = (μ.1 50 15)) then !(decide ((lg_cmp fo (μ.2.1 50 17)) ≤ 0)) else !(decide ((μ.1 50 23) ≤ (μ.1 50 15))) else !(decide (ha ≤ (μ.1 50 14))) else !(decide (ba ≤ (μ.1 50 13)))))] μ := by
    generalize hee2 : (bif decide (ba = (μ.1 50 13)) then bif decide (ha = (μ.1 50 14)) then bif decide ((μ.1 50 23) = (μ.1 50 15)) then !(decide ((lg_cmp fo (μ.2.1 50 17)) ≤ 0)) else !(decide ((μ.1 50 23) ≤ (μ.1 50 15))) else !(decide (ha ≤ (μ.1 50 14))) else !(decide (ba ≤ (μ.1 50 13)))) = ee2
    refine z_rcs hc hH 1 (pc' := 434) (lv' := [(6, .int (nB ee2)), (4, .long fo), (2, .int ha), (3, .int ba), (0, .ref 50), (1, .int (nB o))]) (st' := []) (μ' := μ) (by rfl) ?_
    subst hee2
    show Z 0 434 [(6, .int (nB (xBt μ ba ha fo))), (4, .long fo), (2, .int ha), (3, .int ba), (0, .ref 50), (1, .int (nB o))] [] μ
    have bt := xBt_iff μ ba ha fo
    generalize xBt μ ba ha fo = e at bt ⊢
    refine z_rcs hc hH 1 (pc' := 436) (lv' := [(6, .int (nB e)), (4, .long fo), (2, .int ha), (3, .int ba), (0, .ref 50), (1, .int (nB o))]) (st' := [.int (nB e)]) (μ' := μ) (by rfl) ?_
    refine zq_if hc hH (by rfl) (tg := 440) (by rfl) (fun h => ?_) (fun h => ?_)
    · have h : e = true := nB_n.mp (cm_ne.mp h)
      refine z_rcs hc hH 13 (pc' := 464) (lv' := [(6, .int (nB e)), (4, .long fo), (2, .int ha), (3, .int ba), (0, .ref 50), (1, .int (nB o))]) (st' := []) (μ' := z_uj (z_ui (z_ui (z_ui μ 50 13 ba) 50 14 ha) 50 15 (μ.1 50 23)) 50 17 fo) (by rfl) ?_
      have ge := bt.mp h
      exact hr 0 464 _ _ _ none (by decide +kernel) (by rfl) (⟨rfl, by exact a_Fz_uj (a_Fz_ui (a_Fz_ui (a_Fz_ui (a_Fz_rf _ _) (by decide +kernel)) (by decide +kernel)) (by decide +kernel)) (by decide +kernel), BS_one (Or.inl ⟨ge, rfl⟩)⟩)
    · have h : e = false := nB_z.mp (cn_ne.mp h)
      exact hr 0 439 _ _ _ none (by decide +kernel) (by rfl) (⟨rfl, a_Fz_rf _ _, BS_one (Or.inr ⟨fun g => absurd (bt.mpr g) (by rw [h]; decide), rfl⟩)⟩)
  refine zq_ic hc hH (by rfl) (tg := 363) (by rfl) (fun h3 => ?_) (fun h3 => ?_)
  · have h3 : (decide (ba = (μ.1 50 13))) = true := decide_eq_true (cm_eq9.mp h3)
    refine z_rcs hc hH 3 (pc' := 368) (lv' := [(4, .long fo), (2, .int ha), (3, .int ba), (6, .int x6), (0, .ref 50), (1, .int (nB o))]) (st' := [.int (μ.1 50 14), .int ha]) (μ' := μ) (by rfl) ?_
    refine zq_ic hc hH (by rfl) (tg := 387) (by rfl) (fun h4 => ?_) (fun h4 => ?_)
    · have h4 : (decide (ha = (μ.1 50 14))) = true := decide_eq_true (cm_eq9.mp h4)
      refine z_rcs hc hH 4 (pc' := 395) (lv' := [(4, .long fo), (2, .int ha), (3, .int ba), (6, .int x6), (0, .ref 50), (1, .int (nB o))]) (st' := [.int (μ.1 50 15), .int (μ.1 50 23)]) (μ' := μ) (by rfl) ?_
      refine zq_ic hc hH (by rfl) (tg := 417) (by rfl) (fun h5 => ?_) (fun h5 => ?_)
      · have h5 : (decide ((μ.1 50 23) = (μ.1 50 15))) = true := decide_eq_true (cm_eq9.mp h5)
        refine z_rcs hc hH 4 (pc' := 424) (lv' := [(4, .long fo), (2, .int ha), (3, .int ba), (6, .int x6), (0, .ref 50), (1, .int (nB o))]) (st' := [.int (lg_cmp fo (μ.2.1 50 17))]) (μ' := μ) (by rfl) ?_
        refine zq_if hc hH (by rfl) (tg := 431) (by rfl) (fun h6 => ?_) (fun h6 => ?_)
        · have h6 : (decide ((lg_cmp fo (μ.2.1 50 17)) ≤ 0)) = true := decide_eq_true (cm_le.mp h6)
          refine z_rcs hc hH 1 (pc' := 432) (lv' := [(4, .long fo), (2, .int ha), (3, .int ba), (6, .int x6), (0, .ref 50), (1, .int (nB o))]) (st' := [.int 0]) (μ' := μ) (by rfl) ?_
          exact zJ hJ1 rfl (by first | with_reducible rfl | (simp only [h3, h4, h5, h6, lb_f, Int64.or_zero, Int32.add_zero, nB_t, nB_f, Bool.not_true, Bool.not_false, Bool.and_true, Bool.true_and, Bool.false_and, Bool.and_false, Bool.or_true, Bool.true_or, Bool.false_or, Bool.or_false, cond_true, cond_false]; done) | rfl) rfl
        · have h6 : (decide ((lg_cmp fo (μ.2.1 50 17)) ≤ 0)) = false := decide_eq_false (cn_le.mp h6)
          refine z_rcs hc hH 2 (pc' := 432) (lv' := [(4, .long fo), (2, .int ha), (3, .int ba), (6, .int x6), (0, .ref 50), (1, .int (nB o))]) (st' := [.int 1]) (μ' := μ) (by rfl) ?_
          exact zJ hJ1 rfl (by first | with_reducible rfl | (simp only [h3, h4, h5, h6, lb_f, Int64.or_zero, Int32.add_zero, nB_t, nB_f, Bool.not_true, Bool.not_false, Bool.and_true, Bool.true_and, Bool.false_and, Bool.and_false, Bool.or_true, Bool.true_or, Bool.false_or, Bool.or_false, cond_true, cond_false]; done) | rfl) rfl
      · have h5 : (decide ((μ.1 50 23) = (μ.1 50 15))) = false := decide_eq_false (cn_eq.mp h5)
        refine z_rcs hc hH 4 (pc' := 406) (lv' := [(4, .long fo), (2, .int ha), (3, .int ba), (6, .int x6), (0, .ref 50), (1, .int (nB o))]) (st' := [.int (μ.1 50 15), .int (μ.1 50 23)]) (μ' := μ) (by rfl) ?_
        refine zq_ic hc hH (by rfl) (tg := 413) (by rfl) (fun h7 => ?_) (fun h7 => ?_)
        · have h7 : (decide ((μ.1 50 23) ≤ (μ.1 50 15))) = true := decide_eq_true (cm_le.mp h7)
          refine z_rcs hc hH 2 (pc' := 432) (lv' := [(4, .long fo), (2, .int ha), (3, .int ba), (6, .int x6), (0, .ref 50), (1, .int (nB o))]) (st' := [.int 0]) (μ' := μ) (by rfl) ?_
          exact zJ hJ1 rfl (by first | with_reducible rfl | (simp only [h3, h4, h5, h7, lb_f, Int64.or_zero, Int32.add_zero, nB_t, nB_f, Bool.not_true, Bool.not_false, Bool.and_true, Bool.true_and, Bool.false_and, Bool.and_false, Bool.or_true, Bool.true_or, Bool.false_or, Bool.or_false, cond_true, cond_false]; done) | rfl) rfl
        · have h7 : (decide ((μ.1 50 23) ≤ (μ.1 50 15))) = false := decide_eq_false (cn_le.mp h7)
          refine z_rcs hc hH 2 (pc' := 432) (lv' := [(4, .long fo), (2, .int ha), (3, .int ba), (6, .int x6), (0, .ref 50), (1, .int (nB o))]) (st' := [.int 1]) (μ' := μ) (by rfl) ?_
          exact zJ hJ1 rfl (by first | with_reducible rfl | (simp only [h3, h4, h5, h7, lb_f, Int64.or_zero, Int32.add_zero, nB_t, nB_f, Bool.not_true, Bool.not_false, Bool.and_true, Bool.true_and, Bool.false_and, Bool.and_false, Bool.or_true, Bool.true_or, Bool.false_or, Bool.or_false, cond_true, cond_false]; done) | rfl) rfl
    · have h4 : (decide (ha = (μ.1 50 14))) = false := decide_eq_false (cn_eq.mp h4)
      refine z_rcs hc hH 3 (pc' := 376) (lv' := [(4, .long fo), (2, .int ha), (3, .int ba), (6, .int x6), (0, .ref 50), (1, .int (nB o))]) (st' := [.int (μ.1 50 14), .int ha]) (μ' := μ) (by rfl) ?_
      refine zq_ic hc hH (by rfl) (tg := 383) (by rfl) (fun h8 => ?_) (fun h8 => ?_)
      · have h8 : (decide (ha ≤ (μ.1 50 14))) = true := decide_eq_true (cm_le.mp h8)
        refine z_rcs hc hH 2 (pc' := 432) (lv' := [(4, .long fo), (2, .int ha), (3, .int ba), (6, .int x6), (0, .ref 50), (1, .int (nB o))]) (st' := [.int 0]) (μ' := μ) (by rfl) ?_
        exact zJ hJ1 rfl (by first | with_reducible rfl | (simp only [h3, h4, h8, lb_f, Int64.or_zero, Int32.add_zero, nB_t, nB_f, Bool.not_true, Bool.not_false, Bool.and_true, Bool.true_and, Bool.false_and, Bool.and_false, Bool.or_true, Bool.true_or, Bool.false_or, Bool.or_false, cond_true, cond_false]; done) | rfl) rfl
      · have h8 : (decide (ha ≤ (μ.1 50 14))) = false := decide_eq_false (cn_le.mp h8)
        refine z_rcs hc hH 2 (pc' := 432) (lv' := [(4, .long fo), (2, .int ha), (3, .int ba), (6, .int x6), (0, .ref 50), (1, .int (nB o))]) (st' := [.int 1]) (μ' := μ) (by rfl) ?_
        exact zJ hJ1 rfl (by first | with_reducible rfl | (simp only [h3, h4, h8, lb_f, Int64.or_zero, Int32.add_zero, nB_t, nB_f, Bool.not_true, Bool.not_false, Bool.and_true, Bool.true_and, Bool.false_and, Bool.and_false, Bool.or_true, Bool.true_or, Bool.false_or, Bool.or_false, cond_true, cond_false]; done) | rfl) rfl
  · have h3 : (decide (ba = (μ.1 50 13))) = false := decide_eq_false (cn_eq.mp h3)
    refine z_rcs hc hH 3 (pc' := 352) (lv' := [(4, .long fo), (2, .int ha), (3, .int ba), (6, .int x6), (0, .ref 50), (1, .int (nB o))]) (st' := [.int (μ.1 50 13), .int ba]) (μ' := μ) (by rfl) ?_
    refine zq_ic hc hH (by rfl) (tg := 359) (by rfl) (fun h9 => ?_) (fun h9 => ?_)
    · have h9 : (decide (ba ≤ (μ.1 50 13))) = true := decide_eq_true (cm_le.mp h9)
      refine z_rcs hc hH 2 (pc' := 432) (lv' := [(4, .long fo), (2, .int ha), (3, .int ba), (6, .int x6), (0, .ref 50), (1, .int (nB o))]) (st' := [.int 0]) (μ' := μ) (by rfl) ?_
      exact zJ hJ1 rfl (by first | with_reducible rfl | (simp only [h3, h9, lb_f, Int64.or_zero, Int32.add_zero, nB_t, nB_f, Bool.not_true, Bool.not_false, Bool.and_true, Bool.true_and, Bool.false_and, Bool.and_false, Bool.or_true, Bool.true_or, Bool.false_or, Bool.or_false, cond_true, cond_false]; done) | rfl) rfl
    · have h9 : (decide (ba ≤ (μ.1 50 13))) = false := decide_eq_false (cn_le.mp h9)
      refine z_rcs hc hH 2 (pc' := 432) (lv' := [(4, .long fo), (2, .int ha), (3, .int ba), (6, .int x6), (0, .ref 50), (1, .int (nB o))]) (st' := [.int 1]) (μ' := μ) (by rfl) ?_
      exact zJ hJ1 rfl (by first | with_reducible rfl | (simp only [h3, h9, lb_f, Int64.or_zero, Int32.add_zero, nB_t, nB_f, Bool.not_true, Bool.not_false, Bool.and_true, Bool.true_and, Bool.false_and, Bool.and_false, Bool.or_true, Bool.true_or, Bool.false_or, Bool.or_false, cond_true, cond_false]; done) | rfl) rfl
theorem cp339b (d' : Nat) (Z : zK) (μ : zM) (ba ha x6 : Int32) (fo : Int64) (o : Bool) (hc : z_clo z_x0 mi_X7_compare (z_C d') Z) (hr : z_ret mi_X7_compare (fun r μ' => r = none ∧ CQ μ μ' (ba, ha, μ.1 50 23, fo)) Z) : Z 0 339 [(3, .int ba), (2, .int ha), (4, .long fo), (6, .int x6), (0, .ref 50), (1, .int (nB o))] [] μ := by
  have hH : zH mi_X7_compare zt_X7_compare 79 7 7 := hh_X7_compare
  refine z_rcs hc hH 3 (pc' := 344) (lv' := [(3, .int ba), (2, .int ha), (4, .long fo), (6, .int x6), (0, .ref 50), (1, .int (nB o))]) (st' := [.int (μ.1 50 13), .int ba]) (μ' := μ) (by rfl) ?_
  have hJ1 : Z 0 432 [(3, .int ba), (2, .int ha), (4, .long fo), (6, .int x6), (0, .ref 50), (1, .int (nB o))] [.int (nB (bif decide (ba = (μ.1 50 13)) then bif decide (ha = (μ.1 50 14)) then bif decide ((μ.1 50 23) = (μ.1 50 15)) then !(decide ((lg_cmp fo (μ.2.1 50 17)) ≤ 0)) else !(decide ((μ.1 50 23) ≤ (μ.1 50 15))) else !(decide (ha ≤ (μ.1 50 14))) else !(decide (ba ≤ (μ.1 50 13)))))] μ := by
    generalize hee2 : (bif decide (ba = (μ.1 50 13)) then bif decide (ha = (μ.1 50 14)) then bif decide ((μ.1 50 23) = (μ.1 50 15)) then !(decide ((lg_cmp fo (μ.2.1 50 17)) ≤ 0)) else !(decide ((μ.1 50 23) ≤ (μ.1 50 15))) else !(decide (ha ≤ (μ.1 50 14))) else !(decide (ba ≤ (μ.1 50 13)))) = ee2
    refine z_rcs hc hH 1 (pc' := 434) (lv' := [(6, .int (nB ee2)), (3, .int ba), (2, .int ha), (4, .long fo), (0, .ref 50), (1, .int (nB o))]) (st' := []) (μ' := μ) (by rfl) ?_
    subst hee2
    show Z 0 434 [(6, .int (nB (xBt μ ba ha fo))), (3, .int ba), (2, .int ha), (4, .long fo), (0, .ref 50), (1, .int (nB o))] [] μ
    have bt := xBt_iff μ ba ha fo
    generalize xBt μ ba ha fo = e at bt ⊢
    refine z_rcs hc hH 1 (pc' := 436) (lv' := [(6, .int (nB e)), (3, .int ba), (2, .int ha), (4, .long fo), (0, .ref 50), (1, .int (nB o))]) (st' := [.int (nB e)]) (μ' := μ) (by rfl) ?_
    refine zq_if hc hH (by rfl) (tg := 440) (by rfl) (fun h => ?_) (fun h => ?_)
    · have h : e = true := nB_n.mp (cm_ne.mp h)
      refine z_rcs hc hH 13 (pc' := 464) (lv' := [(6, .int (nB e)), (3, .int ba), (2, .int ha), (4, .long fo), (0, .ref 50), (1, .int (nB o))]) (st' := []) (μ' := z_uj (z_ui (z_ui (z_ui μ 50 13 ba) 50 14 ha) 50 15 (μ.1 50 23)) 50 17 fo) (by rfl) ?_
      have ge := bt.mp h
      exact hr 0 464 _ _ _ none (by decide +kernel) (by rfl) (⟨rfl, by exact a_Fz_uj (a_Fz_ui (a_Fz_ui (a_Fz_ui (a_Fz_rf _ _) (by decide +kernel)) (by decide +kernel)) (by decide +kernel)) (by decide +kernel), BS_one (Or.inl ⟨ge, rfl⟩)⟩)
    · have h : e = false := nB_z.mp (cn_ne.mp h)
      exact hr 0 439 _ _ _ none (by decide +kernel) (by rfl) (⟨rfl, a_Fz_rf _ _, BS_one (Or.inr ⟨fun g => absurd (bt.mpr g) (by rw [h]; decide), rfl⟩)⟩)
  refine zq_ic hc hH (by rfl) (tg := 363) (by rfl) (fun h3 => ?_) (fun h3 => ?_)
  · have h3 : (decide (ba = (μ.1 50 13))) = true := decide_eq_true (cm_eq9.mp h3)
    refine z_rcs hc hH 3 (pc' := 368) (lv' := [(3, .int ba), (2, .int ha), (4, .long fo), (6, .int x6), (0, .ref 50), (1, .int (nB o))]) (st' := [.int (μ.1 50 14), .int ha]) (μ' := μ) (by rfl) ?_
    refine zq_ic hc hH (by rfl) (tg := 387) (by rfl) (fun h4 => ?_) (fun h4 => ?_)
    · have h4 : (decide (ha = (μ.1 50 14))) = true := decide_eq_true (cm_eq9.mp h4)
      refine z_rcs hc hH 4 (pc' := 395) (lv' := [(3, .int ba), (2, .int ha), (4, .long fo), (6, .int x6), (0, .ref 50), (1, .int (nB o))]) (st' := [.int (μ.1 50 15), .int (μ.1 50 23)]) (μ' := μ) (by rfl) ?_
      refine zq_ic hc hH (by rfl) (tg := 417) (by rfl) (fun h5 => ?_) (fun h5 => ?_)
      · have h5 : (decide ((μ.1 50 23) = (μ.1 50 15))) = true := decide_eq_true (cm_eq9.mp h5)
        refine z_rcs hc hH 4 (pc' := 424) (lv' := [(3, .int ba), (2, .int ha), (4, .long fo), (6, .int x6), (0, .ref 50), (1, .int (nB o))]) (st' := [.int (lg_cmp fo (μ.2.1 50 17))]) (μ' := μ) (by rfl) ?_
        refine zq_if hc hH (by rfl) (tg := 431) (by rfl) (fun h6 => ?_) (fun h6 => ?_)
        · have h6 : (decide ((lg_cmp fo (μ.2.1 50 17)) ≤ 0)) = true := decide_eq_true (cm_le.mp h6)
          refine z_rcs hc hH 1 (pc' := 432) (lv' := [(3, .int ba), (2, .int ha), (4, .long fo), (6, .int x6), (0, .ref 50), (1, .int (nB o))]) (st' := [.int 0]) (μ' := μ) (by rfl) ?_
          exact zJ hJ1 rfl (by first | with_reducible rfl | (simp only [h3, h4, h5, h6, lb_f, Int64.or_zero, Int32.add_zero, nB_t, nB_f, Bool.not_true, Bool.not_false, Bool.and_true, Bool.true_and, Bool.false_and, Bool.and_false, Bool.or_true, Bool.true_or, Bool.false_or, Bool.or_false, cond_true, cond_false]; done) | rfl) rfl
        · have h6 : (decide ((lg_cmp fo (μ.2.1 50 17)) ≤ 0)) = false := decide_eq_false (cn_le.mp h6)
          refine z_rcs hc hH 2 (pc' := 432) (lv' := [(3, .int ba), (2, .int ha), (4, .long fo), (6, .int x6), (0, .ref 50), (1, .int (nB o))]) (st' := [.int 1]) (μ' := μ) (by rfl) ?_
          exact zJ hJ1 rfl (by first | with_reducible rfl | (simp only [h3, h4, h5, h6, lb_f, Int64.or_zero, Int32.add_zero, nB_t, nB_f, Bool.not_true, Bool.not_false, Bool.and_true, Bool.true_and, Bool.false_and, Bool.and_false, Bool.or_true, Bool.true_or, Bool.false_or, Bool.or_false, cond_true, cond_false]; done) | rfl) rfl
      · have h5 : (decide ((μ.1 50 23) = (μ.1 50 15))) = false := decide_eq_false (cn_eq.mp h5)
        refine z_rcs hc hH 4 (pc' := 406) (lv' := [(3, .int ba), (2, .int ha), (4, .long fo), (6, .int x6), (0, .ref 50), (1, .int (nB o))]) (st' := [.int (μ.1 50 15), .int (μ.1 50 23)]) (μ' := μ) (by rfl) ?_
        refine zq_ic hc hH (by rfl) (tg := 413) (by rfl) (fun h7 => ?_) (fun h7 => ?_)
        · have h7 : (decide ((μ.1 50 23) ≤ (μ.1 50 15))) = true := decide_eq_true (cm_le.mp h7)
          refine z_rcs hc hH 2 (pc' := 432) (lv' := [(3, .int ba), (2, .int ha), (4, .long fo), (6, .int x6), (0, .ref 50), (1, .int (nB o))]) (st' := [.int 0]) (μ' := μ) (by rfl) ?_
          exact zJ hJ1 rfl (by first | with_reducible rfl | (simp only [h3, h4, h5, h7, lb_f, Int64.or_zero, Int32.add_zero, nB_t, nB_f, Bool.not_true, Bool.not_false, Bool.and_true, Bool.true_and, Bool.false_and, Bool.and_false, Bool.or_true, Bool.true_or, Bool.false_or, Bool.or_false, cond_true, cond_false]; done) | rfl) rfl
        · have h7 : (decide ((μ.1 50 23) ≤ (μ.1 50 15))) = false := decide_eq_false (cn_le.mp h7)
          refine z_rcs hc hH 2 (pc' := 432) (lv' := [(3, .int ba), (2, .int ha), (4, .long fo), (6, .int x6), (0, .ref 50), (1, .int (nB o))]) (st' := [.int 1]) (μ' := μ) (by rfl) ?_
          exact zJ hJ1 rfl (by first | with_reducible rfl | (simp only [h3, h4, h5, h7, lb_f, Int64.or_zero, Int32.add_zero, nB_t, nB_f, Bool.not_true, Bool.not_false, Bool.and_true, Bool.true_and, Bool.false_and, Bool.and_false, Bool.or_true, Bool.true_or, Bool.false_or, Bool.or_false, cond_true, cond_false]; done) | rfl) rfl
    · have h4 : (decide (ha = (μ.1 50 14))) = false := decide_eq_false (cn_eq.mp h4)
      refine z_rcs hc hH 3 (pc' := 376) (lv' := [(3, .int ba), (2, .int ha), (4, .long fo), (6, .int x6), (0, .ref 50), (1, .int (nB o))]) (st' := [.int (μ.1 50 14), .int ha]) (μ' := μ) (by rfl) ?_
      refine zq_ic hc hH (by rfl) (tg := 383) (by rfl) (fun h8 => ?_) (fun h8 => ?_)
      · have h8 : (decide (ha ≤ (μ.1 50 14))) = true := decide_eq_true (cm_le.mp h8)
        refine z_rcs hc hH 2 (pc' := 432) (lv' := [(3, .int ba), (2, .int ha), (4, .long fo), (6, .int x6), (0, .ref 50), (1, .int (nB o))]) (st' := [.int 0]) (μ' := μ) (by rfl) ?_
        exact zJ hJ1 rfl (by first | with_reducible rfl | (simp only [h3, h4, h8, lb_f, Int64.or_zero, Int32.add_zero, nB_t, nB_f, Bool.not_true, Bool.not_false, Bool.and_true, Bool.true_and, Bool.false_and, Bool.and_false, Bool.or_true, Bool.true_or, Bool.false_or, Bool.or_false, cond_true, cond_false]; done) | rfl) rfl
      · have h8 : (decide (ha ≤ (μ.1 50 14))) = false := decide_eq_false (cn_le.mp h8)
        refine z_rcs hc hH 2 (pc' := 432) (lv' := [(3, .int ba), (2, .int ha), (4, .long fo), (6, .int x6), (0, .ref 50), (1, .int (nB o))]) (st' := [.int 1]) (μ' := μ) (by rfl) ?_
        exact zJ hJ1 rfl (by first | with_reducible rfl | (simp only [h3, h4, h8, lb_f, Int64.or_zero, Int32.add_zero, nB_t, nB_f, Bool.not_true, Bool.not_false, Bool.and_true, Bool.true_and, Bool.false_and, Bool.and_false, Bool.or_true, Bool.true_or, Bool.false_or, Bool.or_false, cond_true, cond_false]; done) | rfl) rfl
  · have h3 : (decide (ba = (μ.1 50 13))) = false := decide_eq_false (cn_eq.mp h3)
    refine z_rcs hc hH 3 (pc' := 352) (lv' := [(3, .int ba), (2, .int ha), (4, .long fo), (6, .int x6), (0, .ref 50), (1, .int (nB o))]) (st' := [.int (μ.1 50 13), .int ba]) (μ' := μ) (by rfl) ?_
    refine zq_ic hc hH (by rfl) (tg := 359) (by rfl) (fun h9 => ?_) (fun h9 => ?_)
    · have h9 : (decide (ba ≤ (μ.1 50 13))) = true := decide_eq_true (cm_le.mp h9)
      refine z_rcs hc hH 2 (pc' := 432) (lv' := [(3, .int ba), (2, .int ha), (4, .long fo), (6, .int x6), (0, .ref 50), (1, .int (nB o))]) (st' := [.int 0]) (μ' := μ) (by rfl) ?_
      exact zJ hJ1 rfl (by first | with_reducible rfl | (simp only [h3, h9, lb_f, Int64.or_zero, Int32.add_zero, nB_t, nB_f, Bool.not_true, Bool.not_false, Bool.and_true, Bool.true_and, Bool.false_and, Bool.and_false, Bool.or_true, Bool.true_or, Bool.false_or, Bool.or_false, cond_true, cond_false]; done) | rfl) rfl
    · have h9 : (decide (ba ≤ (μ.1 50 13))) = false := decide_eq_false (cn_le.mp h9)
      refine z_rcs hc hH 2 (pc' := 432) (lv' := [(3, .int ba), (2, .int ha), (4, .long fo), (6, .int x6), (0, .ref 50), (1, .int (nB o))]) (st' := [.int 1]) (μ' := μ) (by rfl) ?_
      exact zJ hJ1 rfl (by first | with_reducible rfl | (simp only [h3, h9, lb_f, Int64.or_zero, Int32.add_zero, nB_t, nB_f, Bool.not_true, Bool.not_false, Bool.and_true, Bool.true_and, Bool.false_and, Bool.and_false, Bool.or_true, Bool.true_or, Bool.false_or, Bool.or_false, cond_true, cond_false]; done) | rfl) rfl
/-! HAN and base of an offer: the reference -/
set_option maxRecDepth 8000
theorem fb_X7_han_0 (d : Nat) (hd : 1 ≤ d) (μ : zM) (o : Bool) : z_C d mi_X7_han [.int 0, .int (nB o)] μ (zR μ (.int (nB (!o)))) := by
  refine z_C_in (by decide) (by omega) (fun d' Z ed hc hr => ?_)
  have hH : zH mi_X7_han zt_X7_han 79 7 2 := hh_X7_han
  refine z_rcs hc hH 3 (pc' := 137) (lv' := [(0, .int 0), (1, .int (nB o))]) (st' := [.int (nB o)]) (μ' := μ) (by rfl) ?_
  have hJ1 : Z 0 145 [(0, .int 0), (1, .int (nB o))] [.int (nB (!o))] μ := by
    exact hr 0 145 _ _ _ (some (.int (nB (!o)))) (by decide +kernel) ((fun b : Bool => (by cases b <;> rfl : z_rn mi_X7_han 145 [.int (nB b)] = some (some (.int (nB b))))) (!o)) (⟨rfl, (by rfl)⟩)
  refine zq_if hc hH (by rfl) (tg := 144) (by rfl) (fun h2 => ?_) (fun h2 => ?_)
  · have h2 : (o) = false := nB_z.mp (cm_eq9.mp h2)
    refine z_rcs hc hH 1 (pc' := 145) (lv' := [(0, .int 0), (1, .int (nB o))]) (st' := [.int 1]) (μ' := μ) (by rfl) ?_
    exact zJ hJ1 rfl (by first | with_reducible rfl | (simp only [h2, lb_f, Int64.or_zero, Int32.add_zero, nB_t, nB_f, Bool.not_true, Bool.not_false, Bool.and_true, Bool.true_and, Bool.false_and, Bool.and_false, Bool.or_true, Bool.true_or, Bool.false_or, Bool.or_false, cond_true, cond_false]; done) | rfl) rfl
  · have h2 : (o) = true := nB_n.mp (cn_eq.mp h2)
    refine z_rcs hc hH 2 (pc' := 145) (lv' := [(0, .int 0), (1, .int (nB o))]) (st' := [.int 0]) (μ' := μ) (by rfl) ?_
    exact zJ hJ1 rfl (by first | with_reducible rfl | (simp only [h2, lb_f, Int64.or_zero, Int32.add_zero, nB_t, nB_f, Bool.not_true, Bool.not_false, Bool.and_true, Bool.true_and, Bool.false_and, Bool.and_false, Bool.or_true, Bool.true_or, Bool.false_or, Bool.or_false, cond_true, cond_false]; done) | rfl) rfl
theorem fb_X7_han_1 (d : Nat) (hd : 1 ≤ d) (μ : zM) (o : Bool) : z_C d mi_X7_han [.int 1, .int (nB o)] μ (zR μ (.int (bif o then (0 : Int32) else 2))) := by
  refine z_C_in (by decide) (by omega) (fun d' Z ed hc hr => ?_)
  have hH : zH mi_X7_han zt_X7_han 79 7 2 := hh_X7_han
  refine z_rcs hc hH 3 (pc' := 147) (lv' := [(0, .int 1), (1, .int (nB o))]) (st' := [.int (nB o)]) (μ' := μ) (by rfl) ?_
  have hJ1 : Z 0 155 [(0, .int 1), (1, .int (nB o))] [.int (bif o then (0 : Int32) else 2)] μ := by
    exact hr 0 155 _ _ _ (some (.int (bif o then (0 : Int32) else 2))) (by decide +kernel) (z_rx_ok hH (by rfl)) (⟨rfl, (by rfl)⟩)
  refine zq_if hc hH (by rfl) (tg := 154) (by rfl) (fun h2 => ?_) (fun h2 => ?_)
  · have h2 : (o) = false := nB_z.mp (cm_eq9.mp h2)
    refine z_rcs hc hH 1 (pc' := 155) (lv' := [(0, .int 1), (1, .int (nB o))]) (st' := [.int 2]) (μ' := μ) (by rfl) ?_
    exact zJ hJ1 rfl (by first | with_reducible rfl | (simp only [h2, lb_f, Int64.or_zero, Int32.add_zero, nB_t, nB_f, Bool.not_true, Bool.not_false, Bool.and_true, Bool.true_and, Bool.false_and, Bool.and_false, Bool.or_true, Bool.true_or, Bool.false_or, Bool.or_false, cond_true, cond_false]; done) | rfl) rfl
  · have h2 : (o) = true := nB_n.mp (cn_eq.mp h2)
    refine z_rcs hc hH 2 (pc' := 155) (lv' := [(0, .int 1), (1, .int (nB o))]) (st' := [.int 0]) (μ' := μ) (by rfl) ?_
    exact zJ hJ1 rfl (by first | with_reducible rfl | (simp only [h2, lb_f, Int64.or_zero, Int32.add_zero, nB_t, nB_f, Bool.not_true, Bool.not_false, Bool.and_true, Bool.true_and, Bool.false_and, Bool.and_false, Bool.or_true, Bool.true_or, Bool.false_or, Bool.or_false, cond_true, cond_false]; done) | rfl) rfl
theorem fb_X7_han_2 (d : Nat) (hd : 1 ≤ d) (μ : zM) (o : Bool) : z_C d mi_X7_han [.int 2, .int (nB o)] μ (zR μ (.int (nB (!o)))) := by
  refine z_C_in (by decide) (by omega) (fun d' Z ed hc hr => ?_)
  have hH : zH mi_X7_han zt_X7_han 79 7 2 := hh_X7_han
  refine z_rcs hc hH 3 (pc' := 137) (lv' := [(0, .int 2), (1, .int (nB o))]) (st' := [.int (nB o)]) (μ' := μ) (by rfl) ?_
  have hJ1 : Z 0 145 [(0, .int 2), (1, .int (nB o))] [.int (nB (!o))] μ := by
    exact hr 0 145 _ _ _ (some (.int (nB (!o)))) (by decide +kernel) ((fun b : Bool => (by cases b <;> rfl : z_rn mi_X7_han 145 [.int (nB b)] = some (some (.int (nB b))))) (!o)) (⟨rfl, (by rfl)⟩)
  refine zq_if hc hH (by rfl) (tg := 144) (by rfl) (fun h2 => ?_) (fun h2 => ?_)
  · have h2 : (o) = false := nB_z.mp (cm_eq9.mp h2)
    refine z_rcs hc hH 1 (pc' := 145) (lv' := [(0, .int 2), (1, .int (nB o))]) (st' := [.int 1]) (μ' := μ) (by rfl) ?_
    exact zJ hJ1 rfl (by first | with_reducible rfl | (simp only [h2, lb_f, Int64.or_zero, Int32.add_zero, nB_t, nB_f, Bool.not_true, Bool.not_false, Bool.and_true, Bool.true_and, Bool.false_and, Bool.and_false, Bool.or_true, Bool.true_or, Bool.false_or, Bool.or_false, cond_true, cond_false]; done) | rfl) rfl
  · have h2 : (o) = true := nB_n.mp (cn_eq.mp h2)
    refine z_rcs hc hH 2 (pc' := 145) (lv' := [(0, .int 2), (1, .int (nB o))]) (st' := [.int 0]) (μ' := μ) (by rfl) ?_
    exact zJ hJ1 rfl (by first | with_reducible rfl | (simp only [h2, lb_f, Int64.or_zero, Int32.add_zero, nB_t, nB_f, Bool.not_true, Bool.not_false, Bool.and_true, Bool.true_and, Bool.false_and, Bool.and_false, Bool.or_true, Bool.true_or, Bool.false_or, Bool.or_false, cond_true, cond_false]; done) | rfl) rfl
theorem fb_X7_han_3 (d : Nat) (hd : 1 ≤ d) (μ : zM) (o : Bool) : z_C d mi_X7_han [.int 3, .int (nB o)] μ (zR μ (.int (nB (!o)))) := by
  refine z_C_in (by decide) (by omega) (fun d' Z ed hc hr => ?_)
  have hH : zH mi_X7_han zt_X7_han 79 7 2 := hh_X7_han
  refine z_rcs hc hH 3 (pc' := 137) (lv' := [(0, .int 3), (1, .int (nB o))]) (st' := [.int (nB o)]) (μ' := μ) (by rfl) ?_
  have hJ1 : Z 0 145 [(0, .int 3), (1, .int (nB o))] [.int (nB (!o))] μ := by
    exact hr 0 145 _ _ _ (some (.int (nB (!o)))) (by decide +kernel) ((fun b : Bool => (by cases b <;> rfl : z_rn mi_X7_han 145 [.int (nB b)] = some (some (.int (nB b))))) (!o)) (⟨rfl, (by rfl)⟩)
  refine zq_if hc hH (by rfl) (tg := 144) (by rfl) (fun h2 => ?_) (fun h2 => ?_)
  · have h2 : (o) = false := nB_z.mp (cm_eq9.mp h2)
    refine z_rcs hc hH 1 (pc' := 145) (lv' := [(0, .int 3), (1, .int (nB o))]) (st' := [.int 1]) (μ' := μ) (by rfl) ?_
    exact zJ hJ1 rfl (by first | with_reducible rfl | (simp only [h2, lb_f, Int64.or_zero, Int32.add_zero, nB_t, nB_f, Bool.not_true, Bool.not_false, Bool.and_true, Bool.true_and, Bool.false_and, Bool.and_false, Bool.or_true, Bool.true_or, Bool.false_or, Bool.or_false, cond_true, cond_false]; done) | rfl) rfl
  · have h2 : (o) = true := nB_n.mp (cn_eq.mp h2)
    refine z_rcs hc hH 2 (pc' := 145) (lv' := [(0, .int 3), (1, .int (nB o))]) (st' := [.int 0]) (μ' := μ) (by rfl) ?_
    exact zJ hJ1 rfl (by first | with_reducible rfl | (simp only [h2, lb_f, Int64.or_zero, Int32.add_zero, nB_t, nB_f, Bool.not_true, Bool.not_false, Bool.and_true, Bool.true_and, Bool.false_and, Bool.and_false, Bool.or_true, Bool.true_or, Bool.false_or, Bool.or_false, cond_true, cond_false]; done) | rfl) rfl
theorem fb_X7_han_4 (d : Nat) (hd : 1 ≤ d) (μ : zM) (o : Bool) : z_C d mi_X7_han [.int 4, .int (nB o)] μ (zR μ (.int 1)) := by
  refine z_C_in (by decide) (by omega) (fun d' Z ed hc hr => ?_)
  have hH : zH mi_X7_han zt_X7_han 79 7 2 := hh_X7_han
  refine z_rcs hc hH 3 (pc' := 157) (lv' := [(0, .int 4), (1, .int (nB o))]) (st' := [.int 1]) (μ' := μ) (by rfl) ?_
  exact hr 0 157 _ _ _ (some (.int 1)) (by decide +kernel) (z_rx_ok hH (by rfl)) (⟨rfl, (by rfl)⟩)
theorem fb_X7_han_5 (d : Nat) (hd : 1 ≤ d) (μ : zM) (o : Bool) : z_C d mi_X7_han [.int 5, .int (nB o)] μ (zR μ (.int 1)) := by
  refine z_C_in (by decide) (by omega) (fun d' Z ed hc hr => ?_)
  have hH : zH mi_X7_han zt_X7_han 79 7 2 := hh_X7_han
  refine z_rcs hc hH 3 (pc' := 157) (lv' := [(0, .int 5), (1, .int (nB o))]) (st' := [.int 1]) (μ' := μ) (by rfl) ?_
  exact hr 0 157 _ _ _ (some (.int 1)) (by decide +kernel) (z_rx_ok hH (by rfl)) (⟨rfl, (by rfl)⟩)
theorem fb_X7_han_6 (d : Nat) (hd : 1 ≤ d) (μ : zM) (o : Bool) : z_C d mi_X7_han [.int 6, .int (nB o)] μ (zR μ (.int 1)) := by
  refine z_C_in (by decide) (by omega) (fun d' Z ed hc hr => ?_)
  have hH : zH mi_X7_han zt_X7_han 79 7 2 := hh_X7_han
  refine z_rcs hc hH 3 (pc' := 157) (lv' := [(0, .int 6), (1, .int (nB o))]) (st' := [.int 1]) (μ' := μ) (by rfl) ?_
  exact hr 0 157 _ _ _ (some (.int 1)) (by decide +kernel) (z_rx_ok hH (by rfl)) (⟨rfl, (by rfl)⟩)
theorem fb_X7_han_7 (d : Nat) (hd : 1 ≤ d) (μ : zM) (o : Bool) : z_C d mi_X7_han [.int 7, .int (nB o)] μ (zR μ (.int 1)) := by
  refine z_C_in (by decide) (by omega) (fun d' Z ed hc hr => ?_)
  have hH : zH mi_X7_han zt_X7_han 79 7 2 := hh_X7_han
  refine z_rcs hc hH 3 (pc' := 157) (lv' := [(0, .int 7), (1, .int (nB o))]) (st' := [.int 1]) (μ' := μ) (by rfl) ?_
  exact hr 0 157 _ _ _ (some (.int 1)) (by decide +kernel) (z_rx_ok hH (by rfl)) (⟨rfl, (by rfl)⟩)
theorem fb_X7_han_8 (d : Nat) (hd : 1 ≤ d) (μ : zM) (o : Bool) : z_C d mi_X7_han [.int 8, .int (nB o)] μ (zR μ (.int 1)) := by
  refine z_C_in (by decide) (by omega) (fun d' Z ed hc hr => ?_)
  have hH : zH mi_X7_han zt_X7_han 79 7 2 := hh_X7_han
  refine z_rcs hc hH 3 (pc' := 157) (lv' := [(0, .int 8), (1, .int (nB o))]) (st' := [.int 1]) (μ' := μ) (by rfl) ?_
  exact hr 0 157 _ _ _ (some (.int 1)) (by decide +kernel) (z_rx_ok hH (by rfl)) (⟨rfl, (by rfl)⟩)
theorem fb_X7_han_9 (d : Nat) (hd : 1 ≤ d) (μ : zM) (o : Bool) : z_C d mi_X7_han [.int 9, .int (nB o)] μ (zR μ (.int (nB (!o)))) := by
  refine z_C_in (by decide) (by omega) (fun d' Z ed hc hr => ?_)
  have hH : zH mi_X7_han zt_X7_han 79 7 2 := hh_X7_han
  refine z_rcs hc hH 3 (pc' := 137) (lv' := [(0, .int 9), (1, .int (nB o))]) (st' := [.int (nB o)]) (μ' := μ) (by rfl) ?_
  have hJ1 : Z 0 145 [(0, .int 9), (1, .int (nB o))] [.int (nB (!o))] μ := by
    exact hr 0 145 _ _ _ (some (.int (nB (!o)))) (by decide +kernel) ((fun b : Bool => (by cases b <;> rfl : z_rn mi_X7_han 145 [.int (nB b)] = some (some (.int (nB b))))) (!o)) (⟨rfl, (by rfl)⟩)
  refine zq_if hc hH (by rfl) (tg := 144) (by rfl) (fun h2 => ?_) (fun h2 => ?_)
  · have h2 : (o) = false := nB_z.mp (cm_eq9.mp h2)
    refine z_rcs hc hH 1 (pc' := 145) (lv' := [(0, .int 9), (1, .int (nB o))]) (st' := [.int 1]) (μ' := μ) (by rfl) ?_
    exact zJ hJ1 rfl (by first | with_reducible rfl | (simp only [h2, lb_f, Int64.or_zero, Int32.add_zero, nB_t, nB_f, Bool.not_true, Bool.not_false, Bool.and_true, Bool.true_and, Bool.false_and, Bool.and_false, Bool.or_true, Bool.true_or, Bool.false_or, Bool.or_false, cond_true, cond_false]; done) | rfl) rfl
  · have h2 : (o) = true := nB_n.mp (cn_eq.mp h2)
    refine z_rcs hc hH 2 (pc' := 145) (lv' := [(0, .int 9), (1, .int (nB o))]) (st' := [.int 0]) (μ' := μ) (by rfl) ?_
    exact zJ hJ1 rfl (by first | with_reducible rfl | (simp only [h2, lb_f, Int64.or_zero, Int32.add_zero, nB_t, nB_f, Bool.not_true, Bool.not_false, Bool.and_true, Bool.true_and, Bool.false_and, Bool.and_false, Bool.or_true, Bool.true_or, Bool.false_or, Bool.or_false, cond_true, cond_false]; done) | rfl) rfl
theorem fb_X7_han_10 (d : Nat) (hd : 1 ≤ d) (μ : zM) (o : Bool) : z_C d mi_X7_han [.int 10, .int (nB o)] μ (zR μ (.int (nB (!o)))) := by
  refine z_C_in (by decide) (by omega) (fun d' Z ed hc hr => ?_)
  have hH : zH mi_X7_han zt_X7_han 79 7 2 := hh_X7_han
  refine z_rcs hc hH 3 (pc' := 137) (lv' := [(0, .int 10), (1, .int (nB o))]) (st' := [.int (nB o)]) (μ' := μ) (by rfl) ?_
  have hJ1 : Z 0 145 [(0, .int 10), (1, .int (nB o))] [.int (nB (!o))] μ := by
    exact hr 0 145 _ _ _ (some (.int (nB (!o)))) (by decide +kernel) ((fun b : Bool => (by cases b <;> rfl : z_rn mi_X7_han 145 [.int (nB b)] = some (some (.int (nB b))))) (!o)) (⟨rfl, (by rfl)⟩)
  refine zq_if hc hH (by rfl) (tg := 144) (by rfl) (fun h2 => ?_) (fun h2 => ?_)
  · have h2 : (o) = false := nB_z.mp (cm_eq9.mp h2)
    refine z_rcs hc hH 1 (pc' := 145) (lv' := [(0, .int 10), (1, .int (nB o))]) (st' := [.int 1]) (μ' := μ) (by rfl) ?_
    exact zJ hJ1 rfl (by first | with_reducible rfl | (simp only [h2, lb_f, Int64.or_zero, Int32.add_zero, nB_t, nB_f, Bool.not_true, Bool.not_false, Bool.and_true, Bool.true_and, Bool.false_and, Bool.and_false, Bool.or_true, Bool.true_or, Bool.false_or, Bool.or_false, cond_true, cond_false]; done) | rfl) rfl
  · have h2 : (o) = true := nB_n.mp (cn_eq.mp h2)
    refine z_rcs hc hH 2 (pc' := 145) (lv' := [(0, .int 10), (1, .int (nB o))]) (st' := [.int 0]) (μ' := μ) (by rfl) ?_
    exact zJ hJ1 rfl (by first | with_reducible rfl | (simp only [h2, lb_f, Int64.or_zero, Int32.add_zero, nB_t, nB_f, Bool.not_true, Bool.not_false, Bool.and_true, Bool.true_and, Bool.false_and, Bool.and_false, Bool.or_true, Bool.true_or, Bool.false_or, Bool.or_false, cond_true, cond_false]; done) | rfl) rfl
theorem fb_X7_han_11 (d : Nat) (hd : 1 ≤ d) (μ : zM) (o : Bool) : z_C d mi_X7_han [.int 11, .int (nB o)] μ (zR μ (.int 1)) := by
  refine z_C_in (by decide) (by omega) (fun d' Z ed hc hr => ?_)
  have hH : zH mi_X7_han zt_X7_han 79 7 2 := hh_X7_han
  refine z_rcs hc hH 3 (pc' := 157) (lv' := [(0, .int 11), (1, .int (nB o))]) (st' := [.int 1]) (μ' := μ) (by rfl) ?_
  exact hr 0 157 _ _ _ (some (.int 1)) (by decide +kernel) (z_rx_ok hH (by rfl)) (⟨rfl, (by rfl)⟩)
theorem fb_X7_han_12 (d : Nat) (hd : 1 ≤ d) (μ : zM) (o : Bool) : z_C d mi_X7_han [.int 12, .int (nB o)] μ (zR μ (.int 1)) := by
  refine z_C_in (by decide) (by omega) (fun d' Z ed hc hr => ?_)
  have hH : zH mi_X7_han zt_X7_han 79 7 2 := hh_X7_han
  refine z_rcs hc hH 3 (pc' := 157) (lv' := [(0, .int 12), (1, .int (nB o))]) (st' := [.int 1]) (μ' := μ) (by rfl) ?_
  exact hr 0 157 _ _ _ (some (.int 1)) (by decide +kernel) (z_rx_ok hH (by rfl)) (⟨rfl, (by rfl)⟩)
theorem fb_X7_han_13 (d : Nat) (hd : 1 ≤ d) (μ : zM) (o : Bool) : z_C d mi_X7_han [.int 13, .int (nB o)] μ (zR μ (.int 1)) := by
  refine z_C_in (by decide) (by omega) (fun d' Z ed hc hr => ?_)
  have hH : zH mi_X7_han zt_X7_han 79 7 2 := hh_X7_han
  refine z_rcs hc hH 3 (pc' := 157) (lv' := [(0, .int 13), (1, .int (nB o))]) (st' := [.int 1]) (μ' := μ) (by rfl) ?_
  exact hr 0 157 _ _ _ (some (.int 1)) (by decide +kernel) (z_rx_ok hH (by rfl)) (⟨rfl, (by rfl)⟩)
theorem fb_X7_han_14 (d : Nat) (hd : 1 ≤ d) (μ : zM) (o : Bool) : z_C d mi_X7_han [.int 14, .int (nB o)] μ (zR μ (.int 1)) := by
  refine z_C_in (by decide) (by omega) (fun d' Z ed hc hr => ?_)
  have hH : zH mi_X7_han zt_X7_han 79 7 2 := hh_X7_han
  refine z_rcs hc hH 3 (pc' := 157) (lv' := [(0, .int 14), (1, .int (nB o))]) (st' := [.int 1]) (μ' := μ) (by rfl) ?_
  exact hr 0 157 _ _ _ (some (.int 1)) (by decide +kernel) (z_rx_ok hH (by rfl)) (⟨rfl, (by rfl)⟩)
theorem fb_X7_han_15 (d : Nat) (hd : 1 ≤ d) (μ : zM) (o : Bool) : z_C d mi_X7_han [.int 15, .int (nB o)] μ (zR μ (.int 1)) := by
  refine z_C_in (by decide) (by omega) (fun d' Z ed hc hr => ?_)
  have hH : zH mi_X7_han zt_X7_han 79 7 2 := hh_X7_han
  refine z_rcs hc hH 3 (pc' := 157) (lv' := [(0, .int 15), (1, .int (nB o))]) (st' := [.int 1]) (μ' := μ) (by rfl) ?_
  exact hr 0 157 _ _ _ (some (.int 1)) (by decide +kernel) (z_rx_ok hH (by rfl)) (⟨rfl, (by rfl)⟩)
theorem fb_X7_han_16 (d : Nat) (hd : 1 ≤ d) (μ : zM) (o : Bool) : z_C d mi_X7_han [.int 16, .int (nB o)] μ (zR μ (.int 2)) := by
  refine z_C_in (by decide) (by omega) (fun d' Z ed hc hr => ?_)
  have hH : zH mi_X7_han zt_X7_han 79 7 2 := hh_X7_han
  refine z_rcs hc hH 3 (pc' := 200) (lv' := [(0, .int 16), (1, .int (nB o))]) (st' := [.int 2]) (μ' := μ) (by rfl) ?_
  exact hr 0 200 _ _ _ (some (.int 2)) (by decide +kernel) (z_rx_ok hH (by rfl)) (⟨rfl, (by rfl)⟩)
theorem fb_X7_han_17 (d : Nat) (hd : 1 ≤ d) (μ : zM) (o : Bool) : z_C d mi_X7_han [.int 17, .int (nB o)] μ (zR μ (.int (bif o then (1 : Int32) else 2))) := by
  refine z_C_in (by decide) (by omega) (fun d' Z ed hc hr => ?_)
  have hH : zH mi_X7_han zt_X7_han 79 7 2 := hh_X7_han
  refine z_rcs hc hH 3 (pc' := 159) (lv' := [(0, .int 17), (1, .int (nB o))]) (st' := [.int (nB o)]) (μ' := μ) (by rfl) ?_
  have hJ1 : Z 0 167 [(0, .int 17), (1, .int (nB o))] [.int (bif o then (1 : Int32) else 2)] μ := by
    exact hr 0 167 _ _ _ (some (.int (bif o then (1 : Int32) else 2))) (by decide +kernel) (z_rx_ok hH (by rfl)) (⟨rfl, (by rfl)⟩)
  refine zq_if hc hH (by rfl) (tg := 166) (by rfl) (fun h2 => ?_) (fun h2 => ?_)
  · have h2 : (o) = false := nB_z.mp (cm_eq9.mp h2)
    refine z_rcs hc hH 1 (pc' := 167) (lv' := [(0, .int 17), (1, .int (nB o))]) (st' := [.int 2]) (μ' := μ) (by rfl) ?_
    exact zJ hJ1 rfl (by first | with_reducible rfl | (simp only [h2, lb_f, Int64.or_zero, Int32.add_zero, nB_t, nB_f, Bool.not_true, Bool.not_false, Bool.and_true, Bool.true_and, Bool.false_and, Bool.and_false, Bool.or_true, Bool.true_or, Bool.false_or, Bool.or_false, cond_true, cond_false]; done) | rfl) rfl
  · have h2 : (o) = true := nB_n.mp (cn_eq.mp h2)
    refine z_rcs hc hH 2 (pc' := 167) (lv' := [(0, .int 17), (1, .int (nB o))]) (st' := [.int 1]) (μ' := μ) (by rfl) ?_
    exact zJ hJ1 rfl (by first | with_reducible rfl | (simp only [h2, lb_f, Int64.or_zero, Int32.add_zero, nB_t, nB_f, Bool.not_true, Bool.not_false, Bool.and_true, Bool.true_and, Bool.false_and, Bool.and_false, Bool.or_true, Bool.true_or, Bool.false_or, Bool.or_false, cond_true, cond_false]; done) | rfl) rfl
theorem fb_X7_han_18 (d : Nat) (hd : 1 ≤ d) (μ : zM) (o : Bool) : z_C d mi_X7_han [.int 18, .int (nB o)] μ (zR μ (.int (bif o then (1 : Int32) else 2))) := by
  refine z_C_in (by decide) (by omega) (fun d' Z ed hc hr => ?_)
  have hH : zH mi_X7_han zt_X7_han 79 7 2 := hh_X7_han
  refine z_rcs hc hH 3 (pc' := 159) (lv' := [(0, .int 18), (1, .int (nB o))]) (st' := [.int (nB o)]) (μ' := μ) (by rfl) ?_
  have hJ1 : Z 0 167 [(0, .int 18), (1, .int (nB o))] [.int (bif o then (1 : Int32) else 2)] μ := by
    exact hr 0 167 _ _ _ (some (.int (bif o then (1 : Int32) else 2))) (by decide +kernel) (z_rx_ok hH (by rfl)) (⟨rfl, (by rfl)⟩)
  refine zq_if hc hH (by rfl) (tg := 166) (by rfl) (fun h2 => ?_) (fun h2 => ?_)
  · have h2 : (o) = false := nB_z.mp (cm_eq9.mp h2)
    refine z_rcs hc hH 1 (pc' := 167) (lv' := [(0, .int 18), (1, .int (nB o))]) (st' := [.int 2]) (μ' := μ) (by rfl) ?_
    exact zJ hJ1 rfl (by first | with_reducible rfl | (simp only [h2, lb_f, Int64.or_zero, Int32.add_zero, nB_t, nB_f, Bool.not_true, Bool.not_false, Bool.and_true, Bool.true_and, Bool.false_and, Bool.and_false, Bool.or_true, Bool.true_or, Bool.false_or, Bool.or_false, cond_true, cond_false]; done) | rfl) rfl
  · have h2 : (o) = true := nB_n.mp (cn_eq.mp h2)
    refine z_rcs hc hH 2 (pc' := 167) (lv' := [(0, .int 18), (1, .int (nB o))]) (st' := [.int 1]) (μ' := μ) (by rfl) ?_
    exact zJ hJ1 rfl (by first | with_reducible rfl | (simp only [h2, lb_f, Int64.or_zero, Int32.add_zero, nB_t, nB_f, Bool.not_true, Bool.not_false, Bool.and_true, Bool.true_and, Bool.false_and, Bool.and_false, Bool.or_true, Bool.true_or, Bool.false_or, Bool.or_false, cond_true, cond_false]; done) | rfl) rfl
theorem fb_X7_han_19 (d : Nat) (hd : 1 ≤ d) (μ : zM) (o : Bool) : z_C d mi_X7_han [.int 19, .int (nB o)] μ (zR μ (.int 2)) := by
  refine z_C_in (by decide) (by omega) (fun d' Z ed hc hr => ?_)
  have hH : zH mi_X7_han zt_X7_han 79 7 2 := hh_X7_han
  refine z_rcs hc hH 3 (pc' := 200) (lv' := [(0, .int 19), (1, .int (nB o))]) (st' := [.int 2]) (μ' := μ) (by rfl) ?_
  exact hr 0 200 _ _ _ (some (.int 2)) (by decide +kernel) (z_rx_ok hH (by rfl)) (⟨rfl, (by rfl)⟩)
theorem fb_X7_han_20 (d : Nat) (hd : 1 ≤ d) (μ : zM) (o : Bool) : z_C d mi_X7_han [.int 20, .int (nB o)] μ (zR μ (.int 2)) := by
  refine z_C_in (by decide) (by omega) (fun d' Z ed hc hr => ?_)
  have hH : zH mi_X7_han zt_X7_han 79 7 2 := hh_X7_han
  refine z_rcs hc hH 3 (pc' := 200) (lv' := [(0, .int 20), (1, .int (nB o))]) (st' := [.int 2]) (μ' := μ) (by rfl) ?_
  exact hr 0 200 _ _ _ (some (.int 2)) (by decide +kernel) (z_rx_ok hH (by rfl)) (⟨rfl, (by rfl)⟩)
theorem fb_X7_han_21 (d : Nat) (hd : 1 ≤ d) (μ : zM) (o : Bool) : z_C d mi_X7_han [.int 21, .int (nB o)] μ (zR μ (.int 2)) := by
  refine z_C_in (by decide) (by omega) (fun d' Z ed hc hr => ?_)
  have hH : zH mi_X7_han zt_X7_han 79 7 2 := hh_X7_han
  refine z_rcs hc hH 3 (pc' := 200) (lv' := [(0, .int 21), (1, .int (nB o))]) (st' := [.int 2]) (μ' := μ) (by rfl) ?_
  exact hr 0 200 _ _ _ (some (.int 2)) (by decide +kernel) (z_rx_ok hH (by rfl)) (⟨rfl, (by rfl)⟩)
theorem fb_X7_han_22 (d : Nat) (hd : 1 ≤ d) (μ : zM) (o : Bool) : z_C d mi_X7_han [.int 22, .int (nB o)] μ (zR μ (.int 2)) := by
  refine z_C_in (by decide) (by omega) (fun d' Z ed hc hr => ?_)
  have hH : zH mi_X7_han zt_X7_han 79 7 2 := hh_X7_han
  refine z_rcs hc hH 3 (pc' := 200) (lv' := [(0, .int 22), (1, .int (nB o))]) (st' := [.int 2]) (μ' := μ) (by rfl) ?_
  exact hr 0 200 _ _ _ (some (.int 2)) (by decide +kernel) (z_rx_ok hH (by rfl)) (⟨rfl, (by rfl)⟩)
theorem fb_X7_han_23 (d : Nat) (hd : 1 ≤ d) (μ : zM) (o : Bool) : z_C d mi_X7_han [.int 23, .int (nB o)] μ (zR μ (.int (bif o then (1 : Int32) else 2))) := by
  refine z_C_in (by decide) (by omega) (fun d' Z ed hc hr => ?_)
  have hH : zH mi_X7_han zt_X7_han 79 7 2 := hh_X7_han
  refine z_rcs hc hH 3 (pc' := 159) (lv' := [(0, .int 23), (1, .int (nB o))]) (st' := [.int (nB o)]) (μ' := μ) (by rfl) ?_
  have hJ1 : Z 0 167 [(0, .int 23), (1, .int (nB o))] [.int (bif o then (1 : Int32) else 2)] μ := by
    exact hr 0 167 _ _ _ (some (.int (bif o then (1 : Int32) else 2))) (by decide +kernel) (z_rx_ok hH (by rfl)) (⟨rfl, (by rfl)⟩)
  refine zq_if hc hH (by rfl) (tg := 166) (by rfl) (fun h2 => ?_) (fun h2 => ?_)
  · have h2 : (o) = false := nB_z.mp (cm_eq9.mp h2)
    refine z_rcs hc hH 1 (pc' := 167) (lv' := [(0, .int 23), (1, .int (nB o))]) (st' := [.int 2]) (μ' := μ) (by rfl) ?_
    exact zJ hJ1 rfl (by first | with_reducible rfl | (simp only [h2, lb_f, Int64.or_zero, Int32.add_zero, nB_t, nB_f, Bool.not_true, Bool.not_false, Bool.and_true, Bool.true_and, Bool.false_and, Bool.and_false, Bool.or_true, Bool.true_or, Bool.false_or, Bool.or_false, cond_true, cond_false]; done) | rfl) rfl
  · have h2 : (o) = true := nB_n.mp (cn_eq.mp h2)
    refine z_rcs hc hH 2 (pc' := 167) (lv' := [(0, .int 23), (1, .int (nB o))]) (st' := [.int 1]) (μ' := μ) (by rfl) ?_
    exact zJ hJ1 rfl (by first | with_reducible rfl | (simp only [h2, lb_f, Int64.or_zero, Int32.add_zero, nB_t, nB_f, Bool.not_true, Bool.not_false, Bool.and_true, Bool.true_and, Bool.false_and, Bool.and_false, Bool.or_true, Bool.true_or, Bool.false_or, Bool.or_false, cond_true, cond_false]; done) | rfl) rfl
theorem fb_X7_han_24 (d : Nat) (hd : 1 ≤ d) (μ : zM) (o : Bool) : z_C d mi_X7_han [.int 24, .int (nB o)] μ (zR μ (.int 2)) := by
  refine z_C_in (by decide) (by omega) (fun d' Z ed hc hr => ?_)
  have hH : zH mi_X7_han zt_X7_han 79 7 2 := hh_X7_han
  refine z_rcs hc hH 3 (pc' := 200) (lv' := [(0, .int 24), (1, .int (nB o))]) (st' := [.int 2]) (μ' := μ) (by rfl) ?_
  exact hr 0 200 _ _ _ (some (.int 2)) (by decide +kernel) (z_rx_ok hH (by rfl)) (⟨rfl, (by rfl)⟩)
theorem fb_X7_han_25 (d : Nat) (hd : 1 ≤ d) (μ : zM) (o : Bool) : z_C d mi_X7_han [.int 25, .int (nB o)] μ (zR μ (.int 2)) := by
  refine z_C_in (by decide) (by omega) (fun d' Z ed hc hr => ?_)
  have hH : zH mi_X7_han zt_X7_han 79 7 2 := hh_X7_han
  refine z_rcs hc hH 3 (pc' := 200) (lv' := [(0, .int 25), (1, .int (nB o))]) (st' := [.int 2]) (μ' := μ) (by rfl) ?_
  exact hr 0 200 _ _ _ (some (.int 2)) (by decide +kernel) (z_rx_ok hH (by rfl)) (⟨rfl, (by rfl)⟩)
theorem fb_X7_han_26 (d : Nat) (hd : 1 ≤ d) (μ : zM) (o : Bool) : z_C d mi_X7_han [.int 26, .int (nB o)] μ (zR μ (.int (bif o then (2 : Int32) else 3))) := by
  refine z_C_in (by decide) (by omega) (fun d' Z ed hc hr => ?_)
  have hH : zH mi_X7_han zt_X7_han 79 7 2 := hh_X7_han
  refine z_rcs hc hH 3 (pc' := 169) (lv' := [(0, .int 26), (1, .int (nB o))]) (st' := [.int (nB o)]) (μ' := μ) (by rfl) ?_
  have hJ1 : Z 0 177 [(0, .int 26), (1, .int (nB o))] [.int (bif o then (2 : Int32) else 3)] μ := by
    exact hr 0 177 _ _ _ (some (.int (bif o then (2 : Int32) else 3))) (by decide +kernel) (z_rx_ok hH (by rfl)) (⟨rfl, (by rfl)⟩)
  refine zq_if hc hH (by rfl) (tg := 176) (by rfl) (fun h2 => ?_) (fun h2 => ?_)
  · have h2 : (o) = false := nB_z.mp (cm_eq9.mp h2)
    refine z_rcs hc hH 1 (pc' := 177) (lv' := [(0, .int 26), (1, .int (nB o))]) (st' := [.int 3]) (μ' := μ) (by rfl) ?_
    exact zJ hJ1 rfl (by first | with_reducible rfl | (simp only [h2, lb_f, Int64.or_zero, Int32.add_zero, nB_t, nB_f, Bool.not_true, Bool.not_false, Bool.and_true, Bool.true_and, Bool.false_and, Bool.and_false, Bool.or_true, Bool.true_or, Bool.false_or, Bool.or_false, cond_true, cond_false]; done) | rfl) rfl
  · have h2 : (o) = true := nB_n.mp (cn_eq.mp h2)
    refine z_rcs hc hH 2 (pc' := 177) (lv' := [(0, .int 26), (1, .int (nB o))]) (st' := [.int 2]) (μ' := μ) (by rfl) ?_
    exact zJ hJ1 rfl (by first | with_reducible rfl | (simp only [h2, lb_f, Int64.or_zero, Int32.add_zero, nB_t, nB_f, Bool.not_true, Bool.not_false, Bool.and_true, Bool.true_and, Bool.false_and, Bool.and_false, Bool.or_true, Bool.true_or, Bool.false_or, Bool.or_false, cond_true, cond_false]; done) | rfl) rfl
theorem fb_X7_han_27 (d : Nat) (hd : 1 ≤ d) (μ : zM) (o : Bool) : z_C d mi_X7_han [.int 27, .int (nB o)] μ (zR μ (.int (bif o then (2 : Int32) else 3))) := by
  refine z_C_in (by decide) (by omega) (fun d' Z ed hc hr => ?_)
  have hH : zH mi_X7_han zt_X7_han 79 7 2 := hh_X7_han
  refine z_rcs hc hH 3 (pc' := 169) (lv' := [(0, .int 27), (1, .int (nB o))]) (st' := [.int (nB o)]) (μ' := μ) (by rfl) ?_
  have hJ1 : Z 0 177 [(0, .int 27), (1, .int (nB o))] [.int (bif o then (2 : Int32) else 3)] μ := by
    exact hr 0 177 _ _ _ (some (.int (bif o then (2 : Int32) else 3))) (by decide +kernel) (z_rx_ok hH (by rfl)) (⟨rfl, (by rfl)⟩)
  refine zq_if hc hH (by rfl) (tg := 176) (by rfl) (fun h2 => ?_) (fun h2 => ?_)
  · have h2 : (o) = false := nB_z.mp (cm_eq9.mp h2)
    refine z_rcs hc hH 1 (pc' := 177) (lv' := [(0, .int 27), (1, .int (nB o))]) (st' := [.int 3]) (μ' := μ) (by rfl) ?_
    exact zJ hJ1 rfl (by first | with_reducible rfl | (simp only [h2, lb_f, Int64.or_zero, Int32.add_zero, nB_t, nB_f, Bool.not_true, Bool.not_false, Bool.and_true, Bool.true_and, Bool.false_and, Bool.and_false, Bool.or_true, Bool.true_or, Bool.false_or, Bool.or_false, cond_true, cond_false]; done) | rfl) rfl
  · have h2 : (o) = true := nB_n.mp (cn_eq.mp h2)
    refine z_rcs hc hH 2 (pc' := 177) (lv' := [(0, .int 27), (1, .int (nB o))]) (st' := [.int 2]) (μ' := μ) (by rfl) ?_
    exact zJ hJ1 rfl (by first | with_reducible rfl | (simp only [h2, lb_f, Int64.or_zero, Int32.add_zero, nB_t, nB_f, Bool.not_true, Bool.not_false, Bool.and_true, Bool.true_and, Bool.false_and, Bool.and_false, Bool.or_true, Bool.true_or, Bool.false_or, Bool.or_false, cond_true, cond_false]; done) | rfl) rfl
theorem fb_X7_han_28 (d : Nat) (hd : 1 ≤ d) (μ : zM) (o : Bool) : z_C d mi_X7_han [.int 28, .int (nB o)] μ (zR μ (.int (bif o then (0 : Int32) else 3))) := by
  refine z_C_in (by decide) (by omega) (fun d' Z ed hc hr => ?_)
  have hH : zH mi_X7_han zt_X7_han 79 7 2 := hh_X7_han
  refine z_rcs hc hH 3 (pc' := 179) (lv' := [(0, .int 28), (1, .int (nB o))]) (st' := [.int (nB o)]) (μ' := μ) (by rfl) ?_
  have hJ1 : Z 0 187 [(0, .int 28), (1, .int (nB o))] [.int (bif o then (0 : Int32) else 3)] μ := by
    exact hr 0 187 _ _ _ (some (.int (bif o then (0 : Int32) else 3))) (by decide +kernel) (z_rx_ok hH (by rfl)) (⟨rfl, (by rfl)⟩)
  refine zq_if hc hH (by rfl) (tg := 186) (by rfl) (fun h2 => ?_) (fun h2 => ?_)
  · have h2 : (o) = false := nB_z.mp (cm_eq9.mp h2)
    refine z_rcs hc hH 1 (pc' := 187) (lv' := [(0, .int 28), (1, .int (nB o))]) (st' := [.int 3]) (μ' := μ) (by rfl) ?_
    exact zJ hJ1 rfl (by first | with_reducible rfl | (simp only [h2, lb_f, Int64.or_zero, Int32.add_zero, nB_t, nB_f, Bool.not_true, Bool.not_false, Bool.and_true, Bool.true_and, Bool.false_and, Bool.and_false, Bool.or_true, Bool.true_or, Bool.false_or, Bool.or_false, cond_true, cond_false]; done) | rfl) rfl
  · have h2 : (o) = true := nB_n.mp (cn_eq.mp h2)
    refine z_rcs hc hH 2 (pc' := 187) (lv' := [(0, .int 28), (1, .int (nB o))]) (st' := [.int 0]) (μ' := μ) (by rfl) ?_
    exact zJ hJ1 rfl (by first | with_reducible rfl | (simp only [h2, lb_f, Int64.or_zero, Int32.add_zero, nB_t, nB_f, Bool.not_true, Bool.not_false, Bool.and_true, Bool.true_and, Bool.false_and, Bool.and_false, Bool.or_true, Bool.true_or, Bool.false_or, Bool.or_false, cond_true, cond_false]; done) | rfl) rfl
theorem fb_X7_han_29 (d : Nat) (hd : 1 ≤ d) (μ : zM) (o : Bool) : z_C d mi_X7_han [.int 29, .int (nB o)] μ (zR μ (.int (bif o then (5 : Int32) else 6))) := by
  refine z_C_in (by decide) (by omega) (fun d' Z ed hc hr => ?_)
  have hH : zH mi_X7_han zt_X7_han 79 7 2 := hh_X7_han
  refine z_rcs hc hH 3 (pc' := 189) (lv' := [(0, .int 29), (1, .int (nB o))]) (st' := [.int (nB o)]) (μ' := μ) (by rfl) ?_
  have hJ1 : Z 0 198 [(0, .int 29), (1, .int (nB o))] [.int (bif o then (5 : Int32) else 6)] μ := by
    exact hr 0 198 _ _ _ (some (.int (bif o then (5 : Int32) else 6))) (by decide +kernel) (z_rx_ok hH (by rfl)) (⟨rfl, (by rfl)⟩)
  refine zq_if hc hH (by rfl) (tg := 196) (by rfl) (fun h2 => ?_) (fun h2 => ?_)
  · have h2 : (o) = false := nB_z.mp (cm_eq9.mp h2)
    refine z_rcs hc hH 1 (pc' := 198) (lv' := [(0, .int 29), (1, .int (nB o))]) (st' := [.int 6]) (μ' := μ) (by rfl) ?_
    exact zJ hJ1 rfl (by first | with_reducible rfl | (simp only [h2, lb_f, Int64.or_zero, Int32.add_zero, nB_t, nB_f, Bool.not_true, Bool.not_false, Bool.and_true, Bool.true_and, Bool.false_and, Bool.and_false, Bool.or_true, Bool.true_or, Bool.false_or, Bool.or_false, cond_true, cond_false]; done) | rfl) rfl
  · have h2 : (o) = true := nB_n.mp (cn_eq.mp h2)
    refine z_rcs hc hH 2 (pc' := 198) (lv' := [(0, .int 29), (1, .int (nB o))]) (st' := [.int 5]) (μ' := μ) (by rfl) ?_
    exact zJ hJ1 rfl (by first | with_reducible rfl | (simp only [h2, lb_f, Int64.or_zero, Int32.add_zero, nB_t, nB_f, Bool.not_true, Bool.not_false, Bool.and_true, Bool.true_and, Bool.false_and, Bool.and_false, Bool.or_true, Bool.true_or, Bool.false_or, Bool.or_false, cond_true, cond_false]; done) | rfl) rfl
theorem cq0 (d' : Nat) (Z : zK) (hd : 1 ≤ d') (μ : zM) (hc : z_clo z_x0 mi_X7_compare (z_C d') Z) (b1 : Bool) (g p : Int64) (f : Int32) (K : Z 0 141 [(2, .int 0), (0, .ref 50), (1, .int (nB b1))] [] (mGP μ (g ||| ((μ.2.1 50 12) &&& ((lb true 42) ||| (lb true 43)))) (bif b1 then p ||| ((μ.2.1 50 12) &&& ((((lb true 4) ||| (lb true 5)) ||| (lb true 6)) ||| (lb true 7))) else (bif decide ((lg_cmp ((μ.2.1 50 12) &&& (lb true 1)) 0) = 0) then ((p ||| ((μ.2.1 50 12) &&& ((((lb true 4) ||| (lb true 5)) ||| (lb true 6)) ||| (lb true 7)))) ||| ((μ.2.1 50 12) &&& ((lb true 1) ||| (lb true 2)))) ||| ((μ.2.1 50 12) &&& (lb true 0)) else (p ||| ((μ.2.1 50 12) &&& ((((lb true 4) ||| (lb true 5)) ||| (lb true 6)) ||| (lb true 7)))) ||| ((μ.2.1 50 12) &&& ((lb true 1) ||| (lb true 2)))) ||| (lb (!(decide ((μ.1 50 11) = 0))) 3)) f)) : Z 0 0 [(0, .ref 50), (1, .int (nB b1))] [] (mGP μ g p f) := by
  have hH : zH mi_X7_compare zt_X7_compare 79 7 7 := hh_X7_compare
  refine z_rcs hc hH 6 (pc' := 11) (lv' := [(0, .ref 50), (1, .int (nB b1))]) (st' := [.int 42, .long (μ.2.1 50 12), .long g, .ref 50]) (μ' := mGP μ g p f) (by rfl) ?_
  refine zq_call hc (z_cx_ok hH (by rfl)) (fb_X7_bit d' (by omega) (mGP μ g p f) 42) (by decide +kernel) (fun r9 μ9 hq => ?_)
  obtain ⟨hμ9, rfl⟩ := hq
  rw [hμ9]
  clear hμ9 μ9
  show Z 0 14 [(0, .ref 50), (1, .int (nB b1))] [.long (lb true 42), .long (μ.2.1 50 12), .long g, .ref 50] (mGP μ g p f)
  refine z_rcs hc hH 1 (pc' := 16) (lv' := [(0, .ref 50), (1, .int (nB b1))]) (st' := [.int 43, .long (lb true 42), .long (μ.2.1 50 12), .long g, .ref 50]) (μ' := mGP μ g p f) (by rfl) ?_
  refine zq_call hc (z_cx_ok hH (by rfl)) (fb_X7_bit d' (by omega) (mGP μ g p f) 43) (by decide +kernel) (fun r9 μ9 hq => ?_)
  obtain ⟨hμ9, rfl⟩ := hq
  rw [hμ9]
  clear hμ9 μ9
  show Z 0 19 [(0, .ref 50), (1, .int (nB b1))] [.long (lb true 43), .long (lb true 42), .long (μ.2.1 50 12), .long g, .ref 50] (mGP μ g p f)
  refine z_rcs hc hH 4 (pc' := 25) (lv' := [(0, .ref 50), (1, .int (nB b1))]) (st' := []) (μ' := z_uj (mGP μ g p f) 50 24 (g ||| ((μ.2.1 50 12) &&& ((lb true 42) ||| (lb true 43))))) (by rfl) ?_
  rw [mGP_g]
  refine z_rcs hc hH 6 (pc' := 35) (lv' := [(0, .ref 50), (1, .int (nB b1))]) (st' := [.int 4, .long (μ.2.1 50 12), .long p, .ref 50]) (μ' := mGP μ (g ||| ((μ.2.1 50 12) &&& ((lb true 42) ||| (lb true 43)))) p f) (by rfl) ?_
  refine zq_call hc (z_cx_ok hH (by rfl)) (fb_X7_bit d' (by omega) (mGP μ (g ||| ((μ.2.1 50 12) &&& ((lb true 42) ||| (lb true 43)))) p f) 4) (by decide +kernel) (fun r9 μ9 hq => ?_)
  obtain ⟨hμ9, rfl⟩ := hq
  rw [hμ9]
  clear hμ9 μ9
  show Z 0 38 [(0, .ref 50), (1, .int (nB b1))] [.long (lb true 4), .long (μ.2.1 50 12), .long p, .ref 50] _
  refine z_rcs0 hc hH 1 (pc' := 39) (lv' := [(0, .ref 50), (1, .int (nB b1))]) (st' := [.int 5, .long (lb true 4), .long (μ.2.1 50 12), .long p, .ref 50]) (by rfl) ?_
  refine zq_call hc (z_cx_ok hH (by rfl)) (fb_X7_bit d' (by omega) (mGP μ (g ||| ((μ.2.1 50 12) &&& ((lb true 42) ||| (lb true 43)))) p f) 5) (by decide +kernel) (fun r9 μ9 hq => ?_)
  obtain ⟨hμ9, rfl⟩ := hq
  rw [hμ9]
  clear hμ9 μ9
  show Z 0 42 [(0, .ref 50), (1, .int (nB b1))] [.long (lb true 5), .long (lb true 4), .long (μ.2.1 50 12), .long p, .ref 50] _
  refine z_rcs0 hc hH 2 (pc' := 45) (lv' := [(0, .ref 50), (1, .int (nB b1))]) (st' := [.int 6, .long ((lb true 4) ||| (lb true 5)), .long (μ.2.1 50 12), .long p, .ref 50]) (by rfl) ?_
  refine zq_call hc (z_cx_ok hH (by rfl)) (fb_X7_bit d' (by omega) (mGP μ (g ||| ((μ.2.1 50 12) &&& ((lb true 42) ||| (lb true 43)))) p f) 6) (by decide +kernel) (fun r9 μ9 hq => ?_)
  obtain ⟨hμ9, rfl⟩ := hq
  rw [hμ9]
  clear hμ9 μ9
  show Z 0 48 [(0, .ref 50), (1, .int (nB b1))] [.long (lb true 6), .long ((lb true 4) ||| (lb true 5)), .long (μ.2.1 50 12), .long p, .ref 50] _
  refine z_rcs0 hc hH 2 (pc' := 51) (lv' := [(0, .ref 50), (1, .int (nB b1))]) (st' := [.int 7, .long (((lb true 4) ||| (lb true 5)) ||| (lb true 6)), .long (μ.2.1 50 12), .long p, .ref 50]) (by rfl) ?_
  refine zq_call hc (z_cx_ok hH (by rfl)) (fb_X7_bit d' (by omega) (mGP μ (g ||| ((μ.2.1 50 12) &&& ((lb true 42) ||| (lb true 43)))) p f) 7) (by decide +kernel) (fun r9 μ9 hq => ?_)
  obtain ⟨hμ9, rfl⟩ := hq
  rw [hμ9]
  clear hμ9 μ9
  show Z 0 54 [(0, .ref 50), (1, .int (nB b1))] [.long (lb true 7), .long (((lb true 4) ||| (lb true 5)) ||| (lb true 6)), .long (μ.2.1 50 12), .long p, .ref 50] _
  refine z_rcs hc hH 4 (pc' := 60) (lv' := [(0, .ref 50), (1, .int (nB b1))]) (st' := []) (μ' := z_uj (mGP μ (g ||| ((μ.2.1 50 12) &&& ((lb true 42) ||| (lb true 43)))) p f) 50 25 (p ||| ((μ.2.1 50 12) &&& ((((lb true 4) ||| (lb true 5)) ||| (lb true 6)) ||| (lb true 7))))) (by rfl) ?_
  rw [mGP_p]
  refine z_rcs hc hH 1 (pc' := 61) (lv' := [(0, .ref 50), (1, .int (nB b1))]) (st' := [.int (nB b1)]) (μ' := mGP μ (g ||| ((μ.2.1 50 12) &&& ((lb true 42) ||| (lb true 43)))) (p ||| ((μ.2.1 50 12) &&& ((((lb true 4) ||| (lb true 5)) ||| (lb true 6)) ||| (lb true 7)))) f) (by rfl) ?_
  have hJ1 : Z 0 139 [(0, .ref 50), (1, .int (nB b1))] [] (mGP μ (g ||| ((μ.2.1 50 12) &&& ((lb true 42) ||| (lb true 43)))) (bif b1 then p ||| ((μ.2.1 50 12) &&& ((((lb true 4) ||| (lb true 5)) ||| (lb true 6)) ||| (lb true 7))) else (bif decide ((lg_cmp ((μ.2.1 50 12) &&& (lb true 1)) 0) = 0) then ((p ||| ((μ.2.1 50 12) &&& ((((lb true 4) ||| (lb true 5)) ||| (lb true 6)) ||| (lb true 7)))) ||| ((μ.2.1 50 12) &&& ((lb true 1) ||| (lb true 2)))) ||| ((μ.2.1 50 12) &&& (lb true 0)) else (p ||| ((μ.2.1 50 12) &&& ((((lb true 4) ||| (lb true 5)) ||| (lb true 6)) ||| (lb true 7)))) ||| ((μ.2.1 50 12) &&& ((lb true 1) ||| (lb true 2)))) ||| (lb (!(decide ((μ.1 50 11) = 0))) 3)) f) := by
    generalize hyy2 : (bif b1 then p ||| ((μ.2.1 50 12) &&& ((((lb true 4) ||| (lb true 5)) ||| (lb true 6)) ||| (lb true 7))) else (bif decide ((lg_cmp ((μ.2.1 50 12) &&& (lb true 1)) 0) = 0) then ((p ||| ((μ.2.1 50 12) &&& ((((lb true 4) ||| (lb true 5)) ||| (lb true 6)) ||| (lb true 7)))) ||| ((μ.2.1 50 12) &&& ((lb true 1) ||| (lb true 2)))) ||| ((μ.2.1 50 12) &&& (lb true 0)) else (p ||| ((μ.2.1 50 12) &&& ((((lb true 4) ||| (lb true 5)) ||| (lb true 6)) ||| (lb true 7)))) ||| ((μ.2.1 50 12) &&& ((lb true 1) ||| (lb true 2)))) ||| (lb (!(decide ((μ.1 50 11) = 0))) 3) : Int64) = yy2
    refine z_rcs hc hH 2 (pc' := 141) (lv' := [(2, .int 0), (0, .ref 50), (1, .int (nB b1))]) (st' := []) (μ' := mGP μ (g ||| ((μ.2.1 50 12) &&& ((lb true 42) ||| (lb true 43)))) yy2 f) (by rfl) ?_
    subst hyy2
    exact K
  refine zq_if hc hH (by rfl) (tg := 139) (by rfl) (fun h3 => ?_) (fun h3 => ?_)
  · have h3 : (b1) = true := nB_n.mp (cm_ne.mp h3)
    exact zJ hJ1 rfl rfl (by first | with_reducible rfl | (simp only [h3, lb_f, Int64.or_zero, Int32.add_zero, nB_t, nB_f, Bool.not_true, Bool.not_false, Bool.and_true, Bool.true_and, Bool.false_and, Bool.and_false, Bool.or_true, Bool.true_or, Bool.false_or, Bool.or_false, cond_true, cond_false]; done) | rfl)
  · have h3 : (b1) = false := nB_z.mp (cn_ne.mp h3)
    refine z_rcs hc hH 6 (pc' := 74) (lv' := [(0, .ref 50), (1, .int (nB b1))]) (st' := [.int 1, .long (μ.2.1 50 12), .long (p ||| ((μ.2.1 50 12) &&& ((((lb true 4) ||| (lb true 5)) ||| (lb true 6)) ||| (lb true 7)))), .ref 50]) (μ' := mGP μ (g ||| ((μ.2.1 50 12) &&& ((lb true 42) ||| (lb true 43)))) (p ||| ((μ.2.1 50 12) &&& ((((lb true 4) ||| (lb true 5)) ||| (lb true 6)) ||| (lb true 7)))) f) (by rfl) ?_
    refine zq_call hc (z_cx_ok hH (by rfl)) (fb_X7_bit d' (by omega) (mGP μ (g ||| ((μ.2.1 50 12) &&& ((lb true 42) ||| (lb true 43)))) (p ||| ((μ.2.1 50 12) &&& ((((lb true 4) ||| (lb true 5)) ||| (lb true 6)) ||| (lb true 7)))) f) 1) (by decide +kernel) (fun r9 μ9 hq => ?_)
    obtain ⟨hμ9, rfl⟩ := hq
    rw [hμ9]
    clear hμ9 μ9
    show Z 0 77 [(0, .ref 50), (1, .int (nB b1))] [.long (lb true 1), .long (μ.2.1 50 12), .long (p ||| ((μ.2.1 50 12) &&& ((((lb true 4) ||| (lb true 5)) ||| (lb true 6)) ||| (lb true 7)))), .ref 50] _
    refine z_rcs0 hc hH 1 (pc' := 78) (lv' := [(0, .ref 50), (1, .int (nB b1))]) (st' := [.int 2, .long (lb true 1), .long (μ.2.1 50 12), .long (p ||| ((μ.2.1 50 12) &&& ((((lb true 4) ||| (lb true 5)) ||| (lb true 6)) ||| (lb true 7)))), .ref 50]) (by rfl) ?_
    refine zq_call hc (z_cx_ok hH (by rfl)) (fb_X7_bit d' (by omega) (mGP μ (g ||| ((μ.2.1 50 12) &&& ((lb true 42) ||| (lb true 43)))) (p ||| ((μ.2.1 50 12) &&& ((((lb true 4) ||| (lb true 5)) ||| (lb true 6)) ||| (lb true 7)))) f) 2) (by decide +kernel) (fun r9 μ9 hq => ?_)
    obtain ⟨hμ9, rfl⟩ := hq
    rw [hμ9]
    clear hμ9 μ9
    show Z 0 81 [(0, .ref 50), (1, .int (nB b1))] [.long (lb true 2), .long (lb true 1), .long (μ.2.1 50 12), .long (p ||| ((μ.2.1 50 12) &&& ((((lb true 4) ||| (lb true 5)) ||| (lb true 6)) ||| (lb true 7)))), .ref 50] _
    refine z_rcs hc hH 4 (pc' := 87) (lv' := [(0, .ref 50), (1, .int (nB b1))]) (st' := []) (μ' := z_uj (mGP μ (g ||| ((μ.2.1 50 12) &&& ((lb true 42) ||| (lb true 43)))) (p ||| ((μ.2.1 50 12) &&& ((((lb true 4) ||| (lb true 5)) ||| (lb true 6)) ||| (lb true 7)))) f) 50 25 ((p ||| ((μ.2.1 50 12) &&& ((((lb true 4) ||| (lb true 5)) ||| (lb true 6)) ||| (lb true 7)))) ||| ((μ.2.1 50 12) &&& ((lb true 1) ||| (lb true 2))))) (by rfl) ?_
    rw [mGP_p]
    refine z_rcs hc hH 3 (pc' := 92) (lv' := [(0, .ref 50), (1, .int (nB b1))]) (st' := [.int 1, .long (μ.2.1 50 12)]) (μ' := mGP μ (g ||| ((μ.2.1 50 12) &&& ((lb true 42) ||| (lb true 43)))) ((p ||| ((μ.2.1 50 12) &&& ((((lb true 4) ||| (lb true 5)) ||| (lb true 6)) ||| (lb true 7)))) ||| ((μ.2.1 50 12) &&& ((lb true 1) ||| (lb true 2)))) f) (by rfl) ?_
    refine zq_call hc (z_cx_ok hH (by rfl)) (fb_X7_bit d' (by omega) (mGP μ (g ||| ((μ.2.1 50 12) &&& ((lb true 42) ||| (lb true 43)))) ((p ||| ((μ.2.1 50 12) &&& ((((lb true 4) ||| (lb true 5)) ||| (lb true 6)) ||| (lb true 7)))) ||| ((μ.2.1 50 12) &&& ((lb true 1) ||| (lb true 2)))) f) 1) (by decide +kernel) (fun r9 μ9 hq => ?_)
    obtain ⟨hμ9, rfl⟩ := hq
    rw [hμ9]
    clear hμ9 μ9
    show Z 0 95 [(0, .ref 50), (1, .int (nB b1))] [.long (lb true 1), .long (μ.2.1 50 12)] _
    refine z_rcs0 hc hH 3 (pc' := 98) (lv' := [(0, .ref 50), (1, .int (nB b1))]) (st' := [.int (lg_cmp ((μ.2.1 50 12) &&& (lb true 1)) 0)]) (by rfl) ?_
    have hJ4 : Z 0 119 [(0, .ref 50), (1, .int (nB b1))] [] (mGP μ (g ||| ((μ.2.1 50 12) &&& ((lb true 42) ||| (lb true 43)))) (bif decide ((lg_cmp ((μ.2.1 50 12) &&& (lb true 1)) 0) = 0) then ((p ||| ((μ.2.1 50 12) &&& ((((lb true 4) ||| (lb true 5)) ||| (lb true 6)) ||| (lb true 7)))) ||| ((μ.2.1 50 12) &&& ((lb true 1) ||| (lb true 2)))) ||| ((μ.2.1 50 12) &&& (lb true 0)) else (p ||| ((μ.2.1 50 12) &&& ((((lb true 4) ||| (lb true 5)) ||| (lb true 6)) ||| (lb true 7)))) ||| ((μ.2.1 50 12) &&& ((lb true 1) ||| (lb true 2)))) f) := by
      generalize hyy5 : (bif decide ((lg_cmp ((μ.2.1 50 12) &&& (lb true 1)) 0) = 0) then ((p ||| ((μ.2.1 50 12) &&& ((((lb true 4) ||| (lb true 5)) ||| (lb true 6)) ||| (lb true 7)))) ||| ((μ.2.1 50 12) &&& ((lb true 1) ||| (lb true 2)))) ||| ((μ.2.1 50 12) &&& (lb true 0)) else (p ||| ((μ.2.1 50 12) &&& ((((lb true 4) ||| (lb true 5)) ||| (lb true 6)) ||| (lb true 7)))) ||| ((μ.2.1 50 12) &&& ((lb true 1) ||| (lb true 2))) : Int64) = yy5
      refine z_rcs hc hH 2 (pc' := 123) (lv' := [(0, .ref 50), (1, .int (nB b1))]) (st' := [.int (μ.1 50 11)]) (μ' := mGP μ (g ||| ((μ.2.1 50 12) &&& ((lb true 42) ||| (lb true 43)))) yy5 f) (by rfl) ?_
      refine zq_if hc hH (by rfl) (tg := 139) (by rfl) (fun h6 => ?_) (fun h6 => ?_)
      · have h6 : (decide ((μ.1 50 11) = 0)) = true := decide_eq_true (cm_eq9.mp h6)
        subst hyy5
        exact zJ hJ1 rfl rfl (by first | with_reducible rfl | (simp only [h3, h6, lb_f, Int64.or_zero, Int32.add_zero, nB_t, nB_f, Bool.not_true, Bool.not_false, Bool.and_true, Bool.true_and, Bool.false_and, Bool.and_false, Bool.or_true, Bool.true_or, Bool.false_or, Bool.or_false, cond_true, cond_false]; done) | rfl)
      · have h6 : (decide ((μ.1 50 11) = 0)) = false := decide_eq_false (cn_eq.mp h6)
        refine z_rcs0 hc hH 4 (pc' := 132) (lv' := [(0, .ref 50), (1, .int (nB b1))]) (st' := [.int 3, .long yy5, .ref 50]) (by rfl) ?_
        refine zq_call hc (z_cx_ok hH (by rfl)) (fb_X7_bit d' (by omega) (mGP μ (g ||| ((μ.2.1 50 12) &&& ((lb true 42) ||| (lb true 43)))) yy5 f) 3) (by decide +kernel) (fun r9 μ9 hq => ?_)
        obtain ⟨hμ9, rfl⟩ := hq
        rw [hμ9]
        clear hμ9 μ9
        show Z 0 135 [(0, .ref 50), (1, .int (nB b1))] [.long (lb true 3), .long yy5, .ref 50] _
        refine z_rcs hc hH 2 (pc' := 139) (lv' := [(0, .ref 50), (1, .int (nB b1))]) (st' := []) (μ' := z_uj (mGP μ (g ||| ((μ.2.1 50 12) &&& ((lb true 42) ||| (lb true 43)))) yy5 f) 50 25 (yy5 ||| (lb true 3))) (by rfl) ?_
        rw [mGP_p]
        subst hyy5
        exact zJ hJ1 rfl rfl (by first | with_reducible rfl | (simp only [h3, h6, lb_f, Int64.or_zero, Int32.add_zero, nB_t, nB_f, Bool.not_true, Bool.not_false, Bool.and_true, Bool.true_and, Bool.false_and, Bool.and_false, Bool.or_true, Bool.true_or, Bool.false_or, Bool.or_false, cond_true, cond_false]; done) | rfl)
    refine zq_if hc hH (by rfl) (tg := 119) (by rfl) (fun h7 => ?_) (fun h7 => ?_)
    · have h7 : (decide ((lg_cmp ((μ.2.1 50 12) &&& (lb true 1)) 0) = 0)) = false := decide_eq_false (cm_ne.mp h7)
      exact zJ hJ4 rfl rfl (by first | with_reducible rfl | (simp only [h7, lb_f, Int64.or_zero, Int32.add_zero, nB_t, nB_f, Bool.not_true, Bool.not_false, Bool.and_true, Bool.true_and, Bool.false_and, Bool.and_false, Bool.or_true, Bool.true_or, Bool.false_or, Bool.or_false, cond_true, cond_false]; done) | rfl)
    · have h7 : (decide ((lg_cmp ((μ.2.1 50 12) &&& (lb true 1)) 0) = 0)) = true := decide_eq_true (cn_ne.mp h7)
      refine z_rcs hc hH 6 (pc' := 111) (lv' := [(0, .ref 50), (1, .int (nB b1))]) (st' := [.int 0, .long (μ.2.1 50 12), .long ((p ||| ((μ.2.1 50 12) &&& ((((lb true 4) ||| (lb true 5)) ||| (lb true 6)) ||| (lb true 7)))) ||| ((μ.2.1 50 12) &&& ((lb true 1) ||| (lb true 2)))), .ref 50]) (μ' := mGP μ (g ||| ((μ.2.1 50 12) &&& ((lb true 42) ||| (lb true 43)))) ((p ||| ((μ.2.1 50 12) &&& ((((lb true 4) ||| (lb true 5)) ||| (lb true 6)) ||| (lb true 7)))) ||| ((μ.2.1 50 12) &&& ((lb true 1) ||| (lb true 2)))) f) (by rfl) ?_
      refine zq_call hc (z_cx_ok hH (by rfl)) (fb_X7_bit d' (by omega) (mGP μ (g ||| ((μ.2.1 50 12) &&& ((lb true 42) ||| (lb true 43)))) ((p ||| ((μ.2.1 50 12) &&& ((((lb true 4) ||| (lb true 5)) ||| (lb true 6)) ||| (lb true 7)))) ||| ((μ.2.1 50 12) &&& ((lb true 1) ||| (lb true 2)))) f) 0) (by decide +kernel) (fun r9 μ9 hq => ?_)
      obtain ⟨hμ9, rfl⟩ := hq
      rw [hμ9]
      clear hμ9 μ9
      show Z 0 114 [(0, .ref 50), (1, .int (nB b1))] [.long (lb true 0), .long (μ.2.1 50 12), .long ((p ||| ((μ.2.1 50 12) &&& ((((lb true 4) ||| (lb true 5)) ||| (lb true 6)) ||| (lb true 7)))) ||| ((μ.2.1 50 12) &&& ((lb true 1) ||| (lb true 2)))), .ref 50] _
      refine z_rcs hc hH 3 (pc' := 119) (lv' := [(0, .ref 50), (1, .int (nB b1))]) (st' := []) (μ' := z_uj (mGP μ (g ||| ((μ.2.1 50 12) &&& ((lb true 42) ||| (lb true 43)))) ((p ||| ((μ.2.1 50 12) &&& ((((lb true 4) ||| (lb true 5)) ||| (lb true 6)) ||| (lb true 7)))) ||| ((μ.2.1 50 12) &&& ((lb true 1) ||| (lb true 2)))) f) 50 25 (((p ||| ((μ.2.1 50 12) &&& ((((lb true 4) ||| (lb true 5)) ||| (lb true 6)) ||| (lb true 7)))) ||| ((μ.2.1 50 12) &&& ((lb true 1) ||| (lb true 2)))) ||| ((μ.2.1 50 12) &&& (lb true 0)))) (by rfl) ?_
      rw [mGP_p]
      exact zJ hJ4 rfl rfl (by first | with_reducible rfl | (simp only [h7, lb_f, Int64.or_zero, Int32.add_zero, nB_t, nB_f, Bool.not_true, Bool.not_false, Bool.and_true, Bool.true_and, Bool.false_and, Bool.and_false, Bool.or_true, Bool.true_or, Bool.false_or, Bool.or_false, cond_true, cond_false]; done) | rfl)
theorem cq150 (d' : Nat) (Z : zK) (hd : 1 ≤ d') (μ : zM) (hc : z_clo z_x0 mi_X7_compare (z_C d') Z) (b1 : Bool) (g p : Int64) (f : Int32) (K : Z 0 154 [(6, .int 32), (2, .int 0), (0, .ref 50), (1, .int (nB b1))] [] (mGP μ g p f)) : Z 0 150 [(2, .int 0), (0, .ref 50), (1, .int (nB b1))] [] (mGP μ g p f) := by
  have hH : zH mi_X7_compare zt_X7_compare 79 7 7 := hh_X7_compare
  refine z_rcs hc hH 2 (pc' := 154) (lv' := [(6, .int 32), (2, .int 0), (0, .ref 50), (1, .int (nB b1))]) (st' := []) (μ' := mGP μ g p f) (by rfl) ?_
  exact K
theorem cq154_0 (d' : Nat) (Z : zK) (hd : 1 ≤ d') (μ : zM) (hc : z_clo z_x0 mi_X7_compare (z_C d') Z) (b1 : Bool) (g p : Int64) (f : Int32) (K : Z 0 154 [(6, .int 33), (2, .int (0 + (((g >>> ((32 : Int32).toInt64 &&& 63)) &&& 1).toInt32))), (0, .ref 50), (1, .int (nB b1))] [] (mGP μ g p f)) : Z 0 154 [(6, .int 32), (2, .int 0), (0, .ref 50), (1, .int (nB b1))] [] (mGP μ g p f) := by
  have hH : zH mi_X7_compare zt_X7_compare 79 7 7 := hh_X7_compare
  refine z_rcs hc hH 15 (pc' := 154) (lv' := [(6, .int 33), (2, .int (0 + (((g >>> ((32 : Int32).toInt64 &&& 63)) &&& 1).toInt32))), (0, .ref 50), (1, .int (nB b1))]) (st' := []) (μ' := mGP μ g p f) (by rfl) ?_
  exact K
theorem cq154_1 (d' : Nat) (Z : zK) (hd : 1 ≤ d') (μ : zM) (hc : z_clo z_x0 mi_X7_compare (z_C d') Z) (x2 : Int32) (b1 : Bool) (g p : Int64) (f : Int32) (K : Z 0 154 [(6, .int 34), (2, .int (x2 + (((g >>> ((33 : Int32).toInt64 &&& 63)) &&& 1).toInt32))), (0, .ref 50), (1, .int (nB b1))] [] (mGP μ g p f)) : Z 0 154 [(6, .int 33), (2, .int x2), (0, .ref 50), (1, .int (nB b1))] [] (mGP μ g p f) := by
  have hH : zH mi_X7_compare zt_X7_compare 79 7 7 := hh_X7_compare
  refine z_rcs hc hH 15 (pc' := 154) (lv' := [(6, .int 34), (2, .int (x2 + (((g >>> ((33 : Int32).toInt64 &&& 63)) &&& 1).toInt32))), (0, .ref 50), (1, .int (nB b1))]) (st' := []) (μ' := mGP μ g p f) (by rfl) ?_
  exact K
theorem cq154_2 (d' : Nat) (Z : zK) (hd : 1 ≤ d') (μ : zM) (hc : z_clo z_x0 mi_X7_compare (z_C d') Z) (x2 : Int32) (b1 : Bool) (g p : Int64) (f : Int32) (K : Z 0 154 [(6, .int 35), (2, .int (x2 + (((g >>> ((34 : Int32).toInt64 &&& 63)) &&& 1).toInt32))), (0, .ref 50), (1, .int (nB b1))] [] (mGP μ g p f)) : Z 0 154 [(6, .int 34), (2, .int x2), (0, .ref 50), (1, .int (nB b1))] [] (mGP μ g p f) := by
  have hH : zH mi_X7_compare zt_X7_compare 79 7 7 := hh_X7_compare
  refine z_rcs hc hH 15 (pc' := 154) (lv' := [(6, .int 35), (2, .int (x2 + (((g >>> ((34 : Int32).toInt64 &&& 63)) &&& 1).toInt32))), (0, .ref 50), (1, .int (nB b1))]) (st' := []) (μ' := mGP μ g p f) (by rfl) ?_
  exact K
theorem cq154_3 (d' : Nat) (Z : zK) (hd : 1 ≤ d') (μ : zM) (hc : z_clo z_x0 mi_X7_compare (z_C d') Z) (x2 : Int32) (b1 : Bool) (g p : Int64) (f : Int32) (K : Z 0 154 [(6, .int 36), (2, .int (x2 + (((g >>> ((35 : Int32).toInt64 &&& 63)) &&& 1).toInt32))), (0, .ref 50), (1, .int (nB b1))] [] (mGP μ g p f)) : Z 0 154 [(6, .int 35), (2, .int x2), (0, .ref 50), (1, .int (nB b1))] [] (mGP μ g p f) := by
  have hH : zH mi_X7_compare zt_X7_compare 79 7 7 := hh_X7_compare
  refine z_rcs hc hH 15 (pc' := 154) (lv' := [(6, .int 36), (2, .int (x2 + (((g >>> ((35 : Int32).toInt64 &&& 63)) &&& 1).toInt32))), (0, .ref 50), (1, .int (nB b1))]) (st' := []) (μ' := mGP μ g p f) (by rfl) ?_
  exact K
theorem cq154_4 (d' : Nat) (Z : zK) (hd : 1 ≤ d') (μ : zM) (hc : z_clo z_x0 mi_X7_compare (z_C d') Z) (x2 : Int32) (b1 : Bool) (g p : Int64) (f : Int32) (K : Z 0 154 [(6, .int 37), (2, .int (x2 + (((g >>> ((36 : Int32).toInt64 &&& 63)) &&& 1).toInt32))), (0, .ref 50), (1, .int (nB b1))] [] (mGP μ g p f)) : Z 0 154 [(6, .int 36), (2, .int x2), (0, .ref 50), (1, .int (nB b1))] [] (mGP μ g p f) := by
  have hH : zH mi_X7_compare zt_X7_compare 79 7 7 := hh_X7_compare
  refine z_rcs hc hH 15 (pc' := 154) (lv' := [(6, .int 37), (2, .int (x2 + (((g >>> ((36 : Int32).toInt64 &&& 63)) &&& 1).toInt32))), (0, .ref 50), (1, .int (nB b1))]) (st' := []) (μ' := mGP μ g p f) (by rfl) ?_
  exact K
theorem cq154_5 (d' : Nat) (Z : zK) (hd : 1 ≤ d') (μ : zM) (hc : z_clo z_x0 mi_X7_compare (z_C d') Z) (x2 : Int32) (b1 : Bool) (g p : Int64) (f : Int32) (K : Z 0 154 [(6, .int 38), (2, .int (x2 + (((g >>> ((37 : Int32).toInt64 &&& 63)) &&& 1).toInt32))), (0, .ref 50), (1, .int (nB b1))] [] (mGP μ g p f)) : Z 0 154 [(6, .int 37), (2, .int x2), (0, .ref 50), (1, .int (nB b1))] [] (mGP μ g p f) := by
  have hH : zH mi_X7_compare zt_X7_compare 79 7 7 := hh_X7_compare
  refine z_rcs hc hH 15 (pc' := 154) (lv' := [(6, .int 38), (2, .int (x2 + (((g >>> ((37 : Int32).toInt64 &&& 63)) &&& 1).toInt32))), (0, .ref 50), (1, .int (nB b1))]) (st' := []) (μ' := mGP μ g p f) (by rfl) ?_
  exact K
theorem cq154_6 (d' : Nat) (Z : zK) (hd : 1 ≤ d') (μ : zM) (hc : z_clo z_x0 mi_X7_compare (z_C d') Z) (x2 : Int32) (b1 : Bool) (g p : Int64) (f : Int32) (K : Z 0 154 [(6, .int 39), (2, .int (x2 + (((g >>> ((38 : Int32).toInt64 &&& 63)) &&& 1).toInt32))), (0, .ref 50), (1, .int (nB b1))] [] (mGP μ g p f)) : Z 0 154 [(6, .int 38), (2, .int x2), (0, .ref 50), (1, .int (nB b1))] [] (mGP μ g p f) := by
  have hH : zH mi_X7_compare zt_X7_compare 79 7 7 := hh_X7_compare
  refine z_rcs hc hH 15 (pc' := 154) (lv' := [(6, .int 39), (2, .int (x2 + (((g >>> ((38 : Int32).toInt64 &&& 63)) &&& 1).toInt32))), (0, .ref 50), (1, .int (nB b1))]) (st' := []) (μ' := mGP μ g p f) (by rfl) ?_
  exact K
theorem cq154_7 (d' : Nat) (Z : zK) (hd : 1 ≤ d') (μ : zM) (hc : z_clo z_x0 mi_X7_compare (z_C d') Z) (x2 : Int32) (b1 : Bool) (g p : Int64) (f : Int32) (K : Z 0 154 [(6, .int 40), (2, .int (x2 + (((g >>> ((39 : Int32).toInt64 &&& 63)) &&& 1).toInt32))), (0, .ref 50), (1, .int (nB b1))] [] (mGP μ g p f)) : Z 0 154 [(6, .int 39), (2, .int x2), (0, .ref 50), (1, .int (nB b1))] [] (mGP μ g p f) := by
  have hH : zH mi_X7_compare zt_X7_compare 79 7 7 := hh_X7_compare
  refine z_rcs hc hH 15 (pc' := 154) (lv' := [(6, .int 40), (2, .int (x2 + (((g >>> ((39 : Int32).toInt64 &&& 63)) &&& 1).toInt32))), (0, .ref 50), (1, .int (nB b1))]) (st' := []) (μ' := mGP μ g p f) (by rfl) ?_
  exact K
theorem cq154_8 (d' : Nat) (Z : zK) (hd : 1 ≤ d') (μ : zM) (hc : z_clo z_x0 mi_X7_compare (z_C d') Z) (x2 : Int32) (b1 : Bool) (g p : Int64) (f : Int32) (K : Z 0 154 [(6, .int 41), (2, .int (x2 + (((g >>> ((40 : Int32).toInt64 &&& 63)) &&& 1).toInt32))), (0, .ref 50), (1, .int (nB b1))] [] (mGP μ g p f)) : Z 0 154 [(6, .int 40), (2, .int x2), (0, .ref 50), (1, .int (nB b1))] [] (mGP μ g p f) := by
  have hH : zH mi_X7_compare zt_X7_compare 79 7 7 := hh_X7_compare
  refine z_rcs hc hH 15 (pc' := 154) (lv' := [(6, .int 41), (2, .int (x2 + (((g >>> ((40 : Int32).toInt64 &&& 63)) &&& 1).toInt32))), (0, .ref 50), (1, .int (nB b1))]) (st' := []) (μ' := mGP μ g p f) (by rfl) ?_
  exact K
theorem cq154_9 (d' : Nat) (Z : zK) (hd : 1 ≤ d') (μ : zM) (hc : z_clo z_x0 mi_X7_compare (z_C d') Z) (x2 : Int32) (b1 : Bool) (g p : Int64) (f : Int32) (K : Z 0 154 [(6, .int 42), (2, .int (x2 + (((g >>> ((41 : Int32).toInt64 &&& 63)) &&& 1).toInt32))), (0, .ref 50), (1, .int (nB b1))] [] (mGP μ g p f)) : Z 0 154 [(6, .int 41), (2, .int x2), (0, .ref 50), (1, .int (nB b1))] [] (mGP μ g p f) := by
  have hH : zH mi_X7_compare zt_X7_compare 79 7 7 := hh_X7_compare
  refine z_rcs hc hH 15 (pc' := 154) (lv' := [(6, .int 42), (2, .int (x2 + (((g >>> ((41 : Int32).toInt64 &&& 63)) &&& 1).toInt32))), (0, .ref 50), (1, .int (nB b1))]) (st' := []) (μ' := mGP μ g p f) (by rfl) ?_
  exact K
theorem cq154_10 (d' : Nat) (Z : zK) (hd : 1 ≤ d') (μ : zM) (hc : z_clo z_x0 mi_X7_compare (z_C d') Z) (x2 : Int32) (b1 : Bool) (g p : Int64) (f : Int32) (K : Z 0 154 [(6, .int 43), (2, .int (x2 + (((g >>> ((42 : Int32).toInt64 &&& 63)) &&& 1).toInt32))), (0, .ref 50), (1, .int (nB b1))] [] (mGP μ g p f)) : Z 0 154 [(6, .int 42), (2, .int x2), (0, .ref 50), (1, .int (nB b1))] [] (mGP μ g p f) := by
  have hH : zH mi_X7_compare zt_X7_compare 79 7 7 := hh_X7_compare
  refine z_rcs hc hH 15 (pc' := 154) (lv' := [(6, .int 43), (2, .int (x2 + (((g >>> ((42 : Int32).toInt64 &&& 63)) &&& 1).toInt32))), (0, .ref 50), (1, .int (nB b1))]) (st' := []) (μ' := mGP μ g p f) (by rfl) ?_
  exact K
theorem cq154_11 (d' : Nat) (Z : zK) (hd : 1 ≤ d') (μ : zM) (hc : z_clo z_x0 mi_X7_compare (z_C d') Z) (x2 : Int32) (b1 : Bool) (g p : Int64) (f : Int32) (K : Z 0 154 [(6, .int 44), (2, .int (x2 + (((g >>> ((43 : Int32).toInt64 &&& 63)) &&& 1).toInt32))), (0, .ref 50), (1, .int (nB b1))] [] (mGP μ g p f)) : Z 0 154 [(6, .int 43), (2, .int x2), (0, .ref 50), (1, .int (nB b1))] [] (mGP μ g p f) := by
  have hH : zH mi_X7_compare zt_X7_compare 79 7 7 := hh_X7_compare
  refine z_rcs hc hH 15 (pc' := 154) (lv' := [(6, .int 44), (2, .int (x2 + (((g >>> ((43 : Int32).toInt64 &&& 63)) &&& 1).toInt32))), (0, .ref 50), (1, .int (nB b1))]) (st' := []) (μ' := mGP μ g p f) (by rfl) ?_
  exact K
theorem cq154_12 (d' : Nat) (Z : zK) (hd : 1 ≤ d') (μ : zM) (hc : z_clo z_x0 mi_X7_compare (z_C d') Z) (x2 : Int32) (b1 : Bool) (g p : Int64) (f : Int32) (K : Z 0 339 [(4, .long g), (2, .int (x2 * 13)), (3, .int (8000 * x2)), (6, .int 44), (0, .ref 50), (1, .int (nB b1))] [] (mGP μ g p f)) : Z 0 154 [(6, .int 44), (2, .int x2), (0, .ref 50), (1, .int (nB b1))] [] (mGP μ g p f) := by
  have hH : zH mi_X7_compare zt_X7_compare 79 7 7 := hh_X7_compare
  refine z_rcs hc hH 15 (pc' := 339) (lv' := [(4, .long g), (2, .int (x2 * 13)), (3, .int (8000 * x2)), (6, .int 44), (0, .ref 50), (1, .int (nB b1))]) (st' := []) (μ' := mGP μ g p f) (by rfl) ?_
  exact K
theorem cq200 (d' : Nat) (Z : zK) (hd : 1 ≤ d') (μ : zM) (hc : z_clo z_x0 mi_X7_compare (z_C d') Z) (b1 : Bool) (g p : Int64) (f : Int32) (K : Z 0 203 [(6, .int 0), (2, .int 0), (0, .ref 50), (1, .int (nB b1))] [] (mGP μ g p f)) : Z 0 200 [(2, .int 0), (0, .ref 50), (1, .int (nB b1))] [] (mGP μ g p f) := by
  have hH : zH mi_X7_compare zt_X7_compare 79 7 7 := hh_X7_compare
  refine z_rcs hc hH 2 (pc' := 203) (lv' := [(6, .int 0), (2, .int 0), (0, .ref 50), (1, .int (nB b1))]) (st' := []) (μ' := mGP μ g p f) (by rfl) ?_
  exact K
theorem cq203_0 (d' : Nat) (Z : zK) (hd : 1 ≤ d') (μ : zM) (hc : z_clo z_x0 mi_X7_compare (z_C d') Z) (b1 : Bool) (g p : Int64) (f : Int32) (K : Z 0 203 [(6, .int 1), (2, .int (0 + (nB ((decide ((lg_cmp ((p >>> ((0 : Int32).toInt64 &&& 63)) &&& 1) 1) = 0)) && (!b1))))), (0, .ref 50), (1, .int (nB b1))] [] (mGP μ g p f)) : Z 0 203 [(6, .int 0), (2, .int 0), (0, .ref 50), (1, .int (nB b1))] [] (mGP μ g p f) := by
  have hH : zH mi_X7_compare zt_X7_compare 79 7 7 := hh_X7_compare
  refine z_rcs hc hH 12 (pc' := 222) (lv' := [(6, .int 0), (2, .int 0), (0, .ref 50), (1, .int (nB b1))]) (st' := [.int (lg_cmp ((p >>> ((0 : Int32).toInt64 &&& 63)) &&& 1) 1), .int 0]) (μ' := mGP μ g p f) (by rfl) ?_
  have hJ1 : Z 0 235 [(6, .int 0), (2, .int 0), (0, .ref 50), (1, .int (nB b1))] [.int (nB ((decide ((lg_cmp ((p >>> ((0 : Int32).toInt64 &&& 63)) &&& 1) 1) = 0)) && (!b1))), .int 0] (mGP μ g p f) := by
    generalize hee2 : ((decide ((lg_cmp ((p >>> ((0 : Int32).toInt64 &&& 63)) &&& 1) 1) = 0)) && (!b1)) = ee2
    refine z_rcs hc hH 4 (pc' := 203) (lv' := [(6, .int 1), (2, .int (0 + (nB ee2))), (0, .ref 50), (1, .int (nB b1))]) (st' := []) (μ' := mGP μ g p f) (by rfl) ?_
    subst hee2
    exact K
  refine zq_if hc hH (by rfl) (tg := 234) (by rfl) (fun h3 => ?_) (fun h3 => ?_)
  · have h3 : (decide ((lg_cmp ((p >>> ((0 : Int32).toInt64 &&& 63)) &&& 1) 1) = 0)) = false := decide_eq_false (cm_ne.mp h3)
    refine z_rcs hc hH 1 (pc' := 235) (lv' := [(6, .int 0), (2, .int 0), (0, .ref 50), (1, .int (nB b1))]) (st' := [.int 0, .int 0]) (μ' := mGP μ g p f) (by rfl) ?_
    exact zJ hJ1 rfl (by first | with_reducible rfl | (simp only [h3, lb_f, Int64.or_zero, Int32.add_zero, nB_t, nB_f, Bool.not_true, Bool.not_false, Bool.and_true, Bool.true_and, Bool.false_and, Bool.and_false, Bool.or_true, Bool.true_or, Bool.false_or, Bool.or_false, cond_true, cond_false]; done) | rfl) rfl
  · have h3 : (decide ((lg_cmp ((p >>> ((0 : Int32).toInt64 &&& 63)) &&& 1) 1) = 0)) = true := decide_eq_true (cn_ne.mp h3)
    refine z_rcs hc hH 2 (pc' := 228) (lv' := [(6, .int 0), (2, .int 0), (0, .ref 50), (1, .int (nB b1))]) (st' := [.int (nB b1), .int 0, .int 0]) (μ' := mGP μ g p f) (by rfl) ?_
    refine zq_call hc (z_cx_ok hH (by rfl)) (fb_X7_han_0 d' (by omega) (mGP μ g p f) b1) (by decide +kernel) (fun r9 μ9 hq => ?_)
    obtain ⟨hμ9, rfl⟩ := hq
    rw [hμ9]
    clear hμ9 μ9
    show Z 0 231 [(6, .int 0), (2, .int 0), (0, .ref 50), (1, .int (nB b1))] [.int (nB (!b1)), .int 0] (mGP μ g p f)
    refine z_rcs hc hH 1 (pc' := 235) (lv' := [(6, .int 0), (2, .int 0), (0, .ref 50), (1, .int (nB b1))]) (st' := [.int (nB (!b1)), .int 0]) (μ' := mGP μ g p f) (by rfl) ?_
    exact zJ hJ1 rfl (by first | with_reducible rfl | (simp only [h3, lb_f, Int64.or_zero, Int32.add_zero, nB_t, nB_f, Bool.not_true, Bool.not_false, Bool.and_true, Bool.true_and, Bool.false_and, Bool.and_false, Bool.or_true, Bool.true_or, Bool.false_or, Bool.or_false, cond_true, cond_false]; done) | rfl) rfl
theorem cq203_1 (d' : Nat) (Z : zK) (hd : 1 ≤ d') (μ : zM) (hc : z_clo z_x0 mi_X7_compare (z_C d') Z) (x2 : Int32) (b1 : Bool) (g p : Int64) (f : Int32) (K : Z 0 203 [(6, .int 2), (2, .int (x2 + (bif decide ((lg_cmp ((p >>> ((1 : Int32).toInt64 &&& 63)) &&& 1) 1) = 0) then bif b1 then (0 : Int32) else 2 else 0))), (0, .ref 50), (1, .int (nB b1))] [] (mGP μ g p f)) : Z 0 203 [(6, .int 1), (2, .int x2), (0, .ref 50), (1, .int (nB b1))] [] (mGP μ g p f) := by
  have hH : zH mi_X7_compare zt_X7_compare 79 7 7 := hh_X7_compare
  refine z_rcs hc hH 12 (pc' := 222) (lv' := [(6, .int 1), (2, .int x2), (0, .ref 50), (1, .int (nB b1))]) (st' := [.int (lg_cmp ((p >>> ((1 : Int32).toInt64 &&& 63)) &&& 1) 1), .int x2]) (μ' := mGP μ g p f) (by rfl) ?_
  have hJ1 : Z 0 235 [(6, .int 1), (2, .int x2), (0, .ref 50), (1, .int (nB b1))] [.int (bif decide ((lg_cmp ((p >>> ((1 : Int32).toInt64 &&& 63)) &&& 1) 1) = 0) then bif b1 then (0 : Int32) else 2 else 0), .int x2] (mGP μ g p f) := by
    generalize hyy2 : (bif decide ((lg_cmp ((p >>> ((1 : Int32).toInt64 &&& 63)) &&& 1) 1) = 0) then bif b1 then (0 : Int32) else 2 else 0 : Int32) = yy2
    refine z_rcs hc hH 4 (pc' := 203) (lv' := [(6, .int 2), (2, .int (x2 + yy2)), (0, .ref 50), (1, .int (nB b1))]) (st' := []) (μ' := mGP μ g p f) (by rfl) ?_
    subst hyy2
    exact K
  refine zq_if hc hH (by rfl) (tg := 234) (by rfl) (fun h3 => ?_) (fun h3 => ?_)
  · have h3 : (decide ((lg_cmp ((p >>> ((1 : Int32).toInt64 &&& 63)) &&& 1) 1) = 0)) = false := decide_eq_false (cm_ne.mp h3)
    refine z_rcs hc hH 1 (pc' := 235) (lv' := [(6, .int 1), (2, .int x2), (0, .ref 50), (1, .int (nB b1))]) (st' := [.int 0, .int x2]) (μ' := mGP μ g p f) (by rfl) ?_
    exact zJ hJ1 rfl (by first | with_reducible rfl | (simp only [h3, lb_f, Int64.or_zero, Int32.add_zero, nB_t, nB_f, Bool.not_true, Bool.not_false, Bool.and_true, Bool.true_and, Bool.false_and, Bool.and_false, Bool.or_true, Bool.true_or, Bool.false_or, Bool.or_false, cond_true, cond_false]; done) | rfl) rfl
  · have h3 : (decide ((lg_cmp ((p >>> ((1 : Int32).toInt64 &&& 63)) &&& 1) 1) = 0)) = true := decide_eq_true (cn_ne.mp h3)
    refine z_rcs hc hH 2 (pc' := 228) (lv' := [(6, .int 1), (2, .int x2), (0, .ref 50), (1, .int (nB b1))]) (st' := [.int (nB b1), .int 1, .int x2]) (μ' := mGP μ g p f) (by rfl) ?_
    refine zq_call hc (z_cx_ok hH (by rfl)) (fb_X7_han_1 d' (by omega) (mGP μ g p f) b1) (by decide +kernel) (fun r9 μ9 hq => ?_)
    obtain ⟨hμ9, rfl⟩ := hq
    rw [hμ9]
    clear hμ9 μ9
    show Z 0 231 [(6, .int 1), (2, .int x2), (0, .ref 50), (1, .int (nB b1))] [.int (bif b1 then (0 : Int32) else 2), .int x2] (mGP μ g p f)
    refine z_rcs hc hH 1 (pc' := 235) (lv' := [(6, .int 1), (2, .int x2), (0, .ref 50), (1, .int (nB b1))]) (st' := [.int (bif b1 then (0 : Int32) else 2), .int x2]) (μ' := mGP μ g p f) (by rfl) ?_
    exact zJ hJ1 rfl (by first | with_reducible rfl | (simp only [h3, lb_f, Int64.or_zero, Int32.add_zero, nB_t, nB_f, Bool.not_true, Bool.not_false, Bool.and_true, Bool.true_and, Bool.false_and, Bool.and_false, Bool.or_true, Bool.true_or, Bool.false_or, Bool.or_false, cond_true, cond_false]; done) | rfl) rfl
theorem cq203_2 (d' : Nat) (Z : zK) (hd : 1 ≤ d') (μ : zM) (hc : z_clo z_x0 mi_X7_compare (z_C d') Z) (x2 : Int32) (b1 : Bool) (g p : Int64) (f : Int32) (K : Z 0 203 [(6, .int 3), (2, .int (x2 + (nB ((decide ((lg_cmp ((p >>> ((2 : Int32).toInt64 &&& 63)) &&& 1) 1) = 0)) && (!b1))))), (0, .ref 50), (1, .int (nB b1))] [] (mGP μ g p f)) : Z 0 203 [(6, .int 2), (2, .int x2), (0, .ref 50), (1, .int (nB b1))] [] (mGP μ g p f) := by
  have hH : zH mi_X7_compare zt_X7_compare 79 7 7 := hh_X7_compare
  refine z_rcs hc hH 12 (pc' := 222) (lv' := [(6, .int 2), (2, .int x2), (0, .ref 50), (1, .int (nB b1))]) (st' := [.int (lg_cmp ((p >>> ((2 : Int32).toInt64 &&& 63)) &&& 1) 1), .int x2]) (μ' := mGP μ g p f) (by rfl) ?_
  have hJ1 : Z 0 235 [(6, .int 2), (2, .int x2), (0, .ref 50), (1, .int (nB b1))] [.int (nB ((decide ((lg_cmp ((p >>> ((2 : Int32).toInt64 &&& 63)) &&& 1) 1) = 0)) && (!b1))), .int x2] (mGP μ g p f) := by
    generalize hee2 : ((decide ((lg_cmp ((p >>> ((2 : Int32).toInt64 &&& 63)) &&& 1) 1) = 0)) && (!b1)) = ee2
    refine z_rcs hc hH 4 (pc' := 203) (lv' := [(6, .int 3), (2, .int (x2 + (nB ee2))), (0, .ref 50), (1, .int (nB b1))]) (st' := []) (μ' := mGP μ g p f) (by rfl) ?_
    subst hee2
    exact K
  refine zq_if hc hH (by rfl) (tg := 234) (by rfl) (fun h3 => ?_) (fun h3 => ?_)
  · have h3 : (decide ((lg_cmp ((p >>> ((2 : Int32).toInt64 &&& 63)) &&& 1) 1) = 0)) = false := decide_eq_false (cm_ne.mp h3)
    refine z_rcs hc hH 1 (pc' := 235) (lv' := [(6, .int 2), (2, .int x2), (0, .ref 50), (1, .int (nB b1))]) (st' := [.int 0, .int x2]) (μ' := mGP μ g p f) (by rfl) ?_
    exact zJ hJ1 rfl (by first | with_reducible rfl | (simp only [h3, lb_f, Int64.or_zero, Int32.add_zero, nB_t, nB_f, Bool.not_true, Bool.not_false, Bool.and_true, Bool.true_and, Bool.false_and, Bool.and_false, Bool.or_true, Bool.true_or, Bool.false_or, Bool.or_false, cond_true, cond_false]; done) | rfl) rfl
  · have h3 : (decide ((lg_cmp ((p >>> ((2 : Int32).toInt64 &&& 63)) &&& 1) 1) = 0)) = true := decide_eq_true (cn_ne.mp h3)
    refine z_rcs hc hH 2 (pc' := 228) (lv' := [(6, .int 2), (2, .int x2), (0, .ref 50), (1, .int (nB b1))]) (st' := [.int (nB b1), .int 2, .int x2]) (μ' := mGP μ g p f) (by rfl) ?_
    refine zq_call hc (z_cx_ok hH (by rfl)) (fb_X7_han_2 d' (by omega) (mGP μ g p f) b1) (by decide +kernel) (fun r9 μ9 hq => ?_)
    obtain ⟨hμ9, rfl⟩ := hq
    rw [hμ9]
    clear hμ9 μ9
    show Z 0 231 [(6, .int 2), (2, .int x2), (0, .ref 50), (1, .int (nB b1))] [.int (nB (!b1)), .int x2] (mGP μ g p f)
    refine z_rcs hc hH 1 (pc' := 235) (lv' := [(6, .int 2), (2, .int x2), (0, .ref 50), (1, .int (nB b1))]) (st' := [.int (nB (!b1)), .int x2]) (μ' := mGP μ g p f) (by rfl) ?_
    exact zJ hJ1 rfl (by first | with_reducible rfl | (simp only [h3, lb_f, Int64.or_zero, Int32.add_zero, nB_t, nB_f, Bool.not_true, Bool.not_false, Bool.and_true, Bool.true_and, Bool.false_and, Bool.and_false, Bool.or_true, Bool.true_or, Bool.false_or, Bool.or_false, cond_true, cond_false]; done) | rfl) rfl
theorem cq203_3 (d' : Nat) (Z : zK) (hd : 1 ≤ d') (μ : zM) (hc : z_clo z_x0 mi_X7_compare (z_C d') Z) (x2 : Int32) (b1 : Bool) (g p : Int64) (f : Int32) (K : Z 0 203 [(6, .int 4), (2, .int (x2 + (nB ((decide ((lg_cmp ((p >>> ((3 : Int32).toInt64 &&& 63)) &&& 1) 1) = 0)) && (!b1))))), (0, .ref 50), (1, .int (nB b1))] [] (mGP μ g p f)) : Z 0 203 [(6, .int 3), (2, .int x2), (0, .ref 50), (1, .int (nB b1))] [] (mGP μ g p f) := by
  have hH : zH mi_X7_compare zt_X7_compare 79 7 7 := hh_X7_compare
  refine z_rcs hc hH 12 (pc' := 222) (lv' := [(6, .int 3), (2, .int x2), (0, .ref 50), (1, .int (nB b1))]) (st' := [.int (lg_cmp ((p >>> ((3 : Int32).toInt64 &&& 63)) &&& 1) 1), .int x2]) (μ' := mGP μ g p f) (by rfl) ?_
  have hJ1 : Z 0 235 [(6, .int 3), (2, .int x2), (0, .ref 50), (1, .int (nB b1))] [.int (nB ((decide ((lg_cmp ((p >>> ((3 : Int32).toInt64 &&& 63)) &&& 1) 1) = 0)) && (!b1))), .int x2] (mGP μ g p f) := by
    generalize hee2 : ((decide ((lg_cmp ((p >>> ((3 : Int32).toInt64 &&& 63)) &&& 1) 1) = 0)) && (!b1)) = ee2
    refine z_rcs hc hH 4 (pc' := 203) (lv' := [(6, .int 4), (2, .int (x2 + (nB ee2))), (0, .ref 50), (1, .int (nB b1))]) (st' := []) (μ' := mGP μ g p f) (by rfl) ?_
    subst hee2
    exact K
  refine zq_if hc hH (by rfl) (tg := 234) (by rfl) (fun h3 => ?_) (fun h3 => ?_)
  · have h3 : (decide ((lg_cmp ((p >>> ((3 : Int32).toInt64 &&& 63)) &&& 1) 1) = 0)) = false := decide_eq_false (cm_ne.mp h3)
    refine z_rcs hc hH 1 (pc' := 235) (lv' := [(6, .int 3), (2, .int x2), (0, .ref 50), (1, .int (nB b1))]) (st' := [.int 0, .int x2]) (μ' := mGP μ g p f) (by rfl) ?_
    exact zJ hJ1 rfl (by first | with_reducible rfl | (simp only [h3, lb_f, Int64.or_zero, Int32.add_zero, nB_t, nB_f, Bool.not_true, Bool.not_false, Bool.and_true, Bool.true_and, Bool.false_and, Bool.and_false, Bool.or_true, Bool.true_or, Bool.false_or, Bool.or_false, cond_true, cond_false]; done) | rfl) rfl
  · have h3 : (decide ((lg_cmp ((p >>> ((3 : Int32).toInt64 &&& 63)) &&& 1) 1) = 0)) = true := decide_eq_true (cn_ne.mp h3)
    refine z_rcs hc hH 2 (pc' := 228) (lv' := [(6, .int 3), (2, .int x2), (0, .ref 50), (1, .int (nB b1))]) (st' := [.int (nB b1), .int 3, .int x2]) (μ' := mGP μ g p f) (by rfl) ?_
    refine zq_call hc (z_cx_ok hH (by rfl)) (fb_X7_han_3 d' (by omega) (mGP μ g p f) b1) (by decide +kernel) (fun r9 μ9 hq => ?_)
    obtain ⟨hμ9, rfl⟩ := hq
    rw [hμ9]
    clear hμ9 μ9
    show Z 0 231 [(6, .int 3), (2, .int x2), (0, .ref 50), (1, .int (nB b1))] [.int (nB (!b1)), .int x2] (mGP μ g p f)
    refine z_rcs hc hH 1 (pc' := 235) (lv' := [(6, .int 3), (2, .int x2), (0, .ref 50), (1, .int (nB b1))]) (st' := [.int (nB (!b1)), .int x2]) (μ' := mGP μ g p f) (by rfl) ?_
    exact zJ hJ1 rfl (by first | with_reducible rfl | (simp only [h3, lb_f, Int64.or_zero, Int32.add_zero, nB_t, nB_f, Bool.not_true, Bool.not_false, Bool.and_true, Bool.true_and, Bool.false_and, Bool.and_false, Bool.or_true, Bool.true_or, Bool.false_or, Bool.or_false, cond_true, cond_false]; done) | rfl) rfl
theorem cq203_4 (d' : Nat) (Z : zK) (hd : 1 ≤ d') (μ : zM) (hc : z_clo z_x0 mi_X7_compare (z_C d') Z) (x2 : Int32) (b1 : Bool) (g p : Int64) (f : Int32) (K : Z 0 203 [(6, .int 5), (2, .int (x2 + (nB (decide ((lg_cmp ((p >>> ((4 : Int32).toInt64 &&& 63)) &&& 1) 1) = 0))))), (0, .ref 50), (1, .int (nB b1))] [] (mGP μ g p f)) : Z 0 203 [(6, .int 4), (2, .int x2), (0, .ref 50), (1, .int (nB b1))] [] (mGP μ g p f) := by
  have hH : zH mi_X7_compare zt_X7_compare 79 7 7 := hh_X7_compare
  refine z_rcs hc hH 12 (pc' := 222) (lv' := [(6, .int 4), (2, .int x2), (0, .ref 50), (1, .int (nB b1))]) (st' := [.int (lg_cmp ((p >>> ((4 : Int32).toInt64 &&& 63)) &&& 1) 1), .int x2]) (μ' := mGP μ g p f) (by rfl) ?_
  have hJ1 : Z 0 235 [(6, .int 4), (2, .int x2), (0, .ref 50), (1, .int (nB b1))] [.int (nB (decide ((lg_cmp ((p >>> ((4 : Int32).toInt64 &&& 63)) &&& 1) 1) = 0))), .int x2] (mGP μ g p f) := by
    generalize hee2 : (decide ((lg_cmp ((p >>> ((4 : Int32).toInt64 &&& 63)) &&& 1) 1) = 0)) = ee2
    refine z_rcs hc hH 4 (pc' := 203) (lv' := [(6, .int 5), (2, .int (x2 + (nB ee2))), (0, .ref 50), (1, .int (nB b1))]) (st' := []) (μ' := mGP μ g p f) (by rfl) ?_
    subst hee2
    exact K
  refine zq_if hc hH (by rfl) (tg := 234) (by rfl) (fun h3 => ?_) (fun h3 => ?_)
  · have h3 : (decide ((lg_cmp ((p >>> ((4 : Int32).toInt64 &&& 63)) &&& 1) 1) = 0)) = false := decide_eq_false (cm_ne.mp h3)
    refine z_rcs hc hH 1 (pc' := 235) (lv' := [(6, .int 4), (2, .int x2), (0, .ref 50), (1, .int (nB b1))]) (st' := [.int 0, .int x2]) (μ' := mGP μ g p f) (by rfl) ?_
    exact zJ hJ1 rfl (by first | with_reducible rfl | (simp only [h3, lb_f, Int64.or_zero, Int32.add_zero, nB_t, nB_f, Bool.not_true, Bool.not_false, Bool.and_true, Bool.true_and, Bool.false_and, Bool.and_false, Bool.or_true, Bool.true_or, Bool.false_or, Bool.or_false, cond_true, cond_false]; done) | rfl) rfl
  · have h3 : (decide ((lg_cmp ((p >>> ((4 : Int32).toInt64 &&& 63)) &&& 1) 1) = 0)) = true := decide_eq_true (cn_ne.mp h3)
    refine z_rcs hc hH 2 (pc' := 228) (lv' := [(6, .int 4), (2, .int x2), (0, .ref 50), (1, .int (nB b1))]) (st' := [.int (nB b1), .int 4, .int x2]) (μ' := mGP μ g p f) (by rfl) ?_
    refine zq_call hc (z_cx_ok hH (by rfl)) (fb_X7_han_4 d' (by omega) (mGP μ g p f) b1) (by decide +kernel) (fun r9 μ9 hq => ?_)
    obtain ⟨hμ9, rfl⟩ := hq
    rw [hμ9]
    clear hμ9 μ9
    show Z 0 231 [(6, .int 4), (2, .int x2), (0, .ref 50), (1, .int (nB b1))] [.int 1, .int x2] (mGP μ g p f)
    refine z_rcs hc hH 1 (pc' := 235) (lv' := [(6, .int 4), (2, .int x2), (0, .ref 50), (1, .int (nB b1))]) (st' := [.int 1, .int x2]) (μ' := mGP μ g p f) (by rfl) ?_
    exact zJ hJ1 rfl (by first | with_reducible rfl | (simp only [h3, lb_f, Int64.or_zero, Int32.add_zero, nB_t, nB_f, Bool.not_true, Bool.not_false, Bool.and_true, Bool.true_and, Bool.false_and, Bool.and_false, Bool.or_true, Bool.true_or, Bool.false_or, Bool.or_false, cond_true, cond_false]; done) | rfl) rfl
theorem cq203_5 (d' : Nat) (Z : zK) (hd : 1 ≤ d') (μ : zM) (hc : z_clo z_x0 mi_X7_compare (z_C d') Z) (x2 : Int32) (b1 : Bool) (g p : Int64) (f : Int32) (K : Z 0 203 [(6, .int 6), (2, .int (x2 + (nB (decide ((lg_cmp ((p >>> ((5 : Int32).toInt64 &&& 63)) &&& 1) 1) = 0))))), (0, .ref 50), (1, .int (nB b1))] [] (mGP μ g p f)) : Z 0 203 [(6, .int 5), (2, .int x2), (0, .ref 50), (1, .int (nB b1))] [] (mGP μ g p f) := by
  have hH : zH mi_X7_compare zt_X7_compare 79 7 7 := hh_X7_compare
  refine z_rcs hc hH 12 (pc' := 222) (lv' := [(6, .int 5), (2, .int x2), (0, .ref 50), (1, .int (nB b1))]) (st' := [.int (lg_cmp ((p >>> ((5 : Int32).toInt64 &&& 63)) &&& 1) 1), .int x2]) (μ' := mGP μ g p f) (by rfl) ?_
  have hJ1 : Z 0 235 [(6, .int 5), (2, .int x2), (0, .ref 50), (1, .int (nB b1))] [.int (nB (decide ((lg_cmp ((p >>> ((5 : Int32).toInt64 &&& 63)) &&& 1) 1) = 0))), .int x2] (mGP μ g p f) := by
    generalize hee2 : (decide ((lg_cmp ((p >>> ((5 : Int32).toInt64 &&& 63)) &&& 1) 1) = 0)) = ee2
    refine z_rcs hc hH 4 (pc' := 203) (lv' := [(6, .int 6), (2, .int (x2 + (nB ee2))), (0, .ref 50), (1, .int (nB b1))]) (st' := []) (μ' := mGP μ g p f) (by rfl) ?_
    subst hee2
    exact K
  refine zq_if hc hH (by rfl) (tg := 234) (by rfl) (fun h3 => ?_) (fun h3 => ?_)
  · have h3 : (decide ((lg_cmp ((p >>> ((5 : Int32).toInt64 &&& 63)) &&& 1) 1) = 0)) = false := decide_eq_false (cm_ne.mp h3)
    refine z_rcs hc hH 1 (pc' := 235) (lv' := [(6, .int 5), (2, .int x2), (0, .ref 50), (1, .int (nB b1))]) (st' := [.int 0, .int x2]) (μ' := mGP μ g p f) (by rfl) ?_
    exact zJ hJ1 rfl (by first | with_reducible rfl | (simp only [h3, lb_f, Int64.or_zero, Int32.add_zero, nB_t, nB_f, Bool.not_true, Bool.not_false, Bool.and_true, Bool.true_and, Bool.false_and, Bool.and_false, Bool.or_true, Bool.true_or, Bool.false_or, Bool.or_false, cond_true, cond_false]; done) | rfl) rfl
  · have h3 : (decide ((lg_cmp ((p >>> ((5 : Int32).toInt64 &&& 63)) &&& 1) 1) = 0)) = true := decide_eq_true (cn_ne.mp h3)
    refine z_rcs hc hH 2 (pc' := 228) (lv' := [(6, .int 5), (2, .int x2), (0, .ref 50), (1, .int (nB b1))]) (st' := [.int (nB b1), .int 5, .int x2]) (μ' := mGP μ g p f) (by rfl) ?_
    refine zq_call hc (z_cx_ok hH (by rfl)) (fb_X7_han_5 d' (by omega) (mGP μ g p f) b1) (by decide +kernel) (fun r9 μ9 hq => ?_)
    obtain ⟨hμ9, rfl⟩ := hq
    rw [hμ9]
    clear hμ9 μ9
    show Z 0 231 [(6, .int 5), (2, .int x2), (0, .ref 50), (1, .int (nB b1))] [.int 1, .int x2] (mGP μ g p f)
    refine z_rcs hc hH 1 (pc' := 235) (lv' := [(6, .int 5), (2, .int x2), (0, .ref 50), (1, .int (nB b1))]) (st' := [.int 1, .int x2]) (μ' := mGP μ g p f) (by rfl) ?_
    exact zJ hJ1 rfl (by first | with_reducible rfl | (simp only [h3, lb_f, Int64.or_zero, Int32.add_zero, nB_t, nB_f, Bool.not_true, Bool.not_false, Bool.and_true, Bool.true_and, Bool.false_and, Bool.and_false, Bool.or_true, Bool.true_or, Bool.false_or, Bool.or_false, cond_true, cond_false]; done) | rfl) rfl
theorem cq203_6 (d' : Nat) (Z : zK) (hd : 1 ≤ d') (μ : zM) (hc : z_clo z_x0 mi_X7_compare (z_C d') Z) (x2 : Int32) (b1 : Bool) (g p : Int64) (f : Int32) (K : Z 0 203 [(6, .int 7), (2, .int (x2 + (nB (decide ((lg_cmp ((p >>> ((6 : Int32).toInt64 &&& 63)) &&& 1) 1) = 0))))), (0, .ref 50), (1, .int (nB b1))] [] (mGP μ g p f)) : Z 0 203 [(6, .int 6), (2, .int x2), (0, .ref 50), (1, .int (nB b1))] [] (mGP μ g p f) := by
  have hH : zH mi_X7_compare zt_X7_compare 79 7 7 := hh_X7_compare
  refine z_rcs hc hH 12 (pc' := 222) (lv' := [(6, .int 6), (2, .int x2), (0, .ref 50), (1, .int (nB b1))]) (st' := [.int (lg_cmp ((p >>> ((6 : Int32).toInt64 &&& 63)) &&& 1) 1), .int x2]) (μ' := mGP μ g p f) (by rfl) ?_
  have hJ1 : Z 0 235 [(6, .int 6), (2, .int x2), (0, .ref 50), (1, .int (nB b1))] [.int (nB (decide ((lg_cmp ((p >>> ((6 : Int32).toInt64 &&& 63)) &&& 1) 1) = 0))), .int x2] (mGP μ g p f) := by
    generalize hee2 : (decide ((lg_cmp ((p >>> ((6 : Int32).toInt64 &&& 63)) &&& 1) 1) = 0)) = ee2
    refine z_rcs hc hH 4 (pc' := 203) (lv' := [(6, .int 7), (2, .int (x2 + (nB ee2))), (0, .ref 50), (1, .int (nB b1))]) (st' := []) (μ' := mGP μ g p f) (by rfl) ?_
    subst hee2
    exact K
  refine zq_if hc hH (by rfl) (tg := 234) (by rfl) (fun h3 => ?_) (fun h3 => ?_)
  · have h3 : (decide ((lg_cmp ((p >>> ((6 : Int32).toInt64 &&& 63)) &&& 1) 1) = 0)) = false := decide_eq_false (cm_ne.mp h3)
    refine z_rcs hc hH 1 (pc' := 235) (lv' := [(6, .int 6), (2, .int x2), (0, .ref 50), (1, .int (nB b1))]) (st' := [.int 0, .int x2]) (μ' := mGP μ g p f) (by rfl) ?_
    exact zJ hJ1 rfl (by first | with_reducible rfl | (simp only [h3, lb_f, Int64.or_zero, Int32.add_zero, nB_t, nB_f, Bool.not_true, Bool.not_false, Bool.and_true, Bool.true_and, Bool.false_and, Bool.and_false, Bool.or_true, Bool.true_or, Bool.false_or, Bool.or_false, cond_true, cond_false]; done) | rfl) rfl
  · have h3 : (decide ((lg_cmp ((p >>> ((6 : Int32).toInt64 &&& 63)) &&& 1) 1) = 0)) = true := decide_eq_true (cn_ne.mp h3)
    refine z_rcs hc hH 2 (pc' := 228) (lv' := [(6, .int 6), (2, .int x2), (0, .ref 50), (1, .int (nB b1))]) (st' := [.int (nB b1), .int 6, .int x2]) (μ' := mGP μ g p f) (by rfl) ?_
    refine zq_call hc (z_cx_ok hH (by rfl)) (fb_X7_han_6 d' (by omega) (mGP μ g p f) b1) (by decide +kernel) (fun r9 μ9 hq => ?_)
    obtain ⟨hμ9, rfl⟩ := hq
    rw [hμ9]
    clear hμ9 μ9
    show Z 0 231 [(6, .int 6), (2, .int x2), (0, .ref 50), (1, .int (nB b1))] [.int 1, .int x2] (mGP μ g p f)
    refine z_rcs hc hH 1 (pc' := 235) (lv' := [(6, .int 6), (2, .int x2), (0, .ref 50), (1, .int (nB b1))]) (st' := [.int 1, .int x2]) (μ' := mGP μ g p f) (by rfl) ?_
    exact zJ hJ1 rfl (by first | with_reducible rfl | (simp only [h3, lb_f, Int64.or_zero, Int32.add_zero, nB_t, nB_f, Bool.not_true, Bool.not_false, Bool.and_true, Bool.true_and, Bool.false_and, Bool.and_false, Bool.or_true, Bool.true_or, Bool.false_or, Bool.or_false, cond_true, cond_false]; done) | rfl) rfl
theorem cq203_7 (d' : Nat) (Z : zK) (hd : 1 ≤ d') (μ : zM) (hc : z_clo z_x0 mi_X7_compare (z_C d') Z) (x2 : Int32) (b1 : Bool) (g p : Int64) (f : Int32) (K : Z 0 203 [(6, .int 8), (2, .int (x2 + (nB (decide ((lg_cmp ((p >>> ((7 : Int32).toInt64 &&& 63)) &&& 1) 1) = 0))))), (0, .ref 50), (1, .int (nB b1))] [] (mGP μ g p f)) : Z 0 203 [(6, .int 7), (2, .int x2), (0, .ref 50), (1, .int (nB b1))] [] (mGP μ g p f) := by
  have hH : zH mi_X7_compare zt_X7_compare 79 7 7 := hh_X7_compare
  refine z_rcs hc hH 12 (pc' := 222) (lv' := [(6, .int 7), (2, .int x2), (0, .ref 50), (1, .int (nB b1))]) (st' := [.int (lg_cmp ((p >>> ((7 : Int32).toInt64 &&& 63)) &&& 1) 1), .int x2]) (μ' := mGP μ g p f) (by rfl) ?_
  have hJ1 : Z 0 235 [(6, .int 7), (2, .int x2), (0, .ref 50), (1, .int (nB b1))] [.int (nB (decide ((lg_cmp ((p >>> ((7 : Int32).toInt64 &&& 63)) &&& 1) 1) = 0))), .int x2] (mGP μ g p f) := by
    generalize hee2 : (decide ((lg_cmp ((p >>> ((7 : Int32).toInt64 &&& 63)) &&& 1) 1) = 0)) = ee2
    refine z_rcs hc hH 4 (pc' := 203) (lv' := [(6, .int 8), (2, .int (x2 + (nB ee2))), (0, .ref 50), (1, .int (nB b1))]) (st' := []) (μ' := mGP μ g p f) (by rfl) ?_
    subst hee2
    exact K
  refine zq_if hc hH (by rfl) (tg := 234) (by rfl) (fun h3 => ?_) (fun h3 => ?_)
  · have h3 : (decide ((lg_cmp ((p >>> ((7 : Int32).toInt64 &&& 63)) &&& 1) 1) = 0)) = false := decide_eq_false (cm_ne.mp h3)
    refine z_rcs hc hH 1 (pc' := 235) (lv' := [(6, .int 7), (2, .int x2), (0, .ref 50), (1, .int (nB b1))]) (st' := [.int 0, .int x2]) (μ' := mGP μ g p f) (by rfl) ?_
    exact zJ hJ1 rfl (by first | with_reducible rfl | (simp only [h3, lb_f, Int64.or_zero, Int32.add_zero, nB_t, nB_f, Bool.not_true, Bool.not_false, Bool.and_true, Bool.true_and, Bool.false_and, Bool.and_false, Bool.or_true, Bool.true_or, Bool.false_or, Bool.or_false, cond_true, cond_false]; done) | rfl) rfl
  · have h3 : (decide ((lg_cmp ((p >>> ((7 : Int32).toInt64 &&& 63)) &&& 1) 1) = 0)) = true := decide_eq_true (cn_ne.mp h3)
    refine z_rcs hc hH 2 (pc' := 228) (lv' := [(6, .int 7), (2, .int x2), (0, .ref 50), (1, .int (nB b1))]) (st' := [.int (nB b1), .int 7, .int x2]) (μ' := mGP μ g p f) (by rfl) ?_
    refine zq_call hc (z_cx_ok hH (by rfl)) (fb_X7_han_7 d' (by omega) (mGP μ g p f) b1) (by decide +kernel) (fun r9 μ9 hq => ?_)
    obtain ⟨hμ9, rfl⟩ := hq
    rw [hμ9]
    clear hμ9 μ9
    show Z 0 231 [(6, .int 7), (2, .int x2), (0, .ref 50), (1, .int (nB b1))] [.int 1, .int x2] (mGP μ g p f)
    refine z_rcs hc hH 1 (pc' := 235) (lv' := [(6, .int 7), (2, .int x2), (0, .ref 50), (1, .int (nB b1))]) (st' := [.int 1, .int x2]) (μ' := mGP μ g p f) (by rfl) ?_
    exact zJ hJ1 rfl (by first | with_reducible rfl | (simp only [h3, lb_f, Int64.or_zero, Int32.add_zero, nB_t, nB_f, Bool.not_true, Bool.not_false, Bool.and_true, Bool.true_and, Bool.false_and, Bool.and_false, Bool.or_true, Bool.true_or, Bool.false_or, Bool.or_false, cond_true, cond_false]; done) | rfl) rfl
theorem cq203_8 (d' : Nat) (Z : zK) (hd : 1 ≤ d') (μ : zM) (hc : z_clo z_x0 mi_X7_compare (z_C d') Z) (x2 : Int32) (b1 : Bool) (g p : Int64) (f : Int32) (K : Z 0 203 [(6, .int 9), (2, .int (x2 + (nB (decide ((lg_cmp ((p >>> ((8 : Int32).toInt64 &&& 63)) &&& 1) 1) = 0))))), (0, .ref 50), (1, .int (nB b1))] [] (mGP μ g p f)) : Z 0 203 [(6, .int 8), (2, .int x2), (0, .ref 50), (1, .int (nB b1))] [] (mGP μ g p f) := by
  have hH : zH mi_X7_compare zt_X7_compare 79 7 7 := hh_X7_compare
  refine z_rcs hc hH 12 (pc' := 222) (lv' := [(6, .int 8), (2, .int x2), (0, .ref 50), (1, .int (nB b1))]) (st' := [.int (lg_cmp ((p >>> ((8 : Int32).toInt64 &&& 63)) &&& 1) 1), .int x2]) (μ' := mGP μ g p f) (by rfl) ?_
  have hJ1 : Z 0 235 [(6, .int 8), (2, .int x2), (0, .ref 50), (1, .int (nB b1))] [.int (nB (decide ((lg_cmp ((p >>> ((8 : Int32).toInt64 &&& 63)) &&& 1) 1) = 0))), .int x2] (mGP μ g p f) := by
    generalize hee2 : (decide ((lg_cmp ((p >>> ((8 : Int32).toInt64 &&& 63)) &&& 1) 1) = 0)) = ee2
    refine z_rcs hc hH 4 (pc' := 203) (lv' := [(6, .int 9), (2, .int (x2 + (nB ee2))), (0, .ref 50), (1, .int (nB b1))]) (st' := []) (μ' := mGP μ g p f) (by rfl) ?_
    subst hee2
    exact K
  refine zq_if hc hH (by rfl) (tg := 234) (by rfl) (fun h3 => ?_) (fun h3 => ?_)
  · have h3 : (decide ((lg_cmp ((p >>> ((8 : Int32).toInt64 &&& 63)) &&& 1) 1) = 0)) = false := decide_eq_false (cm_ne.mp h3)
    refine z_rcs hc hH 1 (pc' := 235) (lv' := [(6, .int 8), (2, .int x2), (0, .ref 50), (1, .int (nB b1))]) (st' := [.int 0, .int x2]) (μ' := mGP μ g p f) (by rfl) ?_
    exact zJ hJ1 rfl (by first | with_reducible rfl | (simp only [h3, lb_f, Int64.or_zero, Int32.add_zero, nB_t, nB_f, Bool.not_true, Bool.not_false, Bool.and_true, Bool.true_and, Bool.false_and, Bool.and_false, Bool.or_true, Bool.true_or, Bool.false_or, Bool.or_false, cond_true, cond_false]; done) | rfl) rfl
  · have h3 : (decide ((lg_cmp ((p >>> ((8 : Int32).toInt64 &&& 63)) &&& 1) 1) = 0)) = true := decide_eq_true (cn_ne.mp h3)
    refine z_rcs hc hH 2 (pc' := 228) (lv' := [(6, .int 8), (2, .int x2), (0, .ref 50), (1, .int (nB b1))]) (st' := [.int (nB b1), .int 8, .int x2]) (μ' := mGP μ g p f) (by rfl) ?_
    refine zq_call hc (z_cx_ok hH (by rfl)) (fb_X7_han_8 d' (by omega) (mGP μ g p f) b1) (by decide +kernel) (fun r9 μ9 hq => ?_)
    obtain ⟨hμ9, rfl⟩ := hq
    rw [hμ9]
    clear hμ9 μ9
    show Z 0 231 [(6, .int 8), (2, .int x2), (0, .ref 50), (1, .int (nB b1))] [.int 1, .int x2] (mGP μ g p f)
    refine z_rcs hc hH 1 (pc' := 235) (lv' := [(6, .int 8), (2, .int x2), (0, .ref 50), (1, .int (nB b1))]) (st' := [.int 1, .int x2]) (μ' := mGP μ g p f) (by rfl) ?_
    exact zJ hJ1 rfl (by first | with_reducible rfl | (simp only [h3, lb_f, Int64.or_zero, Int32.add_zero, nB_t, nB_f, Bool.not_true, Bool.not_false, Bool.and_true, Bool.true_and, Bool.false_and, Bool.and_false, Bool.or_true, Bool.true_or, Bool.false_or, Bool.or_false, cond_true, cond_false]; done) | rfl) rfl
theorem cq203_9 (d' : Nat) (Z : zK) (hd : 1 ≤ d') (μ : zM) (hc : z_clo z_x0 mi_X7_compare (z_C d') Z) (x2 : Int32) (b1 : Bool) (g p : Int64) (f : Int32) (K : Z 0 203 [(6, .int 10), (2, .int (x2 + (nB ((decide ((lg_cmp ((p >>> ((9 : Int32).toInt64 &&& 63)) &&& 1) 1) = 0)) && (!b1))))), (0, .ref 50), (1, .int (nB b1))] [] (mGP μ g p f)) : Z 0 203 [(6, .int 9), (2, .int x2), (0, .ref 50), (1, .int (nB b1))] [] (mGP μ g p f) := by
  have hH : zH mi_X7_compare zt_X7_compare 79 7 7 := hh_X7_compare
  refine z_rcs hc hH 12 (pc' := 222) (lv' := [(6, .int 9), (2, .int x2), (0, .ref 50), (1, .int (nB b1))]) (st' := [.int (lg_cmp ((p >>> ((9 : Int32).toInt64 &&& 63)) &&& 1) 1), .int x2]) (μ' := mGP μ g p f) (by rfl) ?_
  have hJ1 : Z 0 235 [(6, .int 9), (2, .int x2), (0, .ref 50), (1, .int (nB b1))] [.int (nB ((decide ((lg_cmp ((p >>> ((9 : Int32).toInt64 &&& 63)) &&& 1) 1) = 0)) && (!b1))), .int x2] (mGP μ g p f) := by
    generalize hee2 : ((decide ((lg_cmp ((p >>> ((9 : Int32).toInt64 &&& 63)) &&& 1) 1) = 0)) && (!b1)) = ee2
    refine z_rcs hc hH 4 (pc' := 203) (lv' := [(6, .int 10), (2, .int (x2 + (nB ee2))), (0, .ref 50), (1, .int (nB b1))]) (st' := []) (μ' := mGP μ g p f) (by rfl) ?_
    subst hee2
    exact K
  refine zq_if hc hH (by rfl) (tg := 234) (by rfl) (fun h3 => ?_) (fun h3 => ?_)
  · have h3 : (decide ((lg_cmp ((p >>> ((9 : Int32).toInt64 &&& 63)) &&& 1) 1) = 0)) = false := decide_eq_false (cm_ne.mp h3)
    refine z_rcs hc hH 1 (pc' := 235) (lv' := [(6, .int 9), (2, .int x2), (0, .ref 50), (1, .int (nB b1))]) (st' := [.int 0, .int x2]) (μ' := mGP μ g p f) (by rfl) ?_
    exact zJ hJ1 rfl (by first | with_reducible rfl | (simp only [h3, lb_f, Int64.or_zero, Int32.add_zero, nB_t, nB_f, Bool.not_true, Bool.not_false, Bool.and_true, Bool.true_and, Bool.false_and, Bool.and_false, Bool.or_true, Bool.true_or, Bool.false_or, Bool.or_false, cond_true, cond_false]; done) | rfl) rfl
  · have h3 : (decide ((lg_cmp ((p >>> ((9 : Int32).toInt64 &&& 63)) &&& 1) 1) = 0)) = true := decide_eq_true (cn_ne.mp h3)
    refine z_rcs hc hH 2 (pc' := 228) (lv' := [(6, .int 9), (2, .int x2), (0, .ref 50), (1, .int (nB b1))]) (st' := [.int (nB b1), .int 9, .int x2]) (μ' := mGP μ g p f) (by rfl) ?_
    refine zq_call hc (z_cx_ok hH (by rfl)) (fb_X7_han_9 d' (by omega) (mGP μ g p f) b1) (by decide +kernel) (fun r9 μ9 hq => ?_)
    obtain ⟨hμ9, rfl⟩ := hq
    rw [hμ9]
    clear hμ9 μ9
    show Z 0 231 [(6, .int 9), (2, .int x2), (0, .ref 50), (1, .int (nB b1))] [.int (nB (!b1)), .int x2] (mGP μ g p f)
    refine z_rcs hc hH 1 (pc' := 235) (lv' := [(6, .int 9), (2, .int x2), (0, .ref 50), (1, .int (nB b1))]) (st' := [.int (nB (!b1)), .int x2]) (μ' := mGP μ g p f) (by rfl) ?_
    exact zJ hJ1 rfl (by first | with_reducible rfl | (simp only [h3, lb_f, Int64.or_zero, Int32.add_zero, nB_t, nB_f, Bool.not_true, Bool.not_false, Bool.and_true, Bool.true_and, Bool.false_and, Bool.and_false, Bool.or_true, Bool.true_or, Bool.false_or, Bool.or_false, cond_true, cond_false]; done) | rfl) rfl
theorem cq203_10 (d' : Nat) (Z : zK) (hd : 1 ≤ d') (μ : zM) (hc : z_clo z_x0 mi_X7_compare (z_C d') Z) (x2 : Int32) (b1 : Bool) (g p : Int64) (f : Int32) (K : Z 0 203 [(6, .int 11), (2, .int (x2 + (nB ((decide ((lg_cmp ((p >>> ((10 : Int32).toInt64 &&& 63)) &&& 1) 1) = 0)) && (!b1))))), (0, .ref 50), (1, .int (nB b1))] [] (mGP μ g p f)) : Z 0 203 [(6, .int 10), (2, .int x2), (0, .ref 50), (1, .int (nB b1))] [] (mGP μ g p f) := by
  have hH : zH mi_X7_compare zt_X7_compare 79 7 7 := hh_X7_compare
  refine z_rcs hc hH 12 (pc' := 222) (lv' := [(6, .int 10), (2, .int x2), (0, .ref 50), (1, .int (nB b1))]) (st' := [.int (lg_cmp ((p >>> ((10 : Int32).toInt64 &&& 63)) &&& 1) 1), .int x2]) (μ' := mGP μ g p f) (by rfl) ?_
  have hJ1 : Z 0 235 [(6, .int 10), (2, .int x2), (0, .ref 50), (1, .int (nB b1))] [.int (nB ((decide ((lg_cmp ((p >>> ((10 : Int32).toInt64 &&& 63)) &&& 1) 1) = 0)) && (!b1))), .int x2] (mGP μ g p f) := by
    generalize hee2 : ((decide ((lg_cmp ((p >>> ((10 : Int32).toInt64 &&& 63)) &&& 1) 1) = 0)) && (!b1)) = ee2
    refine z_rcs hc hH 4 (pc' := 203) (lv' := [(6, .int 11), (2, .int (x2 + (nB ee2))), (0, .ref 50), (1, .int (nB b1))]) (st' := []) (μ' := mGP μ g p f) (by rfl) ?_
    subst hee2
    exact K
  refine zq_if hc hH (by rfl) (tg := 234) (by rfl) (fun h3 => ?_) (fun h3 => ?_)
  · have h3 : (decide ((lg_cmp ((p >>> ((10 : Int32).toInt64 &&& 63)) &&& 1) 1) = 0)) = false := decide_eq_false (cm_ne.mp h3)
    refine z_rcs hc hH 1 (pc' := 235) (lv' := [(6, .int 10), (2, .int x2), (0, .ref 50), (1, .int (nB b1))]) (st' := [.int 0, .int x2]) (μ' := mGP μ g p f) (by rfl) ?_
    exact zJ hJ1 rfl (by first | with_reducible rfl | (simp only [h3, lb_f, Int64.or_zero, Int32.add_zero, nB_t, nB_f, Bool.not_true, Bool.not_false, Bool.and_true, Bool.true_and, Bool.false_and, Bool.and_false, Bool.or_true, Bool.true_or, Bool.false_or, Bool.or_false, cond_true, cond_false]; done) | rfl) rfl
  · have h3 : (decide ((lg_cmp ((p >>> ((10 : Int32).toInt64 &&& 63)) &&& 1) 1) = 0)) = true := decide_eq_true (cn_ne.mp h3)
    refine z_rcs hc hH 2 (pc' := 228) (lv' := [(6, .int 10), (2, .int x2), (0, .ref 50), (1, .int (nB b1))]) (st' := [.int (nB b1), .int 10, .int x2]) (μ' := mGP μ g p f) (by rfl) ?_
    refine zq_call hc (z_cx_ok hH (by rfl)) (fb_X7_han_10 d' (by omega) (mGP μ g p f) b1) (by decide +kernel) (fun r9 μ9 hq => ?_)
    obtain ⟨hμ9, rfl⟩ := hq
    rw [hμ9]
    clear hμ9 μ9
    show Z 0 231 [(6, .int 10), (2, .int x2), (0, .ref 50), (1, .int (nB b1))] [.int (nB (!b1)), .int x2] (mGP μ g p f)
    refine z_rcs hc hH 1 (pc' := 235) (lv' := [(6, .int 10), (2, .int x2), (0, .ref 50), (1, .int (nB b1))]) (st' := [.int (nB (!b1)), .int x2]) (μ' := mGP μ g p f) (by rfl) ?_
    exact zJ hJ1 rfl (by first | with_reducible rfl | (simp only [h3, lb_f, Int64.or_zero, Int32.add_zero, nB_t, nB_f, Bool.not_true, Bool.not_false, Bool.and_true, Bool.true_and, Bool.false_and, Bool.and_false, Bool.or_true, Bool.true_or, Bool.false_or, Bool.or_false, cond_true, cond_false]; done) | rfl) rfl
theorem cq203_11 (d' : Nat) (Z : zK) (hd : 1 ≤ d') (μ : zM) (hc : z_clo z_x0 mi_X7_compare (z_C d') Z) (x2 : Int32) (b1 : Bool) (g p : Int64) (f : Int32) (K : Z 0 203 [(6, .int 12), (2, .int (x2 + (nB (decide ((lg_cmp ((p >>> ((11 : Int32).toInt64 &&& 63)) &&& 1) 1) = 0))))), (0, .ref 50), (1, .int (nB b1))] [] (mGP μ g p f)) : Z 0 203 [(6, .int 11), (2, .int x2), (0, .ref 50), (1, .int (nB b1))] [] (mGP μ g p f) := by
  have hH : zH mi_X7_compare zt_X7_compare 79 7 7 := hh_X7_compare
  refine z_rcs hc hH 12 (pc' := 222) (lv' := [(6, .int 11), (2, .int x2), (0, .ref 50), (1, .int (nB b1))]) (st' := [.int (lg_cmp ((p >>> ((11 : Int32).toInt64 &&& 63)) &&& 1) 1), .int x2]) (μ' := mGP μ g p f) (by rfl) ?_
  have hJ1 : Z 0 235 [(6, .int 11), (2, .int x2), (0, .ref 50), (1, .int (nB b1))] [.int (nB (decide ((lg_cmp ((p >>> ((11 : Int32).toInt64 &&& 63)) &&& 1) 1) = 0))), .int x2] (mGP μ g p f) := by
    generalize hee2 : (decide ((lg_cmp ((p >>> ((11 : Int32).toInt64 &&& 63)) &&& 1) 1) = 0)) = ee2
    refine z_rcs hc hH 4 (pc' := 203) (lv' := [(6, .int 12), (2, .int (x2 + (nB ee2))), (0, .ref 50), (1, .int (nB b1))]) (st' := []) (μ' := mGP μ g p f) (by rfl) ?_
    subst hee2
    exact K
  refine zq_if hc hH (by rfl) (tg := 234) (by rfl) (fun h3 => ?_) (fun h3 => ?_)
  · have h3 : (decide ((lg_cmp ((p >>> ((11 : Int32).toInt64 &&& 63)) &&& 1) 1) = 0)) = false := decide_eq_false (cm_ne.mp h3)
    refine z_rcs hc hH 1 (pc' := 235) (lv' := [(6, .int 11), (2, .int x2), (0, .ref 50), (1, .int (nB b1))]) (st' := [.int 0, .int x2]) (μ' := mGP μ g p f) (by rfl) ?_
    exact zJ hJ1 rfl (by first | with_reducible rfl | (simp only [h3, lb_f, Int64.or_zero, Int32.add_zero, nB_t, nB_f, Bool.not_true, Bool.not_false, Bool.and_true, Bool.true_and, Bool.false_and, Bool.and_false, Bool.or_true, Bool.true_or, Bool.false_or, Bool.or_false, cond_true, cond_false]; done) | rfl) rfl
  · have h3 : (decide ((lg_cmp ((p >>> ((11 : Int32).toInt64 &&& 63)) &&& 1) 1) = 0)) = true := decide_eq_true (cn_ne.mp h3)
    refine z_rcs hc hH 2 (pc' := 228) (lv' := [(6, .int 11), (2, .int x2), (0, .ref 50), (1, .int (nB b1))]) (st' := [.int (nB b1), .int 11, .int x2]) (μ' := mGP μ g p f) (by rfl) ?_
    refine zq_call hc (z_cx_ok hH (by rfl)) (fb_X7_han_11 d' (by omega) (mGP μ g p f) b1) (by decide +kernel) (fun r9 μ9 hq => ?_)
    obtain ⟨hμ9, rfl⟩ := hq
    rw [hμ9]
    clear hμ9 μ9
    show Z 0 231 [(6, .int 11), (2, .int x2), (0, .ref 50), (1, .int (nB b1))] [.int 1, .int x2] (mGP μ g p f)
    refine z_rcs hc hH 1 (pc' := 235) (lv' := [(6, .int 11), (2, .int x2), (0, .ref 50), (1, .int (nB b1))]) (st' := [.int 1, .int x2]) (μ' := mGP μ g p f) (by rfl) ?_
    exact zJ hJ1 rfl (by first | with_reducible rfl | (simp only [h3, lb_f, Int64.or_zero, Int32.add_zero, nB_t, nB_f, Bool.not_true, Bool.not_false, Bool.and_true, Bool.true_and, Bool.false_and, Bool.and_false, Bool.or_true, Bool.true_or, Bool.false_or, Bool.or_false, cond_true, cond_false]; done) | rfl) rfl
theorem cq203_12 (d' : Nat) (Z : zK) (hd : 1 ≤ d') (μ : zM) (hc : z_clo z_x0 mi_X7_compare (z_C d') Z) (x2 : Int32) (b1 : Bool) (g p : Int64) (f : Int32) (K : Z 0 203 [(6, .int 13), (2, .int (x2 + (nB (decide ((lg_cmp ((p >>> ((12 : Int32).toInt64 &&& 63)) &&& 1) 1) = 0))))), (0, .ref 50), (1, .int (nB b1))] [] (mGP μ g p f)) : Z 0 203 [(6, .int 12), (2, .int x2), (0, .ref 50), (1, .int (nB b1))] [] (mGP μ g p f) := by
  have hH : zH mi_X7_compare zt_X7_compare 79 7 7 := hh_X7_compare
  refine z_rcs hc hH 12 (pc' := 222) (lv' := [(6, .int 12), (2, .int x2), (0, .ref 50), (1, .int (nB b1))]) (st' := [.int (lg_cmp ((p >>> ((12 : Int32).toInt64 &&& 63)) &&& 1) 1), .int x2]) (μ' := mGP μ g p f) (by rfl) ?_
  have hJ1 : Z 0 235 [(6, .int 12), (2, .int x2), (0, .ref 50), (1, .int (nB b1))] [.int (nB (decide ((lg_cmp ((p >>> ((12 : Int32).toInt64 &&& 63)) &&& 1) 1) = 0))), .int x2] (mGP μ g p f) := by
    generalize hee2 : (decide ((lg_cmp ((p >>> ((12 : Int32).toInt64 &&& 63)) &&& 1) 1) = 0)) = ee2
    refine z_rcs hc hH 4 (pc' := 203) (lv' := [(6, .int 13), (2, .int (x2 + (nB ee2))), (0, .ref 50), (1, .int (nB b1))]) (st' := []) (μ' := mGP μ g p f) (by rfl) ?_
    subst hee2
    exact K
  refine zq_if hc hH (by rfl) (tg := 234) (by rfl) (fun h3 => ?_) (fun h3 => ?_)
  · have h3 : (decide ((lg_cmp ((p >>> ((12 : Int32).toInt64 &&& 63)) &&& 1) 1) = 0)) = false := decide_eq_false (cm_ne.mp h3)
    refine z_rcs hc hH 1 (pc' := 235) (lv' := [(6, .int 12), (2, .int x2), (0, .ref 50), (1, .int (nB b1))]) (st' := [.int 0, .int x2]) (μ' := mGP μ g p f) (by rfl) ?_
    exact zJ hJ1 rfl (by first | with_reducible rfl | (simp only [h3, lb_f, Int64.or_zero, Int32.add_zero, nB_t, nB_f, Bool.not_true, Bool.not_false, Bool.and_true, Bool.true_and, Bool.false_and, Bool.and_false, Bool.or_true, Bool.true_or, Bool.false_or, Bool.or_false, cond_true, cond_false]; done) | rfl) rfl
  · have h3 : (decide ((lg_cmp ((p >>> ((12 : Int32).toInt64 &&& 63)) &&& 1) 1) = 0)) = true := decide_eq_true (cn_ne.mp h3)
    refine z_rcs hc hH 2 (pc' := 228) (lv' := [(6, .int 12), (2, .int x2), (0, .ref 50), (1, .int (nB b1))]) (st' := [.int (nB b1), .int 12, .int x2]) (μ' := mGP μ g p f) (by rfl) ?_
    refine zq_call hc (z_cx_ok hH (by rfl)) (fb_X7_han_12 d' (by omega) (mGP μ g p f) b1) (by decide +kernel) (fun r9 μ9 hq => ?_)
    obtain ⟨hμ9, rfl⟩ := hq
    rw [hμ9]
    clear hμ9 μ9
    show Z 0 231 [(6, .int 12), (2, .int x2), (0, .ref 50), (1, .int (nB b1))] [.int 1, .int x2] (mGP μ g p f)
    refine z_rcs hc hH 1 (pc' := 235) (lv' := [(6, .int 12), (2, .int x2), (0, .ref 50), (1, .int (nB b1))]) (st' := [.int 1, .int x2]) (μ' := mGP μ g p f) (by rfl) ?_
    exact zJ hJ1 rfl (by first | with_reducible rfl | (simp only [h3, lb_f, Int64.or_zero, Int32.add_zero, nB_t, nB_f, Bool.not_true, Bool.not_false, Bool.and_true, Bool.true_and, Bool.false_and, Bool.and_false, Bool.or_true, Bool.true_or, Bool.false_or, Bool.or_false, cond_true, cond_false]; done) | rfl) rfl
theorem cq203_13 (d' : Nat) (Z : zK) (hd : 1 ≤ d') (μ : zM) (hc : z_clo z_x0 mi_X7_compare (z_C d') Z) (x2 : Int32) (b1 : Bool) (g p : Int64) (f : Int32) (K : Z 0 203 [(6, .int 14), (2, .int (x2 + (nB (decide ((lg_cmp ((p >>> ((13 : Int32).toInt64 &&& 63)) &&& 1) 1) = 0))))), (0, .ref 50), (1, .int (nB b1))] [] (mGP μ g p f)) : Z 0 203 [(6, .int 13), (2, .int x2), (0, .ref 50), (1, .int (nB b1))] [] (mGP μ g p f) := by
  have hH : zH mi_X7_compare zt_X7_compare 79 7 7 := hh_X7_compare
  refine z_rcs hc hH 12 (pc' := 222) (lv' := [(6, .int 13), (2, .int x2), (0, .ref 50), (1, .int (nB b1))]) (st' := [.int (lg_cmp ((p >>> ((13 : Int32).toInt64 &&& 63)) &&& 1) 1), .int x2]) (μ' := mGP μ g p f) (by rfl) ?_
  have hJ1 : Z 0 235 [(6, .int 13), (2, .int x2), (0, .ref 50), (1, .int (nB b1))] [.int (nB (decide ((lg_cmp ((p >>> ((13 : Int32).toInt64 &&& 63)) &&& 1) 1) = 0))), .int x2] (mGP μ g p f) := by
    generalize hee2 : (decide ((lg_cmp ((p >>> ((13 : Int32).toInt64 &&& 63)) &&& 1) 1) = 0)) = ee2
    refine z_rcs hc hH 4 (pc' := 203) (lv' := [(6, .int 14), (2, .int (x2 + (nB ee2))), (0, .ref 50), (1, .int (nB b1))]) (st' := []) (μ' := mGP μ g p f) (by rfl) ?_
    subst hee2
    exact K
  refine zq_if hc hH (by rfl) (tg := 234) (by rfl) (fun h3 => ?_) (fun h3 => ?_)
  · have h3 : (decide ((lg_cmp ((p >>> ((13 : Int32).toInt64 &&& 63)) &&& 1) 1) = 0)) = false := decide_eq_false (cm_ne.mp h3)
    refine z_rcs hc hH 1 (pc' := 235) (lv' := [(6, .int 13), (2, .int x2), (0, .ref 50), (1, .int (nB b1))]) (st' := [.int 0, .int x2]) (μ' := mGP μ g p f) (by rfl) ?_
    exact zJ hJ1 rfl (by first | with_reducible rfl | (simp only [h3, lb_f, Int64.or_zero, Int32.add_zero, nB_t, nB_f, Bool.not_true, Bool.not_false, Bool.and_true, Bool.true_and, Bool.false_and, Bool.and_false, Bool.or_true, Bool.true_or, Bool.false_or, Bool.or_false, cond_true, cond_false]; done) | rfl) rfl
  · have h3 : (decide ((lg_cmp ((p >>> ((13 : Int32).toInt64 &&& 63)) &&& 1) 1) = 0)) = true := decide_eq_true (cn_ne.mp h3)
    refine z_rcs hc hH 2 (pc' := 228) (lv' := [(6, .int 13), (2, .int x2), (0, .ref 50), (1, .int (nB b1))]) (st' := [.int (nB b1), .int 13, .int x2]) (μ' := mGP μ g p f) (by rfl) ?_
    refine zq_call hc (z_cx_ok hH (by rfl)) (fb_X7_han_13 d' (by omega) (mGP μ g p f) b1) (by decide +kernel) (fun r9 μ9 hq => ?_)
    obtain ⟨hμ9, rfl⟩ := hq
    rw [hμ9]
    clear hμ9 μ9
    show Z 0 231 [(6, .int 13), (2, .int x2), (0, .ref 50), (1, .int (nB b1))] [.int 1, .int x2] (mGP μ g p f)
    refine z_rcs hc hH 1 (pc' := 235) (lv' := [(6, .int 13), (2, .int x2), (0, .ref 50), (1, .int (nB b1))]) (st' := [.int 1, .int x2]) (μ' := mGP μ g p f) (by rfl) ?_
    exact zJ hJ1 rfl (by first | with_reducible rfl | (simp only [h3, lb_f, Int64.or_zero, Int32.add_zero, nB_t, nB_f, Bool.not_true, Bool.not_false, Bool.and_true, Bool.true_and, Bool.false_and, Bool.and_false, Bool.or_true, Bool.true_or, Bool.false_or, Bool.or_false, cond_true, cond_false]; done) | rfl) rfl
theorem cq203_14 (d' : Nat) (Z : zK) (hd : 1 ≤ d') (μ : zM) (hc : z_clo z_x0 mi_X7_compare (z_C d') Z) (x2 : Int32) (b1 : Bool) (g p : Int64) (f : Int32) (K : Z 0 203 [(6, .int 15), (2, .int (x2 + (nB (decide ((lg_cmp ((p >>> ((14 : Int32).toInt64 &&& 63)) &&& 1) 1) = 0))))), (0, .ref 50), (1, .int (nB b1))] [] (mGP μ g p f)) : Z 0 203 [(6, .int 14), (2, .int x2), (0, .ref 50), (1, .int (nB b1))] [] (mGP μ g p f) := by
  have hH : zH mi_X7_compare zt_X7_compare 79 7 7 := hh_X7_compare
  refine z_rcs hc hH 12 (pc' := 222) (lv' := [(6, .int 14), (2, .int x2), (0, .ref 50), (1, .int (nB b1))]) (st' := [.int (lg_cmp ((p >>> ((14 : Int32).toInt64 &&& 63)) &&& 1) 1), .int x2]) (μ' := mGP μ g p f) (by rfl) ?_
  have hJ1 : Z 0 235 [(6, .int 14), (2, .int x2), (0, .ref 50), (1, .int (nB b1))] [.int (nB (decide ((lg_cmp ((p >>> ((14 : Int32).toInt64 &&& 63)) &&& 1) 1) = 0))), .int x2] (mGP μ g p f) := by
    generalize hee2 : (decide ((lg_cmp ((p >>> ((14 : Int32).toInt64 &&& 63)) &&& 1) 1) = 0)) = ee2
    refine z_rcs hc hH 4 (pc' := 203) (lv' := [(6, .int 15), (2, .int (x2 + (nB ee2))), (0, .ref 50), (1, .int (nB b1))]) (st' := []) (μ' := mGP μ g p f) (by rfl) ?_
    subst hee2
    exact K
  refine zq_if hc hH (by rfl) (tg := 234) (by rfl) (fun h3 => ?_) (fun h3 => ?_)
  · have h3 : (decide ((lg_cmp ((p >>> ((14 : Int32).toInt64 &&& 63)) &&& 1) 1) = 0)) = false := decide_eq_false (cm_ne.mp h3)
    refine z_rcs hc hH 1 (pc' := 235) (lv' := [(6, .int 14), (2, .int x2), (0, .ref 50), (1, .int (nB b1))]) (st' := [.int 0, .int x2]) (μ' := mGP μ g p f) (by rfl) ?_
    exact zJ hJ1 rfl (by first | with_reducible rfl | (simp only [h3, lb_f, Int64.or_zero, Int32.add_zero, nB_t, nB_f, Bool.not_true, Bool.not_false, Bool.and_true, Bool.true_and, Bool.false_and, Bool.and_false, Bool.or_true, Bool.true_or, Bool.false_or, Bool.or_false, cond_true, cond_false]; done) | rfl) rfl
  · have h3 : (decide ((lg_cmp ((p >>> ((14 : Int32).toInt64 &&& 63)) &&& 1) 1) = 0)) = true := decide_eq_true (cn_ne.mp h3)
    refine z_rcs hc hH 2 (pc' := 228) (lv' := [(6, .int 14), (2, .int x2), (0, .ref 50), (1, .int (nB b1))]) (st' := [.int (nB b1), .int 14, .int x2]) (μ' := mGP μ g p f) (by rfl) ?_
    refine zq_call hc (z_cx_ok hH (by rfl)) (fb_X7_han_14 d' (by omega) (mGP μ g p f) b1) (by decide +kernel) (fun r9 μ9 hq => ?_)
    obtain ⟨hμ9, rfl⟩ := hq
    rw [hμ9]
    clear hμ9 μ9
    show Z 0 231 [(6, .int 14), (2, .int x2), (0, .ref 50), (1, .int (nB b1))] [.int 1, .int x2] (mGP μ g p f)
    refine z_rcs hc hH 1 (pc' := 235) (lv' := [(6, .int 14), (2, .int x2), (0, .ref 50), (1, .int (nB b1))]) (st' := [.int 1, .int x2]) (μ' := mGP μ g p f) (by rfl) ?_
    exact zJ hJ1 rfl (by first | with_reducible rfl | (simp only [h3, lb_f, Int64.or_zero, Int32.add_zero, nB_t, nB_f, Bool.not_true, Bool.not_false, Bool.and_true, Bool.true_and, Bool.false_and, Bool.and_false, Bool.or_true, Bool.true_or, Bool.false_or, Bool.or_false, cond_true, cond_false]; done) | rfl) rfl
theorem cq203_15 (d' : Nat) (Z : zK) (hd : 1 ≤ d') (μ : zM) (hc : z_clo z_x0 mi_X7_compare (z_C d') Z) (x2 : Int32) (b1 : Bool) (g p : Int64) (f : Int32) (K : Z 0 203 [(6, .int 16), (2, .int (x2 + (nB (decide ((lg_cmp ((p >>> ((15 : Int32).toInt64 &&& 63)) &&& 1) 1) = 0))))), (0, .ref 50), (1, .int (nB b1))] [] (mGP μ g p f)) : Z 0 203 [(6, .int 15), (2, .int x2), (0, .ref 50), (1, .int (nB b1))] [] (mGP μ g p f) := by
  have hH : zH mi_X7_compare zt_X7_compare 79 7 7 := hh_X7_compare
  refine z_rcs hc hH 12 (pc' := 222) (lv' := [(6, .int 15), (2, .int x2), (0, .ref 50), (1, .int (nB b1))]) (st' := [.int (lg_cmp ((p >>> ((15 : Int32).toInt64 &&& 63)) &&& 1) 1), .int x2]) (μ' := mGP μ g p f) (by rfl) ?_
  have hJ1 : Z 0 235 [(6, .int 15), (2, .int x2), (0, .ref 50), (1, .int (nB b1))] [.int (nB (decide ((lg_cmp ((p >>> ((15 : Int32).toInt64 &&& 63)) &&& 1) 1) = 0))), .int x2] (mGP μ g p f) := by
    generalize hee2 : (decide ((lg_cmp ((p >>> ((15 : Int32).toInt64 &&& 63)) &&& 1) 1) = 0)) = ee2
    refine z_rcs hc hH 4 (pc' := 203) (lv' := [(6, .int 16), (2, .int (x2 + (nB ee2))), (0, .ref 50), (1, .int (nB b1))]) (st' := []) (μ' := mGP μ g p f) (by rfl) ?_
    subst hee2
    exact K
  refine zq_if hc hH (by rfl) (tg := 234) (by rfl) (fun h3 => ?_) (fun h3 => ?_)
  · have h3 : (decide ((lg_cmp ((p >>> ((15 : Int32).toInt64 &&& 63)) &&& 1) 1) = 0)) = false := decide_eq_false (cm_ne.mp h3)
    refine z_rcs hc hH 1 (pc' := 235) (lv' := [(6, .int 15), (2, .int x2), (0, .ref 50), (1, .int (nB b1))]) (st' := [.int 0, .int x2]) (μ' := mGP μ g p f) (by rfl) ?_
    exact zJ hJ1 rfl (by first | with_reducible rfl | (simp only [h3, lb_f, Int64.or_zero, Int32.add_zero, nB_t, nB_f, Bool.not_true, Bool.not_false, Bool.and_true, Bool.true_and, Bool.false_and, Bool.and_false, Bool.or_true, Bool.true_or, Bool.false_or, Bool.or_false, cond_true, cond_false]; done) | rfl) rfl
  · have h3 : (decide ((lg_cmp ((p >>> ((15 : Int32).toInt64 &&& 63)) &&& 1) 1) = 0)) = true := decide_eq_true (cn_ne.mp h3)
    refine z_rcs hc hH 2 (pc' := 228) (lv' := [(6, .int 15), (2, .int x2), (0, .ref 50), (1, .int (nB b1))]) (st' := [.int (nB b1), .int 15, .int x2]) (μ' := mGP μ g p f) (by rfl) ?_
    refine zq_call hc (z_cx_ok hH (by rfl)) (fb_X7_han_15 d' (by omega) (mGP μ g p f) b1) (by decide +kernel) (fun r9 μ9 hq => ?_)
    obtain ⟨hμ9, rfl⟩ := hq
    rw [hμ9]
    clear hμ9 μ9
    show Z 0 231 [(6, .int 15), (2, .int x2), (0, .ref 50), (1, .int (nB b1))] [.int 1, .int x2] (mGP μ g p f)
    refine z_rcs hc hH 1 (pc' := 235) (lv' := [(6, .int 15), (2, .int x2), (0, .ref 50), (1, .int (nB b1))]) (st' := [.int 1, .int x2]) (μ' := mGP μ g p f) (by rfl) ?_
    exact zJ hJ1 rfl (by first | with_reducible rfl | (simp only [h3, lb_f, Int64.or_zero, Int32.add_zero, nB_t, nB_f, Bool.not_true, Bool.not_false, Bool.and_true, Bool.true_and, Bool.false_and, Bool.and_false, Bool.or_true, Bool.true_or, Bool.false_or, Bool.or_false, cond_true, cond_false]; done) | rfl) rfl
theorem cq203_16 (d' : Nat) (Z : zK) (hd : 1 ≤ d') (μ : zM) (hc : z_clo z_x0 mi_X7_compare (z_C d') Z) (x2 : Int32) (b1 : Bool) (g p : Int64) (f : Int32) (K : Z 0 203 [(6, .int 17), (2, .int (x2 + (bif decide ((lg_cmp ((p >>> ((16 : Int32).toInt64 &&& 63)) &&& 1) 1) = 0) then (2 : Int32) else 0))), (0, .ref 50), (1, .int (nB b1))] [] (mGP μ g p f)) : Z 0 203 [(6, .int 16), (2, .int x2), (0, .ref 50), (1, .int (nB b1))] [] (mGP μ g p f) := by
  have hH : zH mi_X7_compare zt_X7_compare 79 7 7 := hh_X7_compare
  refine z_rcs hc hH 12 (pc' := 222) (lv' := [(6, .int 16), (2, .int x2), (0, .ref 50), (1, .int (nB b1))]) (st' := [.int (lg_cmp ((p >>> ((16 : Int32).toInt64 &&& 63)) &&& 1) 1), .int x2]) (μ' := mGP μ g p f) (by rfl) ?_
  have hJ1 : Z 0 235 [(6, .int 16), (2, .int x2), (0, .ref 50), (1, .int (nB b1))] [.int (bif decide ((lg_cmp ((p >>> ((16 : Int32).toInt64 &&& 63)) &&& 1) 1) = 0) then (2 : Int32) else 0), .int x2] (mGP μ g p f) := by
    generalize hyy2 : (bif decide ((lg_cmp ((p >>> ((16 : Int32).toInt64 &&& 63)) &&& 1) 1) = 0) then (2 : Int32) else 0 : Int32) = yy2
    refine z_rcs hc hH 4 (pc' := 203) (lv' := [(6, .int 17), (2, .int (x2 + yy2)), (0, .ref 50), (1, .int (nB b1))]) (st' := []) (μ' := mGP μ g p f) (by rfl) ?_
    subst hyy2
    exact K
  refine zq_if hc hH (by rfl) (tg := 234) (by rfl) (fun h3 => ?_) (fun h3 => ?_)
  · have h3 : (decide ((lg_cmp ((p >>> ((16 : Int32).toInt64 &&& 63)) &&& 1) 1) = 0)) = false := decide_eq_false (cm_ne.mp h3)
    refine z_rcs hc hH 1 (pc' := 235) (lv' := [(6, .int 16), (2, .int x2), (0, .ref 50), (1, .int (nB b1))]) (st' := [.int 0, .int x2]) (μ' := mGP μ g p f) (by rfl) ?_
    exact zJ hJ1 rfl (by first | with_reducible rfl | (simp only [h3, lb_f, Int64.or_zero, Int32.add_zero, nB_t, nB_f, Bool.not_true, Bool.not_false, Bool.and_true, Bool.true_and, Bool.false_and, Bool.and_false, Bool.or_true, Bool.true_or, Bool.false_or, Bool.or_false, cond_true, cond_false]; done) | rfl) rfl
  · have h3 : (decide ((lg_cmp ((p >>> ((16 : Int32).toInt64 &&& 63)) &&& 1) 1) = 0)) = true := decide_eq_true (cn_ne.mp h3)
    refine z_rcs hc hH 2 (pc' := 228) (lv' := [(6, .int 16), (2, .int x2), (0, .ref 50), (1, .int (nB b1))]) (st' := [.int (nB b1), .int 16, .int x2]) (μ' := mGP μ g p f) (by rfl) ?_
    refine zq_call hc (z_cx_ok hH (by rfl)) (fb_X7_han_16 d' (by omega) (mGP μ g p f) b1) (by decide +kernel) (fun r9 μ9 hq => ?_)
    obtain ⟨hμ9, rfl⟩ := hq
    rw [hμ9]
    clear hμ9 μ9
    show Z 0 231 [(6, .int 16), (2, .int x2), (0, .ref 50), (1, .int (nB b1))] [.int 2, .int x2] (mGP μ g p f)
    refine z_rcs hc hH 1 (pc' := 235) (lv' := [(6, .int 16), (2, .int x2), (0, .ref 50), (1, .int (nB b1))]) (st' := [.int 2, .int x2]) (μ' := mGP μ g p f) (by rfl) ?_
    exact zJ hJ1 rfl (by first | with_reducible rfl | (simp only [h3, lb_f, Int64.or_zero, Int32.add_zero, nB_t, nB_f, Bool.not_true, Bool.not_false, Bool.and_true, Bool.true_and, Bool.false_and, Bool.and_false, Bool.or_true, Bool.true_or, Bool.false_or, Bool.or_false, cond_true, cond_false]; done) | rfl) rfl
theorem cq203_17 (d' : Nat) (Z : zK) (hd : 1 ≤ d') (μ : zM) (hc : z_clo z_x0 mi_X7_compare (z_C d') Z) (x2 : Int32) (b1 : Bool) (g p : Int64) (f : Int32) (K : Z 0 203 [(6, .int 18), (2, .int (x2 + (bif decide ((lg_cmp ((p >>> ((17 : Int32).toInt64 &&& 63)) &&& 1) 1) = 0) then bif b1 then (1 : Int32) else 2 else 0))), (0, .ref 50), (1, .int (nB b1))] [] (mGP μ g p f)) : Z 0 203 [(6, .int 17), (2, .int x2), (0, .ref 50), (1, .int (nB b1))] [] (mGP μ g p f) := by
  have hH : zH mi_X7_compare zt_X7_compare 79 7 7 := hh_X7_compare
  refine z_rcs hc hH 12 (pc' := 222) (lv' := [(6, .int 17), (2, .int x2), (0, .ref 50), (1, .int (nB b1))]) (st' := [.int (lg_cmp ((p >>> ((17 : Int32).toInt64 &&& 63)) &&& 1) 1), .int x2]) (μ' := mGP μ g p f) (by rfl) ?_
  have hJ1 : Z 0 235 [(6, .int 17), (2, .int x2), (0, .ref 50), (1, .int (nB b1))] [.int (bif decide ((lg_cmp ((p >>> ((17 : Int32).toInt64 &&& 63)) &&& 1) 1) = 0) then bif b1 then (1 : Int32) else 2 else 0), .int x2] (mGP μ g p f) := by
    generalize hyy2 : (bif decide ((lg_cmp ((p >>> ((17 : Int32).toInt64 &&& 63)) &&& 1) 1) = 0) then bif b1 then (1 : Int32) else 2 else 0 : Int32) = yy2
    refine z_rcs hc hH 4 (pc' := 203) (lv' := [(6, .int 18), (2, .int (x2 + yy2)), (0, .ref 50), (1, .int (nB b1))]) (st' := []) (μ' := mGP μ g p f) (by rfl) ?_
    subst hyy2
    exact K
  refine zq_if hc hH (by rfl) (tg := 234) (by rfl) (fun h3 => ?_) (fun h3 => ?_)
  · have h3 : (decide ((lg_cmp ((p >>> ((17 : Int32).toInt64 &&& 63)) &&& 1) 1) = 0)) = false := decide_eq_false (cm_ne.mp h3)
    refine z_rcs hc hH 1 (pc' := 235) (lv' := [(6, .int 17), (2, .int x2), (0, .ref 50), (1, .int (nB b1))]) (st' := [.int 0, .int x2]) (μ' := mGP μ g p f) (by rfl) ?_
    exact zJ hJ1 rfl (by first | with_reducible rfl | (simp only [h3, lb_f, Int64.or_zero, Int32.add_zero, nB_t, nB_f, Bool.not_true, Bool.not_false, Bool.and_true, Bool.true_and, Bool.false_and, Bool.and_false, Bool.or_true, Bool.true_or, Bool.false_or, Bool.or_false, cond_true, cond_false]; done) | rfl) rfl
  · have h3 : (decide ((lg_cmp ((p >>> ((17 : Int32).toInt64 &&& 63)) &&& 1) 1) = 0)) = true := decide_eq_true (cn_ne.mp h3)
    refine z_rcs hc hH 2 (pc' := 228) (lv' := [(6, .int 17), (2, .int x2), (0, .ref 50), (1, .int (nB b1))]) (st' := [.int (nB b1), .int 17, .int x2]) (μ' := mGP μ g p f) (by rfl) ?_
    refine zq_call hc (z_cx_ok hH (by rfl)) (fb_X7_han_17 d' (by omega) (mGP μ g p f) b1) (by decide +kernel) (fun r9 μ9 hq => ?_)
    obtain ⟨hμ9, rfl⟩ := hq
    rw [hμ9]
    clear hμ9 μ9
    show Z 0 231 [(6, .int 17), (2, .int x2), (0, .ref 50), (1, .int (nB b1))] [.int (bif b1 then (1 : Int32) else 2), .int x2] (mGP μ g p f)
    refine z_rcs hc hH 1 (pc' := 235) (lv' := [(6, .int 17), (2, .int x2), (0, .ref 50), (1, .int (nB b1))]) (st' := [.int (bif b1 then (1 : Int32) else 2), .int x2]) (μ' := mGP μ g p f) (by rfl) ?_
    exact zJ hJ1 rfl (by first | with_reducible rfl | (simp only [h3, lb_f, Int64.or_zero, Int32.add_zero, nB_t, nB_f, Bool.not_true, Bool.not_false, Bool.and_true, Bool.true_and, Bool.false_and, Bool.and_false, Bool.or_true, Bool.true_or, Bool.false_or, Bool.or_false, cond_true, cond_false]; done) | rfl) rfl
theorem cq203_18 (d' : Nat) (Z : zK) (hd : 1 ≤ d') (μ : zM) (hc : z_clo z_x0 mi_X7_compare (z_C d') Z) (x2 : Int32) (b1 : Bool) (g p : Int64) (f : Int32) (K : Z 0 203 [(6, .int 19), (2, .int (x2 + (bif decide ((lg_cmp ((p >>> ((18 : Int32).toInt64 &&& 63)) &&& 1) 1) = 0) then bif b1 then (1 : Int32) else 2 else 0))), (0, .ref 50), (1, .int (nB b1))] [] (mGP μ g p f)) : Z 0 203 [(6, .int 18), (2, .int x2), (0, .ref 50), (1, .int (nB b1))] [] (mGP μ g p f) := by
  have hH : zH mi_X7_compare zt_X7_compare 79 7 7 := hh_X7_compare
  refine z_rcs hc hH 12 (pc' := 222) (lv' := [(6, .int 18), (2, .int x2), (0, .ref 50), (1, .int (nB b1))]) (st' := [.int (lg_cmp ((p >>> ((18 : Int32).toInt64 &&& 63)) &&& 1) 1), .int x2]) (μ' := mGP μ g p f) (by rfl) ?_
  have hJ1 : Z 0 235 [(6, .int 18), (2, .int x2), (0, .ref 50), (1, .int (nB b1))] [.int (bif decide ((lg_cmp ((p >>> ((18 : Int32).toInt64 &&& 63)) &&& 1) 1) = 0) then bif b1 then (1 : Int32) else 2 else 0), .int x2] (mGP μ g p f) := by
    generalize hyy2 : (bif decide ((lg_cmp ((p >>> ((18 : Int32).toInt64 &&& 63)) &&& 1) 1) = 0) then bif b1 then (1 : Int32) else 2 else 0 : Int32) = yy2
    refine z_rcs hc hH 4 (pc' := 203) (lv' := [(6, .int 19), (2, .int (x2 + yy2)), (0, .ref 50), (1, .int (nB b1))]) (st' := []) (μ' := mGP μ g p f) (by rfl) ?_
    subst hyy2
    exact K
  refine zq_if hc hH (by rfl) (tg := 234) (by rfl) (fun h3 => ?_) (fun h3 => ?_)
  · have h3 : (decide ((lg_cmp ((p >>> ((18 : Int32).toInt64 &&& 63)) &&& 1) 1) = 0)) = false := decide_eq_false (cm_ne.mp h3)
    refine z_rcs hc hH 1 (pc' := 235) (lv' := [(6, .int 18), (2, .int x2), (0, .ref 50), (1, .int (nB b1))]) (st' := [.int 0, .int x2]) (μ' := mGP μ g p f) (by rfl) ?_
    exact zJ hJ1 rfl (by first | with_reducible rfl | (simp only [h3, lb_f, Int64.or_zero, Int32.add_zero, nB_t, nB_f, Bool.not_true, Bool.not_false, Bool.and_true, Bool.true_and, Bool.false_and, Bool.and_false, Bool.or_true, Bool.true_or, Bool.false_or, Bool.or_false, cond_true, cond_false]; done) | rfl) rfl
  · have h3 : (decide ((lg_cmp ((p >>> ((18 : Int32).toInt64 &&& 63)) &&& 1) 1) = 0)) = true := decide_eq_true (cn_ne.mp h3)
    refine z_rcs hc hH 2 (pc' := 228) (lv' := [(6, .int 18), (2, .int x2), (0, .ref 50), (1, .int (nB b1))]) (st' := [.int (nB b1), .int 18, .int x2]) (μ' := mGP μ g p f) (by rfl) ?_
    refine zq_call hc (z_cx_ok hH (by rfl)) (fb_X7_han_18 d' (by omega) (mGP μ g p f) b1) (by decide +kernel) (fun r9 μ9 hq => ?_)
    obtain ⟨hμ9, rfl⟩ := hq
    rw [hμ9]
    clear hμ9 μ9
    show Z 0 231 [(6, .int 18), (2, .int x2), (0, .ref 50), (1, .int (nB b1))] [.int (bif b1 then (1 : Int32) else 2), .int x2] (mGP μ g p f)
    refine z_rcs hc hH 1 (pc' := 235) (lv' := [(6, .int 18), (2, .int x2), (0, .ref 50), (1, .int (nB b1))]) (st' := [.int (bif b1 then (1 : Int32) else 2), .int x2]) (μ' := mGP μ g p f) (by rfl) ?_
    exact zJ hJ1 rfl (by first | with_reducible rfl | (simp only [h3, lb_f, Int64.or_zero, Int32.add_zero, nB_t, nB_f, Bool.not_true, Bool.not_false, Bool.and_true, Bool.true_and, Bool.false_and, Bool.and_false, Bool.or_true, Bool.true_or, Bool.false_or, Bool.or_false, cond_true, cond_false]; done) | rfl) rfl
theorem cq203_19 (d' : Nat) (Z : zK) (hd : 1 ≤ d') (μ : zM) (hc : z_clo z_x0 mi_X7_compare (z_C d') Z) (x2 : Int32) (b1 : Bool) (g p : Int64) (f : Int32) (K : Z 0 203 [(6, .int 20), (2, .int (x2 + (bif decide ((lg_cmp ((p >>> ((19 : Int32).toInt64 &&& 63)) &&& 1) 1) = 0) then (2 : Int32) else 0))), (0, .ref 50), (1, .int (nB b1))] [] (mGP μ g p f)) : Z 0 203 [(6, .int 19), (2, .int x2), (0, .ref 50), (1, .int (nB b1))] [] (mGP μ g p f) := by
  have hH : zH mi_X7_compare zt_X7_compare 79 7 7 := hh_X7_compare
  refine z_rcs hc hH 12 (pc' := 222) (lv' := [(6, .int 19), (2, .int x2), (0, .ref 50), (1, .int (nB b1))]) (st' := [.int (lg_cmp ((p >>> ((19 : Int32).toInt64 &&& 63)) &&& 1) 1), .int x2]) (μ' := mGP μ g p f) (by rfl) ?_
  have hJ1 : Z 0 235 [(6, .int 19), (2, .int x2), (0, .ref 50), (1, .int (nB b1))] [.int (bif decide ((lg_cmp ((p >>> ((19 : Int32).toInt64 &&& 63)) &&& 1) 1) = 0) then (2 : Int32) else 0), .int x2] (mGP μ g p f) := by
    generalize hyy2 : (bif decide ((lg_cmp ((p >>> ((19 : Int32).toInt64 &&& 63)) &&& 1) 1) = 0) then (2 : Int32) else 0 : Int32) = yy2
    refine z_rcs hc hH 4 (pc' := 203) (lv' := [(6, .int 20), (2, .int (x2 + yy2)), (0, .ref 50), (1, .int (nB b1))]) (st' := []) (μ' := mGP μ g p f) (by rfl) ?_
    subst hyy2
    exact K
  refine zq_if hc hH (by rfl) (tg := 234) (by rfl) (fun h3 => ?_) (fun h3 => ?_)
  · have h3 : (decide ((lg_cmp ((p >>> ((19 : Int32).toInt64 &&& 63)) &&& 1) 1) = 0)) = false := decide_eq_false (cm_ne.mp h3)
    refine z_rcs hc hH 1 (pc' := 235) (lv' := [(6, .int 19), (2, .int x2), (0, .ref 50), (1, .int (nB b1))]) (st' := [.int 0, .int x2]) (μ' := mGP μ g p f) (by rfl) ?_
    exact zJ hJ1 rfl (by first | with_reducible rfl | (simp only [h3, lb_f, Int64.or_zero, Int32.add_zero, nB_t, nB_f, Bool.not_true, Bool.not_false, Bool.and_true, Bool.true_and, Bool.false_and, Bool.and_false, Bool.or_true, Bool.true_or, Bool.false_or, Bool.or_false, cond_true, cond_false]; done) | rfl) rfl
  · have h3 : (decide ((lg_cmp ((p >>> ((19 : Int32).toInt64 &&& 63)) &&& 1) 1) = 0)) = true := decide_eq_true (cn_ne.mp h3)
    refine z_rcs hc hH 2 (pc' := 228) (lv' := [(6, .int 19), (2, .int x2), (0, .ref 50), (1, .int (nB b1))]) (st' := [.int (nB b1), .int 19, .int x2]) (μ' := mGP μ g p f) (by rfl) ?_
    refine zq_call hc (z_cx_ok hH (by rfl)) (fb_X7_han_19 d' (by omega) (mGP μ g p f) b1) (by decide +kernel) (fun r9 μ9 hq => ?_)
    obtain ⟨hμ9, rfl⟩ := hq
    rw [hμ9]
    clear hμ9 μ9
    show Z 0 231 [(6, .int 19), (2, .int x2), (0, .ref 50), (1, .int (nB b1))] [.int 2, .int x2] (mGP μ g p f)
    refine z_rcs hc hH 1 (pc' := 235) (lv' := [(6, .int 19), (2, .int x2), (0, .ref 50), (1, .int (nB b1))]) (st' := [.int 2, .int x2]) (μ' := mGP μ g p f) (by rfl) ?_
    exact zJ hJ1 rfl (by first | with_reducible rfl | (simp only [h3, lb_f, Int64.or_zero, Int32.add_zero, nB_t, nB_f, Bool.not_true, Bool.not_false, Bool.and_true, Bool.true_and, Bool.false_and, Bool.and_false, Bool.or_true, Bool.true_or, Bool.false_or, Bool.or_false, cond_true, cond_false]; done) | rfl) rfl
theorem cq203_20 (d' : Nat) (Z : zK) (hd : 1 ≤ d') (μ : zM) (hc : z_clo z_x0 mi_X7_compare (z_C d') Z) (x2 : Int32) (b1 : Bool) (g p : Int64) (f : Int32) (K : Z 0 203 [(6, .int 21), (2, .int (x2 + (bif decide ((lg_cmp ((p >>> ((20 : Int32).toInt64 &&& 63)) &&& 1) 1) = 0) then (2 : Int32) else 0))), (0, .ref 50), (1, .int (nB b1))] [] (mGP μ g p f)) : Z 0 203 [(6, .int 20), (2, .int x2), (0, .ref 50), (1, .int (nB b1))] [] (mGP μ g p f) := by
  have hH : zH mi_X7_compare zt_X7_compare 79 7 7 := hh_X7_compare
  refine z_rcs hc hH 12 (pc' := 222) (lv' := [(6, .int 20), (2, .int x2), (0, .ref 50), (1, .int (nB b1))]) (st' := [.int (lg_cmp ((p >>> ((20 : Int32).toInt64 &&& 63)) &&& 1) 1), .int x2]) (μ' := mGP μ g p f) (by rfl) ?_
  have hJ1 : Z 0 235 [(6, .int 20), (2, .int x2), (0, .ref 50), (1, .int (nB b1))] [.int (bif decide ((lg_cmp ((p >>> ((20 : Int32).toInt64 &&& 63)) &&& 1) 1) = 0) then (2 : Int32) else 0), .int x2] (mGP μ g p f) := by
    generalize hyy2 : (bif decide ((lg_cmp ((p >>> ((20 : Int32).toInt64 &&& 63)) &&& 1) 1) = 0) then (2 : Int32) else 0 : Int32) = yy2
    refine z_rcs hc hH 4 (pc' := 203) (lv' := [(6, .int 21), (2, .int (x2 + yy2)), (0, .ref 50), (1, .int (nB b1))]) (st' := []) (μ' := mGP μ g p f) (by rfl) ?_
    subst hyy2
    exact K
  refine zq_if hc hH (by rfl) (tg := 234) (by rfl) (fun h3 => ?_) (fun h3 => ?_)
  · have h3 : (decide ((lg_cmp ((p >>> ((20 : Int32).toInt64 &&& 63)) &&& 1) 1) = 0)) = false := decide_eq_false (cm_ne.mp h3)
    refine z_rcs hc hH 1 (pc' := 235) (lv' := [(6, .int 20), (2, .int x2), (0, .ref 50), (1, .int (nB b1))]) (st' := [.int 0, .int x2]) (μ' := mGP μ g p f) (by rfl) ?_
    exact zJ hJ1 rfl (by first | with_reducible rfl | (simp only [h3, lb_f, Int64.or_zero, Int32.add_zero, nB_t, nB_f, Bool.not_true, Bool.not_false, Bool.and_true, Bool.true_and, Bool.false_and, Bool.and_false, Bool.or_true, Bool.true_or, Bool.false_or, Bool.or_false, cond_true, cond_false]; done) | rfl) rfl
  · have h3 : (decide ((lg_cmp ((p >>> ((20 : Int32).toInt64 &&& 63)) &&& 1) 1) = 0)) = true := decide_eq_true (cn_ne.mp h3)
    refine z_rcs hc hH 2 (pc' := 228) (lv' := [(6, .int 20), (2, .int x2), (0, .ref 50), (1, .int (nB b1))]) (st' := [.int (nB b1), .int 20, .int x2]) (μ' := mGP μ g p f) (by rfl) ?_
    refine zq_call hc (z_cx_ok hH (by rfl)) (fb_X7_han_20 d' (by omega) (mGP μ g p f) b1) (by decide +kernel) (fun r9 μ9 hq => ?_)
    obtain ⟨hμ9, rfl⟩ := hq
    rw [hμ9]
    clear hμ9 μ9
    show Z 0 231 [(6, .int 20), (2, .int x2), (0, .ref 50), (1, .int (nB b1))] [.int 2, .int x2] (mGP μ g p f)
    refine z_rcs hc hH 1 (pc' := 235) (lv' := [(6, .int 20), (2, .int x2), (0, .ref 50), (1, .int (nB b1))]) (st' := [.int 2, .int x2]) (μ' := mGP μ g p f) (by rfl) ?_
    exact zJ hJ1 rfl (by first | with_reducible rfl | (simp only [h3, lb_f, Int64.or_zero, Int32.add_zero, nB_t, nB_f, Bool.not_true, Bool.not_false, Bool.and_true, Bool.true_and, Bool.false_and, Bool.and_false, Bool.or_true, Bool.true_or, Bool.false_or, Bool.or_false, cond_true, cond_false]; done) | rfl) rfl
theorem cq203_21 (d' : Nat) (Z : zK) (hd : 1 ≤ d') (μ : zM) (hc : z_clo z_x0 mi_X7_compare (z_C d') Z) (x2 : Int32) (b1 : Bool) (g p : Int64) (f : Int32) (K : Z 0 203 [(6, .int 22), (2, .int (x2 + (bif decide ((lg_cmp ((p >>> ((21 : Int32).toInt64 &&& 63)) &&& 1) 1) = 0) then (2 : Int32) else 0))), (0, .ref 50), (1, .int (nB b1))] [] (mGP μ g p f)) : Z 0 203 [(6, .int 21), (2, .int x2), (0, .ref 50), (1, .int (nB b1))] [] (mGP μ g p f) := by
  have hH : zH mi_X7_compare zt_X7_compare 79 7 7 := hh_X7_compare
  refine z_rcs hc hH 12 (pc' := 222) (lv' := [(6, .int 21), (2, .int x2), (0, .ref 50), (1, .int (nB b1))]) (st' := [.int (lg_cmp ((p >>> ((21 : Int32).toInt64 &&& 63)) &&& 1) 1), .int x2]) (μ' := mGP μ g p f) (by rfl) ?_
  have hJ1 : Z 0 235 [(6, .int 21), (2, .int x2), (0, .ref 50), (1, .int (nB b1))] [.int (bif decide ((lg_cmp ((p >>> ((21 : Int32).toInt64 &&& 63)) &&& 1) 1) = 0) then (2 : Int32) else 0), .int x2] (mGP μ g p f) := by
    generalize hyy2 : (bif decide ((lg_cmp ((p >>> ((21 : Int32).toInt64 &&& 63)) &&& 1) 1) = 0) then (2 : Int32) else 0 : Int32) = yy2
    refine z_rcs hc hH 4 (pc' := 203) (lv' := [(6, .int 22), (2, .int (x2 + yy2)), (0, .ref 50), (1, .int (nB b1))]) (st' := []) (μ' := mGP μ g p f) (by rfl) ?_
    subst hyy2
    exact K
  refine zq_if hc hH (by rfl) (tg := 234) (by rfl) (fun h3 => ?_) (fun h3 => ?_)
  · have h3 : (decide ((lg_cmp ((p >>> ((21 : Int32).toInt64 &&& 63)) &&& 1) 1) = 0)) = false := decide_eq_false (cm_ne.mp h3)
    refine z_rcs hc hH 1 (pc' := 235) (lv' := [(6, .int 21), (2, .int x2), (0, .ref 50), (1, .int (nB b1))]) (st' := [.int 0, .int x2]) (μ' := mGP μ g p f) (by rfl) ?_
    exact zJ hJ1 rfl (by first | with_reducible rfl | (simp only [h3, lb_f, Int64.or_zero, Int32.add_zero, nB_t, nB_f, Bool.not_true, Bool.not_false, Bool.and_true, Bool.true_and, Bool.false_and, Bool.and_false, Bool.or_true, Bool.true_or, Bool.false_or, Bool.or_false, cond_true, cond_false]; done) | rfl) rfl
  · have h3 : (decide ((lg_cmp ((p >>> ((21 : Int32).toInt64 &&& 63)) &&& 1) 1) = 0)) = true := decide_eq_true (cn_ne.mp h3)
    refine z_rcs hc hH 2 (pc' := 228) (lv' := [(6, .int 21), (2, .int x2), (0, .ref 50), (1, .int (nB b1))]) (st' := [.int (nB b1), .int 21, .int x2]) (μ' := mGP μ g p f) (by rfl) ?_
    refine zq_call hc (z_cx_ok hH (by rfl)) (fb_X7_han_21 d' (by omega) (mGP μ g p f) b1) (by decide +kernel) (fun r9 μ9 hq => ?_)
    obtain ⟨hμ9, rfl⟩ := hq
    rw [hμ9]
    clear hμ9 μ9
    show Z 0 231 [(6, .int 21), (2, .int x2), (0, .ref 50), (1, .int (nB b1))] [.int 2, .int x2] (mGP μ g p f)
    refine z_rcs hc hH 1 (pc' := 235) (lv' := [(6, .int 21), (2, .int x2), (0, .ref 50), (1, .int (nB b1))]) (st' := [.int 2, .int x2]) (μ' := mGP μ g p f) (by rfl) ?_
    exact zJ hJ1 rfl (by first | with_reducible rfl | (simp only [h3, lb_f, Int64.or_zero, Int32.add_zero, nB_t, nB_f, Bool.not_true, Bool.not_false, Bool.and_true, Bool.true_and, Bool.false_and, Bool.and_false, Bool.or_true, Bool.true_or, Bool.false_or, Bool.or_false, cond_true, cond_false]; done) | rfl) rfl
theorem cq203_22 (d' : Nat) (Z : zK) (hd : 1 ≤ d') (μ : zM) (hc : z_clo z_x0 mi_X7_compare (z_C d') Z) (x2 : Int32) (b1 : Bool) (g p : Int64) (f : Int32) (K : Z 0 203 [(6, .int 23), (2, .int (x2 + (bif decide ((lg_cmp ((p >>> ((22 : Int32).toInt64 &&& 63)) &&& 1) 1) = 0) then (2 : Int32) else 0))), (0, .ref 50), (1, .int (nB b1))] [] (mGP μ g p f)) : Z 0 203 [(6, .int 22), (2, .int x2), (0, .ref 50), (1, .int (nB b1))] [] (mGP μ g p f) := by
  have hH : zH mi_X7_compare zt_X7_compare 79 7 7 := hh_X7_compare
  refine z_rcs hc hH 12 (pc' := 222) (lv' := [(6, .int 22), (2, .int x2), (0, .ref 50), (1, .int (nB b1))]) (st' := [.int (lg_cmp ((p >>> ((22 : Int32).toInt64 &&& 63)) &&& 1) 1), .int x2]) (μ' := mGP μ g p f) (by rfl) ?_
  have hJ1 : Z 0 235 [(6, .int 22), (2, .int x2), (0, .ref 50), (1, .int (nB b1))] [.int (bif decide ((lg_cmp ((p >>> ((22 : Int32).toInt64 &&& 63)) &&& 1) 1) = 0) then (2 : Int32) else 0), .int x2] (mGP μ g p f) := by
    generalize hyy2 : (bif decide ((lg_cmp ((p >>> ((22 : Int32).toInt64 &&& 63)) &&& 1) 1) = 0) then (2 : Int32) else 0 : Int32) = yy2
    refine z_rcs hc hH 4 (pc' := 203) (lv' := [(6, .int 23), (2, .int (x2 + yy2)), (0, .ref 50), (1, .int (nB b1))]) (st' := []) (μ' := mGP μ g p f) (by rfl) ?_
    subst hyy2
    exact K
  refine zq_if hc hH (by rfl) (tg := 234) (by rfl) (fun h3 => ?_) (fun h3 => ?_)
  · have h3 : (decide ((lg_cmp ((p >>> ((22 : Int32).toInt64 &&& 63)) &&& 1) 1) = 0)) = false := decide_eq_false (cm_ne.mp h3)
    refine z_rcs hc hH 1 (pc' := 235) (lv' := [(6, .int 22), (2, .int x2), (0, .ref 50), (1, .int (nB b1))]) (st' := [.int 0, .int x2]) (μ' := mGP μ g p f) (by rfl) ?_
    exact zJ hJ1 rfl (by first | with_reducible rfl | (simp only [h3, lb_f, Int64.or_zero, Int32.add_zero, nB_t, nB_f, Bool.not_true, Bool.not_false, Bool.and_true, Bool.true_and, Bool.false_and, Bool.and_false, Bool.or_true, Bool.true_or, Bool.false_or, Bool.or_false, cond_true, cond_false]; done) | rfl) rfl
  · have h3 : (decide ((lg_cmp ((p >>> ((22 : Int32).toInt64 &&& 63)) &&& 1) 1) = 0)) = true := decide_eq_true (cn_ne.mp h3)
    refine z_rcs hc hH 2 (pc' := 228) (lv' := [(6, .int 22), (2, .int x2), (0, .ref 50), (1, .int (nB b1))]) (st' := [.int (nB b1), .int 22, .int x2]) (μ' := mGP μ g p f) (by rfl) ?_
    refine zq_call hc (z_cx_ok hH (by rfl)) (fb_X7_han_22 d' (by omega) (mGP μ g p f) b1) (by decide +kernel) (fun r9 μ9 hq => ?_)
    obtain ⟨hμ9, rfl⟩ := hq
    rw [hμ9]
    clear hμ9 μ9
    show Z 0 231 [(6, .int 22), (2, .int x2), (0, .ref 50), (1, .int (nB b1))] [.int 2, .int x2] (mGP μ g p f)
    refine z_rcs hc hH 1 (pc' := 235) (lv' := [(6, .int 22), (2, .int x2), (0, .ref 50), (1, .int (nB b1))]) (st' := [.int 2, .int x2]) (μ' := mGP μ g p f) (by rfl) ?_
    exact zJ hJ1 rfl (by first | with_reducible rfl | (simp only [h3, lb_f, Int64.or_zero, Int32.add_zero, nB_t, nB_f, Bool.not_true, Bool.not_false, Bool.and_true, Bool.true_and, Bool.false_and, Bool.and_false, Bool.or_true, Bool.true_or, Bool.false_or, Bool.or_false, cond_true, cond_false]; done) | rfl) rfl
theorem cq203_23 (d' : Nat) (Z : zK) (hd : 1 ≤ d') (μ : zM) (hc : z_clo z_x0 mi_X7_compare (z_C d') Z) (x2 : Int32) (b1 : Bool) (g p : Int64) (f : Int32) (K : Z 0 203 [(6, .int 24), (2, .int (x2 + (bif decide ((lg_cmp ((p >>> ((23 : Int32).toInt64 &&& 63)) &&& 1) 1) = 0) then bif b1 then (1 : Int32) else 2 else 0))), (0, .ref 50), (1, .int (nB b1))] [] (mGP μ g p f)) : Z 0 203 [(6, .int 23), (2, .int x2), (0, .ref 50), (1, .int (nB b1))] [] (mGP μ g p f) := by
  have hH : zH mi_X7_compare zt_X7_compare 79 7 7 := hh_X7_compare
  refine z_rcs hc hH 12 (pc' := 222) (lv' := [(6, .int 23), (2, .int x2), (0, .ref 50), (1, .int (nB b1))]) (st' := [.int (lg_cmp ((p >>> ((23 : Int32).toInt64 &&& 63)) &&& 1) 1), .int x2]) (μ' := mGP μ g p f) (by rfl) ?_
  have hJ1 : Z 0 235 [(6, .int 23), (2, .int x2), (0, .ref 50), (1, .int (nB b1))] [.int (bif decide ((lg_cmp ((p >>> ((23 : Int32).toInt64 &&& 63)) &&& 1) 1) = 0) then bif b1 then (1 : Int32) else 2 else 0), .int x2] (mGP μ g p f) := by
    generalize hyy2 : (bif decide ((lg_cmp ((p >>> ((23 : Int32).toInt64 &&& 63)) &&& 1) 1) = 0) then bif b1 then (1 : Int32) else 2 else 0 : Int32) = yy2
    refine z_rcs hc hH 4 (pc' := 203) (lv' := [(6, .int 24), (2, .int (x2 + yy2)), (0, .ref 50), (1, .int (nB b1))]) (st' := []) (μ' := mGP μ g p f) (by rfl) ?_
    subst hyy2
    exact K
  refine zq_if hc hH (by rfl) (tg := 234) (by rfl) (fun h3 => ?_) (fun h3 => ?_)
  · have h3 : (decide ((lg_cmp ((p >>> ((23 : Int32).toInt64 &&& 63)) &&& 1) 1) = 0)) = false := decide_eq_false (cm_ne.mp h3)
    refine z_rcs hc hH 1 (pc' := 235) (lv' := [(6, .int 23), (2, .int x2), (0, .ref 50), (1, .int (nB b1))]) (st' := [.int 0, .int x2]) (μ' := mGP μ g p f) (by rfl) ?_
    exact zJ hJ1 rfl (by first | with_reducible rfl | (simp only [h3, lb_f, Int64.or_zero, Int32.add_zero, nB_t, nB_f, Bool.not_true, Bool.not_false, Bool.and_true, Bool.true_and, Bool.false_and, Bool.and_false, Bool.or_true, Bool.true_or, Bool.false_or, Bool.or_false, cond_true, cond_false]; done) | rfl) rfl
  · have h3 : (decide ((lg_cmp ((p >>> ((23 : Int32).toInt64 &&& 63)) &&& 1) 1) = 0)) = true := decide_eq_true (cn_ne.mp h3)
    refine z_rcs hc hH 2 (pc' := 228) (lv' := [(6, .int 23), (2, .int x2), (0, .ref 50), (1, .int (nB b1))]) (st' := [.int (nB b1), .int 23, .int x2]) (μ' := mGP μ g p f) (by rfl) ?_
    refine zq_call hc (z_cx_ok hH (by rfl)) (fb_X7_han_23 d' (by omega) (mGP μ g p f) b1) (by decide +kernel) (fun r9 μ9 hq => ?_)
    obtain ⟨hμ9, rfl⟩ := hq
    rw [hμ9]
    clear hμ9 μ9
    show Z 0 231 [(6, .int 23), (2, .int x2), (0, .ref 50), (1, .int (nB b1))] [.int (bif b1 then (1 : Int32) else 2), .int x2] (mGP μ g p f)
    refine z_rcs hc hH 1 (pc' := 235) (lv' := [(6, .int 23), (2, .int x2), (0, .ref 50), (1, .int (nB b1))]) (st' := [.int (bif b1 then (1 : Int32) else 2), .int x2]) (μ' := mGP μ g p f) (by rfl) ?_
    exact zJ hJ1 rfl (by first | with_reducible rfl | (simp only [h3, lb_f, Int64.or_zero, Int32.add_zero, nB_t, nB_f, Bool.not_true, Bool.not_false, Bool.and_true, Bool.true_and, Bool.false_and, Bool.and_false, Bool.or_true, Bool.true_or, Bool.false_or, Bool.or_false, cond_true, cond_false]; done) | rfl) rfl
theorem cq203_24 (d' : Nat) (Z : zK) (hd : 1 ≤ d') (μ : zM) (hc : z_clo z_x0 mi_X7_compare (z_C d') Z) (x2 : Int32) (b1 : Bool) (g p : Int64) (f : Int32) (K : Z 0 203 [(6, .int 25), (2, .int (x2 + (bif decide ((lg_cmp ((p >>> ((24 : Int32).toInt64 &&& 63)) &&& 1) 1) = 0) then (2 : Int32) else 0))), (0, .ref 50), (1, .int (nB b1))] [] (mGP μ g p f)) : Z 0 203 [(6, .int 24), (2, .int x2), (0, .ref 50), (1, .int (nB b1))] [] (mGP μ g p f) := by
  have hH : zH mi_X7_compare zt_X7_compare 79 7 7 := hh_X7_compare
  refine z_rcs hc hH 12 (pc' := 222) (lv' := [(6, .int 24), (2, .int x2), (0, .ref 50), (1, .int (nB b1))]) (st' := [.int (lg_cmp ((p >>> ((24 : Int32).toInt64 &&& 63)) &&& 1) 1), .int x2]) (μ' := mGP μ g p f) (by rfl) ?_
  have hJ1 : Z 0 235 [(6, .int 24), (2, .int x2), (0, .ref 50), (1, .int (nB b1))] [.int (bif decide ((lg_cmp ((p >>> ((24 : Int32).toInt64 &&& 63)) &&& 1) 1) = 0) then (2 : Int32) else 0), .int x2] (mGP μ g p f) := by
    generalize hyy2 : (bif decide ((lg_cmp ((p >>> ((24 : Int32).toInt64 &&& 63)) &&& 1) 1) = 0) then (2 : Int32) else 0 : Int32) = yy2
    refine z_rcs hc hH 4 (pc' := 203) (lv' := [(6, .int 25), (2, .int (x2 + yy2)), (0, .ref 50), (1, .int (nB b1))]) (st' := []) (μ' := mGP μ g p f) (by rfl) ?_
    subst hyy2
    exact K
  refine zq_if hc hH (by rfl) (tg := 234) (by rfl) (fun h3 => ?_) (fun h3 => ?_)
  · have h3 : (decide ((lg_cmp ((p >>> ((24 : Int32).toInt64 &&& 63)) &&& 1) 1) = 0)) = false := decide_eq_false (cm_ne.mp h3)
    refine z_rcs hc hH 1 (pc' := 235) (lv' := [(6, .int 24), (2, .int x2), (0, .ref 50), (1, .int (nB b1))]) (st' := [.int 0, .int x2]) (μ' := mGP μ g p f) (by rfl) ?_
    exact zJ hJ1 rfl (by first | with_reducible rfl | (simp only [h3, lb_f, Int64.or_zero, Int32.add_zero, nB_t, nB_f, Bool.not_true, Bool.not_false, Bool.and_true, Bool.true_and, Bool.false_and, Bool.and_false, Bool.or_true, Bool.true_or, Bool.false_or, Bool.or_false, cond_true, cond_false]; done) | rfl) rfl
  · have h3 : (decide ((lg_cmp ((p >>> ((24 : Int32).toInt64 &&& 63)) &&& 1) 1) = 0)) = true := decide_eq_true (cn_ne.mp h3)
    refine z_rcs hc hH 2 (pc' := 228) (lv' := [(6, .int 24), (2, .int x2), (0, .ref 50), (1, .int (nB b1))]) (st' := [.int (nB b1), .int 24, .int x2]) (μ' := mGP μ g p f) (by rfl) ?_
    refine zq_call hc (z_cx_ok hH (by rfl)) (fb_X7_han_24 d' (by omega) (mGP μ g p f) b1) (by decide +kernel) (fun r9 μ9 hq => ?_)
    obtain ⟨hμ9, rfl⟩ := hq
    rw [hμ9]
    clear hμ9 μ9
    show Z 0 231 [(6, .int 24), (2, .int x2), (0, .ref 50), (1, .int (nB b1))] [.int 2, .int x2] (mGP μ g p f)
    refine z_rcs hc hH 1 (pc' := 235) (lv' := [(6, .int 24), (2, .int x2), (0, .ref 50), (1, .int (nB b1))]) (st' := [.int 2, .int x2]) (μ' := mGP μ g p f) (by rfl) ?_
    exact zJ hJ1 rfl (by first | with_reducible rfl | (simp only [h3, lb_f, Int64.or_zero, Int32.add_zero, nB_t, nB_f, Bool.not_true, Bool.not_false, Bool.and_true, Bool.true_and, Bool.false_and, Bool.and_false, Bool.or_true, Bool.true_or, Bool.false_or, Bool.or_false, cond_true, cond_false]; done) | rfl) rfl
theorem cq203_25 (d' : Nat) (Z : zK) (hd : 1 ≤ d') (μ : zM) (hc : z_clo z_x0 mi_X7_compare (z_C d') Z) (x2 : Int32) (b1 : Bool) (g p : Int64) (f : Int32) (K : Z 0 203 [(6, .int 26), (2, .int (x2 + (bif decide ((lg_cmp ((p >>> ((25 : Int32).toInt64 &&& 63)) &&& 1) 1) = 0) then (2 : Int32) else 0))), (0, .ref 50), (1, .int (nB b1))] [] (mGP μ g p f)) : Z 0 203 [(6, .int 25), (2, .int x2), (0, .ref 50), (1, .int (nB b1))] [] (mGP μ g p f) := by
  have hH : zH mi_X7_compare zt_X7_compare 79 7 7 := hh_X7_compare
  refine z_rcs hc hH 12 (pc' := 222) (lv' := [(6, .int 25), (2, .int x2), (0, .ref 50), (1, .int (nB b1))]) (st' := [.int (lg_cmp ((p >>> ((25 : Int32).toInt64 &&& 63)) &&& 1) 1), .int x2]) (μ' := mGP μ g p f) (by rfl) ?_
  have hJ1 : Z 0 235 [(6, .int 25), (2, .int x2), (0, .ref 50), (1, .int (nB b1))] [.int (bif decide ((lg_cmp ((p >>> ((25 : Int32).toInt64 &&& 63)) &&& 1) 1) = 0) then (2 : Int32) else 0), .int x2] (mGP μ g p f) := by
    generalize hyy2 : (bif decide ((lg_cmp ((p >>> ((25 : Int32).toInt64 &&& 63)) &&& 1) 1) = 0) then (2 : Int32) else 0 : Int32) = yy2
    refine z_rcs hc hH 4 (pc' := 203) (lv' := [(6, .int 26), (2, .int (x2 + yy2)), (0, .ref 50), (1, .int (nB b1))]) (st' := []) (μ' := mGP μ g p f) (by rfl) ?_
    subst hyy2
    exact K
  refine zq_if hc hH (by rfl) (tg := 234) (by rfl) (fun h3 => ?_) (fun h3 => ?_)
  · have h3 : (decide ((lg_cmp ((p >>> ((25 : Int32).toInt64 &&& 63)) &&& 1) 1) = 0)) = false := decide_eq_false (cm_ne.mp h3)
    refine z_rcs hc hH 1 (pc' := 235) (lv' := [(6, .int 25), (2, .int x2), (0, .ref 50), (1, .int (nB b1))]) (st' := [.int 0, .int x2]) (μ' := mGP μ g p f) (by rfl) ?_
    exact zJ hJ1 rfl (by first | with_reducible rfl | (simp only [h3, lb_f, Int64.or_zero, Int32.add_zero, nB_t, nB_f, Bool.not_true, Bool.not_false, Bool.and_true, Bool.true_and, Bool.false_and, Bool.and_false, Bool.or_true, Bool.true_or, Bool.false_or, Bool.or_false, cond_true, cond_false]; done) | rfl) rfl
  · have h3 : (decide ((lg_cmp ((p >>> ((25 : Int32).toInt64 &&& 63)) &&& 1) 1) = 0)) = true := decide_eq_true (cn_ne.mp h3)
    refine z_rcs hc hH 2 (pc' := 228) (lv' := [(6, .int 25), (2, .int x2), (0, .ref 50), (1, .int (nB b1))]) (st' := [.int (nB b1), .int 25, .int x2]) (μ' := mGP μ g p f) (by rfl) ?_
    refine zq_call hc (z_cx_ok hH (by rfl)) (fb_X7_han_25 d' (by omega) (mGP μ g p f) b1) (by decide +kernel) (fun r9 μ9 hq => ?_)
    obtain ⟨hμ9, rfl⟩ := hq
    rw [hμ9]
    clear hμ9 μ9
    show Z 0 231 [(6, .int 25), (2, .int x2), (0, .ref 50), (1, .int (nB b1))] [.int 2, .int x2] (mGP μ g p f)
    refine z_rcs hc hH 1 (pc' := 235) (lv' := [(6, .int 25), (2, .int x2), (0, .ref 50), (1, .int (nB b1))]) (st' := [.int 2, .int x2]) (μ' := mGP μ g p f) (by rfl) ?_
    exact zJ hJ1 rfl (by first | with_reducible rfl | (simp only [h3, lb_f, Int64.or_zero, Int32.add_zero, nB_t, nB_f, Bool.not_true, Bool.not_false, Bool.and_true, Bool.true_and, Bool.false_and, Bool.and_false, Bool.or_true, Bool.true_or, Bool.false_or, Bool.or_false, cond_true, cond_false]; done) | rfl) rfl
theorem cq203_26 (d' : Nat) (Z : zK) (hd : 1 ≤ d') (μ : zM) (hc : z_clo z_x0 mi_X7_compare (z_C d') Z) (x2 : Int32) (b1 : Bool) (g p : Int64) (f : Int32) (K : Z 0 203 [(6, .int 27), (2, .int (x2 + (bif decide ((lg_cmp ((p >>> ((26 : Int32).toInt64 &&& 63)) &&& 1) 1) = 0) then bif b1 then (2 : Int32) else 3 else 0))), (0, .ref 50), (1, .int (nB b1))] [] (mGP μ g p f)) : Z 0 203 [(6, .int 26), (2, .int x2), (0, .ref 50), (1, .int (nB b1))] [] (mGP μ g p f) := by
  have hH : zH mi_X7_compare zt_X7_compare 79 7 7 := hh_X7_compare
  refine z_rcs hc hH 12 (pc' := 222) (lv' := [(6, .int 26), (2, .int x2), (0, .ref 50), (1, .int (nB b1))]) (st' := [.int (lg_cmp ((p >>> ((26 : Int32).toInt64 &&& 63)) &&& 1) 1), .int x2]) (μ' := mGP μ g p f) (by rfl) ?_
  have hJ1 : Z 0 235 [(6, .int 26), (2, .int x2), (0, .ref 50), (1, .int (nB b1))] [.int (bif decide ((lg_cmp ((p >>> ((26 : Int32).toInt64 &&& 63)) &&& 1) 1) = 0) then bif b1 then (2 : Int32) else 3 else 0), .int x2] (mGP μ g p f) := by
    generalize hyy2 : (bif decide ((lg_cmp ((p >>> ((26 : Int32).toInt64 &&& 63)) &&& 1) 1) = 0) then bif b1 then (2 : Int32) else 3 else 0 : Int32) = yy2
    refine z_rcs hc hH 4 (pc' := 203) (lv' := [(6, .int 27), (2, .int (x2 + yy2)), (0, .ref 50), (1, .int (nB b1))]) (st' := []) (μ' := mGP μ g p f) (by rfl) ?_
    subst hyy2
    exact K
  refine zq_if hc hH (by rfl) (tg := 234) (by rfl) (fun h3 => ?_) (fun h3 => ?_)
  · have h3 : (decide ((lg_cmp ((p >>> ((26 : Int32).toInt64 &&& 63)) &&& 1) 1) = 0)) = false := decide_eq_false (cm_ne.mp h3)
    refine z_rcs hc hH 1 (pc' := 235) (lv' := [(6, .int 26), (2, .int x2), (0, .ref 50), (1, .int (nB b1))]) (st' := [.int 0, .int x2]) (μ' := mGP μ g p f) (by rfl) ?_
    exact zJ hJ1 rfl (by first | with_reducible rfl | (simp only [h3, lb_f, Int64.or_zero, Int32.add_zero, nB_t, nB_f, Bool.not_true, Bool.not_false, Bool.and_true, Bool.true_and, Bool.false_and, Bool.and_false, Bool.or_true, Bool.true_or, Bool.false_or, Bool.or_false, cond_true, cond_false]; done) | rfl) rfl
  · have h3 : (decide ((lg_cmp ((p >>> ((26 : Int32).toInt64 &&& 63)) &&& 1) 1) = 0)) = true := decide_eq_true (cn_ne.mp h3)
    refine z_rcs hc hH 2 (pc' := 228) (lv' := [(6, .int 26), (2, .int x2), (0, .ref 50), (1, .int (nB b1))]) (st' := [.int (nB b1), .int 26, .int x2]) (μ' := mGP μ g p f) (by rfl) ?_
    refine zq_call hc (z_cx_ok hH (by rfl)) (fb_X7_han_26 d' (by omega) (mGP μ g p f) b1) (by decide +kernel) (fun r9 μ9 hq => ?_)
    obtain ⟨hμ9, rfl⟩ := hq
    rw [hμ9]
    clear hμ9 μ9
    show Z 0 231 [(6, .int 26), (2, .int x2), (0, .ref 50), (1, .int (nB b1))] [.int (bif b1 then (2 : Int32) else 3), .int x2] (mGP μ g p f)
    refine z_rcs hc hH 1 (pc' := 235) (lv' := [(6, .int 26), (2, .int x2), (0, .ref 50), (1, .int (nB b1))]) (st' := [.int (bif b1 then (2 : Int32) else 3), .int x2]) (μ' := mGP μ g p f) (by rfl) ?_
    exact zJ hJ1 rfl (by first | with_reducible rfl | (simp only [h3, lb_f, Int64.or_zero, Int32.add_zero, nB_t, nB_f, Bool.not_true, Bool.not_false, Bool.and_true, Bool.true_and, Bool.false_and, Bool.and_false, Bool.or_true, Bool.true_or, Bool.false_or, Bool.or_false, cond_true, cond_false]; done) | rfl) rfl
theorem cq203_27 (d' : Nat) (Z : zK) (hd : 1 ≤ d') (μ : zM) (hc : z_clo z_x0 mi_X7_compare (z_C d') Z) (x2 : Int32) (b1 : Bool) (g p : Int64) (f : Int32) (K : Z 0 203 [(6, .int 28), (2, .int (x2 + (bif decide ((lg_cmp ((p >>> ((27 : Int32).toInt64 &&& 63)) &&& 1) 1) = 0) then bif b1 then (2 : Int32) else 3 else 0))), (0, .ref 50), (1, .int (nB b1))] [] (mGP μ g p f)) : Z 0 203 [(6, .int 27), (2, .int x2), (0, .ref 50), (1, .int (nB b1))] [] (mGP μ g p f) := by
  have hH : zH mi_X7_compare zt_X7_compare 79 7 7 := hh_X7_compare
  refine z_rcs hc hH 12 (pc' := 222) (lv' := [(6, .int 27), (2, .int x2), (0, .ref 50), (1, .int (nB b1))]) (st' := [.int (lg_cmp ((p >>> ((27 : Int32).toInt64 &&& 63)) &&& 1) 1), .int x2]) (μ' := mGP μ g p f) (by rfl) ?_
  have hJ1 : Z 0 235 [(6, .int 27), (2, .int x2), (0, .ref 50), (1, .int (nB b1))] [.int (bif decide ((lg_cmp ((p >>> ((27 : Int32).toInt64 &&& 63)) &&& 1) 1) = 0) then bif b1 then (2 : Int32) else 3 else 0), .int x2] (mGP μ g p f) := by
    generalize hyy2 : (bif decide ((lg_cmp ((p >>> ((27 : Int32).toInt64 &&& 63)) &&& 1) 1) = 0) then bif b1 then (2 : Int32) else 3 else 0 : Int32) = yy2
    refine z_rcs hc hH 4 (pc' := 203) (lv' := [(6, .int 28), (2, .int (x2 + yy2)), (0, .ref 50), (1, .int (nB b1))]) (st' := []) (μ' := mGP μ g p f) (by rfl) ?_
    subst hyy2
    exact K
  refine zq_if hc hH (by rfl) (tg := 234) (by rfl) (fun h3 => ?_) (fun h3 => ?_)
  · have h3 : (decide ((lg_cmp ((p >>> ((27 : Int32).toInt64 &&& 63)) &&& 1) 1) = 0)) = false := decide_eq_false (cm_ne.mp h3)
    refine z_rcs hc hH 1 (pc' := 235) (lv' := [(6, .int 27), (2, .int x2), (0, .ref 50), (1, .int (nB b1))]) (st' := [.int 0, .int x2]) (μ' := mGP μ g p f) (by rfl) ?_
    exact zJ hJ1 rfl (by first | with_reducible rfl | (simp only [h3, lb_f, Int64.or_zero, Int32.add_zero, nB_t, nB_f, Bool.not_true, Bool.not_false, Bool.and_true, Bool.true_and, Bool.false_and, Bool.and_false, Bool.or_true, Bool.true_or, Bool.false_or, Bool.or_false, cond_true, cond_false]; done) | rfl) rfl
  · have h3 : (decide ((lg_cmp ((p >>> ((27 : Int32).toInt64 &&& 63)) &&& 1) 1) = 0)) = true := decide_eq_true (cn_ne.mp h3)
    refine z_rcs hc hH 2 (pc' := 228) (lv' := [(6, .int 27), (2, .int x2), (0, .ref 50), (1, .int (nB b1))]) (st' := [.int (nB b1), .int 27, .int x2]) (μ' := mGP μ g p f) (by rfl) ?_
    refine zq_call hc (z_cx_ok hH (by rfl)) (fb_X7_han_27 d' (by omega) (mGP μ g p f) b1) (by decide +kernel) (fun r9 μ9 hq => ?_)
    obtain ⟨hμ9, rfl⟩ := hq
    rw [hμ9]
    clear hμ9 μ9
    show Z 0 231 [(6, .int 27), (2, .int x2), (0, .ref 50), (1, .int (nB b1))] [.int (bif b1 then (2 : Int32) else 3), .int x2] (mGP μ g p f)
    refine z_rcs hc hH 1 (pc' := 235) (lv' := [(6, .int 27), (2, .int x2), (0, .ref 50), (1, .int (nB b1))]) (st' := [.int (bif b1 then (2 : Int32) else 3), .int x2]) (μ' := mGP μ g p f) (by rfl) ?_
    exact zJ hJ1 rfl (by first | with_reducible rfl | (simp only [h3, lb_f, Int64.or_zero, Int32.add_zero, nB_t, nB_f, Bool.not_true, Bool.not_false, Bool.and_true, Bool.true_and, Bool.false_and, Bool.and_false, Bool.or_true, Bool.true_or, Bool.false_or, Bool.or_false, cond_true, cond_false]; done) | rfl) rfl
theorem cq203_28 (d' : Nat) (Z : zK) (hd : 1 ≤ d') (μ : zM) (hc : z_clo z_x0 mi_X7_compare (z_C d') Z) (x2 : Int32) (b1 : Bool) (g p : Int64) (f : Int32) (K : Z 0 203 [(6, .int 29), (2, .int (x2 + (bif decide ((lg_cmp ((p >>> ((28 : Int32).toInt64 &&& 63)) &&& 1) 1) = 0) then bif b1 then (0 : Int32) else 3 else 0))), (0, .ref 50), (1, .int (nB b1))] [] (mGP μ g p f)) : Z 0 203 [(6, .int 28), (2, .int x2), (0, .ref 50), (1, .int (nB b1))] [] (mGP μ g p f) := by
  have hH : zH mi_X7_compare zt_X7_compare 79 7 7 := hh_X7_compare
  refine z_rcs hc hH 12 (pc' := 222) (lv' := [(6, .int 28), (2, .int x2), (0, .ref 50), (1, .int (nB b1))]) (st' := [.int (lg_cmp ((p >>> ((28 : Int32).toInt64 &&& 63)) &&& 1) 1), .int x2]) (μ' := mGP μ g p f) (by rfl) ?_
  have hJ1 : Z 0 235 [(6, .int 28), (2, .int x2), (0, .ref 50), (1, .int (nB b1))] [.int (bif decide ((lg_cmp ((p >>> ((28 : Int32).toInt64 &&& 63)) &&& 1) 1) = 0) then bif b1 then (0 : Int32) else 3 else 0), .int x2] (mGP μ g p f) := by
    generalize hyy2 : (bif decide ((lg_cmp ((p >>> ((28 : Int32).toInt64 &&& 63)) &&& 1) 1) = 0) then bif b1 then (0 : Int32) else 3 else 0 : Int32) = yy2
    refine z_rcs hc hH 4 (pc' := 203) (lv' := [(6, .int 29), (2, .int (x2 + yy2)), (0, .ref 50), (1, .int (nB b1))]) (st' := []) (μ' := mGP μ g p f) (by rfl) ?_
    subst hyy2
    exact K
  refine zq_if hc hH (by rfl) (tg := 234) (by rfl) (fun h3 => ?_) (fun h3 => ?_)
  · have h3 : (decide ((lg_cmp ((p >>> ((28 : Int32).toInt64 &&& 63)) &&& 1) 1) = 0)) = false := decide_eq_false (cm_ne.mp h3)
    refine z_rcs hc hH 1 (pc' := 235) (lv' := [(6, .int 28), (2, .int x2), (0, .ref 50), (1, .int (nB b1))]) (st' := [.int 0, .int x2]) (μ' := mGP μ g p f) (by rfl) ?_
    exact zJ hJ1 rfl (by first | with_reducible rfl | (simp only [h3, lb_f, Int64.or_zero, Int32.add_zero, nB_t, nB_f, Bool.not_true, Bool.not_false, Bool.and_true, Bool.true_and, Bool.false_and, Bool.and_false, Bool.or_true, Bool.true_or, Bool.false_or, Bool.or_false, cond_true, cond_false]; done) | rfl) rfl
  · have h3 : (decide ((lg_cmp ((p >>> ((28 : Int32).toInt64 &&& 63)) &&& 1) 1) = 0)) = true := decide_eq_true (cn_ne.mp h3)
    refine z_rcs hc hH 2 (pc' := 228) (lv' := [(6, .int 28), (2, .int x2), (0, .ref 50), (1, .int (nB b1))]) (st' := [.int (nB b1), .int 28, .int x2]) (μ' := mGP μ g p f) (by rfl) ?_
    refine zq_call hc (z_cx_ok hH (by rfl)) (fb_X7_han_28 d' (by omega) (mGP μ g p f) b1) (by decide +kernel) (fun r9 μ9 hq => ?_)
    obtain ⟨hμ9, rfl⟩ := hq
    rw [hμ9]
    clear hμ9 μ9
    show Z 0 231 [(6, .int 28), (2, .int x2), (0, .ref 50), (1, .int (nB b1))] [.int (bif b1 then (0 : Int32) else 3), .int x2] (mGP μ g p f)
    refine z_rcs hc hH 1 (pc' := 235) (lv' := [(6, .int 28), (2, .int x2), (0, .ref 50), (1, .int (nB b1))]) (st' := [.int (bif b1 then (0 : Int32) else 3), .int x2]) (μ' := mGP μ g p f) (by rfl) ?_
    exact zJ hJ1 rfl (by first | with_reducible rfl | (simp only [h3, lb_f, Int64.or_zero, Int32.add_zero, nB_t, nB_f, Bool.not_true, Bool.not_false, Bool.and_true, Bool.true_and, Bool.false_and, Bool.and_false, Bool.or_true, Bool.true_or, Bool.false_or, Bool.or_false, cond_true, cond_false]; done) | rfl) rfl
theorem cq203_29 (d' : Nat) (Z : zK) (hd : 1 ≤ d') (μ : zM) (hc : z_clo z_x0 mi_X7_compare (z_C d') Z) (x2 : Int32) (b1 : Bool) (g p : Int64) (f : Int32) (K : Z 0 203 [(6, .int 30), (2, .int (x2 + (bif decide ((lg_cmp ((p >>> ((29 : Int32).toInt64 &&& 63)) &&& 1) 1) = 0) then bif b1 then (5 : Int32) else 6 else 0))), (0, .ref 50), (1, .int (nB b1))] [] (mGP μ g p f)) : Z 0 203 [(6, .int 29), (2, .int x2), (0, .ref 50), (1, .int (nB b1))] [] (mGP μ g p f) := by
  have hH : zH mi_X7_compare zt_X7_compare 79 7 7 := hh_X7_compare
  refine z_rcs hc hH 12 (pc' := 222) (lv' := [(6, .int 29), (2, .int x2), (0, .ref 50), (1, .int (nB b1))]) (st' := [.int (lg_cmp ((p >>> ((29 : Int32).toInt64 &&& 63)) &&& 1) 1), .int x2]) (μ' := mGP μ g p f) (by rfl) ?_
  have hJ1 : Z 0 235 [(6, .int 29), (2, .int x2), (0, .ref 50), (1, .int (nB b1))] [.int (bif decide ((lg_cmp ((p >>> ((29 : Int32).toInt64 &&& 63)) &&& 1) 1) = 0) then bif b1 then (5 : Int32) else 6 else 0), .int x2] (mGP μ g p f) := by
    generalize hyy2 : (bif decide ((lg_cmp ((p >>> ((29 : Int32).toInt64 &&& 63)) &&& 1) 1) = 0) then bif b1 then (5 : Int32) else 6 else 0 : Int32) = yy2
    refine z_rcs hc hH 4 (pc' := 203) (lv' := [(6, .int 30), (2, .int (x2 + yy2)), (0, .ref 50), (1, .int (nB b1))]) (st' := []) (μ' := mGP μ g p f) (by rfl) ?_
    subst hyy2
    exact K
  refine zq_if hc hH (by rfl) (tg := 234) (by rfl) (fun h3 => ?_) (fun h3 => ?_)
  · have h3 : (decide ((lg_cmp ((p >>> ((29 : Int32).toInt64 &&& 63)) &&& 1) 1) = 0)) = false := decide_eq_false (cm_ne.mp h3)
    refine z_rcs hc hH 1 (pc' := 235) (lv' := [(6, .int 29), (2, .int x2), (0, .ref 50), (1, .int (nB b1))]) (st' := [.int 0, .int x2]) (μ' := mGP μ g p f) (by rfl) ?_
    exact zJ hJ1 rfl (by first | with_reducible rfl | (simp only [h3, lb_f, Int64.or_zero, Int32.add_zero, nB_t, nB_f, Bool.not_true, Bool.not_false, Bool.and_true, Bool.true_and, Bool.false_and, Bool.and_false, Bool.or_true, Bool.true_or, Bool.false_or, Bool.or_false, cond_true, cond_false]; done) | rfl) rfl
  · have h3 : (decide ((lg_cmp ((p >>> ((29 : Int32).toInt64 &&& 63)) &&& 1) 1) = 0)) = true := decide_eq_true (cn_ne.mp h3)
    refine z_rcs hc hH 2 (pc' := 228) (lv' := [(6, .int 29), (2, .int x2), (0, .ref 50), (1, .int (nB b1))]) (st' := [.int (nB b1), .int 29, .int x2]) (μ' := mGP μ g p f) (by rfl) ?_
    refine zq_call hc (z_cx_ok hH (by rfl)) (fb_X7_han_29 d' (by omega) (mGP μ g p f) b1) (by decide +kernel) (fun r9 μ9 hq => ?_)
    obtain ⟨hμ9, rfl⟩ := hq
    rw [hμ9]
    clear hμ9 μ9
    show Z 0 231 [(6, .int 29), (2, .int x2), (0, .ref 50), (1, .int (nB b1))] [.int (bif b1 then (5 : Int32) else 6), .int x2] (mGP μ g p f)
    refine z_rcs hc hH 1 (pc' := 235) (lv' := [(6, .int 29), (2, .int x2), (0, .ref 50), (1, .int (nB b1))]) (st' := [.int (bif b1 then (5 : Int32) else 6), .int x2]) (μ' := mGP μ g p f) (by rfl) ?_
    exact zJ hJ1 rfl (by first | with_reducible rfl | (simp only [h3, lb_f, Int64.or_zero, Int32.add_zero, nB_t, nB_f, Bool.not_true, Bool.not_false, Bool.and_true, Bool.true_and, Bool.false_and, Bool.and_false, Bool.or_true, Bool.true_or, Bool.false_or, Bool.or_false, cond_true, cond_false]; done) | rfl) rfl
theorem cq203_30 (d' : Nat) (Z : zK) (hd : 1 ≤ d') (μ : zM) (hc : z_clo z_x0 mi_X7_compare (z_C d') Z) (x2 : Int32) (b1 : Bool) (g p : Int64) (f : Int32) (K : Z 0 249 [(4, .long p), (6, .int 30), (2, .int x2), (0, .ref 50), (1, .int (nB b1))] [] (mGP μ g p f)) : Z 0 203 [(6, .int 30), (2, .int x2), (0, .ref 50), (1, .int (nB b1))] [] (mGP μ g p f) := by
  have hH : zH mi_X7_compare zt_X7_compare 79 7 7 := hh_X7_compare
  refine z_rcs hc hH 6 (pc' := 249) (lv' := [(4, .long p), (6, .int 30), (2, .int x2), (0, .ref 50), (1, .int (nB b1))]) (st' := []) (μ' := mGP μ g p f) (by rfl) ?_
  exact K
theorem cq259 (d' : Nat) (Z : zK) (hd : 1 ≤ d') (μ : zM) (hc : z_clo z_x0 mi_X7_compare (z_C d') Z) (x2 : Int32) (b1 : Bool) (g p : Int64) (f : Int32) (K : Z 0 339 [(3, .int (bif decide ((x2 + (μ.1 50 10)) ≤ 4) then if (f <<< ((2 + (x2 + (μ.1 50 10))) &&& 31)) < 2000 then f <<< ((2 + (x2 + (μ.1 50 10))) &&& 31) else 2000 else bif decide ((x2 + (μ.1 50 10)) = 5) then (2000 : Int32) else bif decide (8 ≤ (x2 + (μ.1 50 10))) then bif decide (11 ≤ (x2 + (μ.1 50 10))) then bif decide (13 ≤ (x2 + (μ.1 50 10))) then (8000 : Int32) else 6000 else 4000 else 3000)), (2, .int (x2 + (μ.1 50 10))), (4, .long p), (6, .int 30), (0, .ref 50), (1, .int (nB b1))] [] (mGP μ g p f)) : Z 0 259 [(4, .long p), (6, .int 30), (2, .int x2), (0, .ref 50), (1, .int (nB b1))] [] (mGP μ g p f) := by
  have hH : zH mi_X7_compare zt_X7_compare 79 7 7 := hh_X7_compare
  refine z_rcs hc hH 7 (pc' := 268) (lv' := [(2, .int (x2 + (μ.1 50 10))), (4, .long p), (6, .int 30), (0, .ref 50), (1, .int (nB b1))]) (st' := [.int 4, .int (x2 + (μ.1 50 10))]) (μ' := mGP μ g p f) (by rfl) ?_
  have hJ1 : Z 0 338 [(2, .int (x2 + (μ.1 50 10))), (4, .long p), (6, .int 30), (0, .ref 50), (1, .int (nB b1))] [.int (bif decide ((x2 + (μ.1 50 10)) ≤ 4) then if (f <<< ((2 + (x2 + (μ.1 50 10))) &&& 31)) < 2000 then f <<< ((2 + (x2 + (μ.1 50 10))) &&& 31) else 2000 else bif decide ((x2 + (μ.1 50 10)) = 5) then (2000 : Int32) else bif decide (8 ≤ (x2 + (μ.1 50 10))) then bif decide (11 ≤ (x2 + (μ.1 50 10))) then bif decide (13 ≤ (x2 + (μ.1 50 10))) then (8000 : Int32) else 6000 else 4000 else 3000)] (mGP μ g p f) := by
    generalize hyy2 : (bif decide ((x2 + (μ.1 50 10)) ≤ 4) then if (f <<< ((2 + (x2 + (μ.1 50 10))) &&& 31)) < 2000 then f <<< ((2 + (x2 + (μ.1 50 10))) &&& 31) else 2000 else bif decide ((x2 + (μ.1 50 10)) = 5) then (2000 : Int32) else bif decide (8 ≤ (x2 + (μ.1 50 10))) then bif decide (11 ≤ (x2 + (μ.1 50 10))) then bif decide (13 ≤ (x2 + (μ.1 50 10))) then (8000 : Int32) else 6000 else 4000 else 3000 : Int32) = yy2
    refine z_rcs hc hH 1 (pc' := 339) (lv' := [(3, .int yy2), (2, .int (x2 + (μ.1 50 10))), (4, .long p), (6, .int 30), (0, .ref 50), (1, .int (nB b1))]) (st' := []) (μ' := mGP μ g p f) (by rfl) ?_
    subst hyy2
    exact K
  refine zq_ic hc hH (by rfl) (tg := 324) (by rfl) (fun h3 => ?_) (fun h3 => ?_)
  · have h3 : (decide ((x2 + (μ.1 50 10)) ≤ 4)) = true := decide_eq_true (cm_le.mp h3)
    refine z_rcs hc hH 8 (pc' := 338) (lv' := [(2, .int (x2 + (μ.1 50 10))), (4, .long p), (6, .int 30), (0, .ref 50), (1, .int (nB b1))]) (st' := [.int (if (f <<< ((2 + (x2 + (μ.1 50 10))) &&& 31)) < 2000 then f <<< ((2 + (x2 + (μ.1 50 10))) &&& 31) else 2000)]) (μ' := mGP μ g p f) (by rfl) ?_
    exact zJ hJ1 rfl (by first | with_reducible rfl | (simp only [h3, lb_f, Int64.or_zero, Int32.add_zero, nB_t, nB_f, Bool.not_true, Bool.not_false, Bool.and_true, Bool.true_and, Bool.false_and, Bool.and_false, Bool.or_true, Bool.true_or, Bool.false_or, Bool.or_false, cond_true, cond_false]; done) | rfl) rfl
  · have h3 : (decide ((x2 + (μ.1 50 10)) ≤ 4)) = false := decide_eq_false (cn_le.mp h3)
    refine z_rcs hc hH 2 (pc' := 273) (lv' := [(2, .int (x2 + (μ.1 50 10))), (4, .long p), (6, .int 30), (0, .ref 50), (1, .int (nB b1))]) (st' := [.int 5, .int (x2 + (μ.1 50 10))]) (μ' := mGP μ g p f) (by rfl) ?_
    refine zq_ic hc hH (by rfl) (tg := 282) (by rfl) (fun h4 => ?_) (fun h4 => ?_)
    · have h4 : (decide ((x2 + (μ.1 50 10)) = 5)) = false := decide_eq_false (cm_ne.mp h4)
      refine z_rcs hc hH 2 (pc' := 285) (lv' := [(2, .int (x2 + (μ.1 50 10))), (4, .long p), (6, .int 30), (0, .ref 50), (1, .int (nB b1))]) (st' := [.int 8, .int (x2 + (μ.1 50 10))]) (μ' := mGP μ g p f) (by rfl) ?_
      refine zq_ic hc hH (by rfl) (tg := 294) (by rfl) (fun h5 => ?_) (fun h5 => ?_)
      · have h5 : (decide (8 ≤ (x2 + (μ.1 50 10)))) = true := decide_eq_true (cm_ge.mp h5)
        refine z_rcs hc hH 2 (pc' := 297) (lv' := [(2, .int (x2 + (μ.1 50 10))), (4, .long p), (6, .int 30), (0, .ref 50), (1, .int (nB b1))]) (st' := [.int 11, .int (x2 + (μ.1 50 10))]) (μ' := mGP μ g p f) (by rfl) ?_
        refine zq_ic hc hH (by rfl) (tg := 306) (by rfl) (fun h6 => ?_) (fun h6 => ?_)
        · have h6 : (decide (11 ≤ (x2 + (μ.1 50 10)))) = true := decide_eq_true (cm_ge.mp h6)
          refine z_rcs hc hH 2 (pc' := 309) (lv' := [(2, .int (x2 + (μ.1 50 10))), (4, .long p), (6, .int 30), (0, .ref 50), (1, .int (nB b1))]) (st' := [.int 13, .int (x2 + (μ.1 50 10))]) (μ' := mGP μ g p f) (by rfl) ?_
          refine zq_ic hc hH (by rfl) (tg := 318) (by rfl) (fun h7 => ?_) (fun h7 => ?_)
          · have h7 : (decide (13 ≤ (x2 + (μ.1 50 10)))) = true := decide_eq_true (cm_ge.mp h7)
            refine z_rcs hc hH 2 (pc' := 338) (lv' := [(2, .int (x2 + (μ.1 50 10))), (4, .long p), (6, .int 30), (0, .ref 50), (1, .int (nB b1))]) (st' := [.int 8000]) (μ' := mGP μ g p f) (by rfl) ?_
            exact zJ hJ1 rfl (by first | with_reducible rfl | (simp only [h3, h4, h5, h6, h7, lb_f, Int64.or_zero, Int32.add_zero, nB_t, nB_f, Bool.not_true, Bool.not_false, Bool.and_true, Bool.true_and, Bool.false_and, Bool.and_false, Bool.or_true, Bool.true_or, Bool.false_or, Bool.or_false, cond_true, cond_false]; done) | rfl) rfl
          · have h7 : (decide (13 ≤ (x2 + (μ.1 50 10)))) = false := decide_eq_false (cn_ge.mp h7)
            refine z_rcs hc hH 2 (pc' := 338) (lv' := [(2, .int (x2 + (μ.1 50 10))), (4, .long p), (6, .int 30), (0, .ref 50), (1, .int (nB b1))]) (st' := [.int 6000]) (μ' := mGP μ g p f) (by rfl) ?_
            exact zJ hJ1 rfl (by first | with_reducible rfl | (simp only [h3, h4, h5, h6, h7, lb_f, Int64.or_zero, Int32.add_zero, nB_t, nB_f, Bool.not_true, Bool.not_false, Bool.and_true, Bool.true_and, Bool.false_and, Bool.and_false, Bool.or_true, Bool.true_or, Bool.false_or, Bool.or_false, cond_true, cond_false]; done) | rfl) rfl
        · have h6 : (decide (11 ≤ (x2 + (μ.1 50 10)))) = false := decide_eq_false (cn_ge.mp h6)
          refine z_rcs hc hH 2 (pc' := 338) (lv' := [(2, .int (x2 + (μ.1 50 10))), (4, .long p), (6, .int 30), (0, .ref 50), (1, .int (nB b1))]) (st' := [.int 4000]) (μ' := mGP μ g p f) (by rfl) ?_
          exact zJ hJ1 rfl (by first | with_reducible rfl | (simp only [h3, h4, h5, h6, lb_f, Int64.or_zero, Int32.add_zero, nB_t, nB_f, Bool.not_true, Bool.not_false, Bool.and_true, Bool.true_and, Bool.false_and, Bool.and_false, Bool.or_true, Bool.true_or, Bool.false_or, Bool.or_false, cond_true, cond_false]; done) | rfl) rfl
      · have h5 : (decide (8 ≤ (x2 + (μ.1 50 10)))) = false := decide_eq_false (cn_ge.mp h5)
        refine z_rcs hc hH 2 (pc' := 338) (lv' := [(2, .int (x2 + (μ.1 50 10))), (4, .long p), (6, .int 30), (0, .ref 50), (1, .int (nB b1))]) (st' := [.int 3000]) (μ' := mGP μ g p f) (by rfl) ?_
        exact zJ hJ1 rfl (by first | with_reducible rfl | (simp only [h3, h4, h5, lb_f, Int64.or_zero, Int32.add_zero, nB_t, nB_f, Bool.not_true, Bool.not_false, Bool.and_true, Bool.true_and, Bool.false_and, Bool.and_false, Bool.or_true, Bool.true_or, Bool.false_or, Bool.or_false, cond_true, cond_false]; done) | rfl) rfl
    · have h4 : (decide ((x2 + (μ.1 50 10)) = 5)) = true := decide_eq_true (cn_ne.mp h4)
      refine z_rcs hc hH 2 (pc' := 338) (lv' := [(2, .int (x2 + (μ.1 50 10))), (4, .long p), (6, .int 30), (0, .ref 50), (1, .int (nB b1))]) (st' := [.int 2000]) (μ' := mGP μ g p f) (by rfl) ?_
      exact zJ hJ1 rfl (by first | with_reducible rfl | (simp only [h3, h4, lb_f, Int64.or_zero, Int32.add_zero, nB_t, nB_f, Bool.not_true, Bool.not_false, Bool.and_true, Bool.true_and, Bool.false_and, Bool.and_false, Bool.or_true, Bool.true_or, Bool.false_or, Bool.or_false, cond_true, cond_false]; done) | rfl) rfl

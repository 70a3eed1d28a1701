/-! an offer is compared with the best: the reference -/
set_option maxRecDepth 8000
theorem cmp_le {a b : Int64} : decide (lg_cmp a b ≤ 0) = !decide (b < a) := by
  rw [← decide_not]
  refine decide_eq_decide.mpr ?_
  unfold lg_cmp
  by_cases h : a > b
  · rw [if_pos h]
    exact ⟨fun z => absurd z (by decide), fun z => absurd h z⟩
  · rw [if_neg h]
    by_cases h2 : a = b
    · rw [if_pos h2]; exact ⟨fun _ => h, fun _ => by decide⟩
    · rw [if_neg h2]; exact ⟨fun _ => h, fun _ => by decide⟩
noncomputable def xBt (μ : zM) (ba ha : Int32) (fo : Int64) : Bool := bif decide (ba = (μ.1 50 13)) then bif decide (ha = (μ.1 50 14)) then bif decide ((μ.1 50 23) = (μ.1 50 15)) then !(decide ((lg_cmp fo (μ.2.1 50 17)) ≤ 0)) else !(decide ((μ.1 50 23) ≤ (μ.1 50 15))) else !(decide (ha ≤ (μ.1 50 14))) else !(decide (ba ≤ (μ.1 50 13)))
theorem xBt_iff (μ : zM) (ba ha : Int32) (fo : Int64) : xBt μ ba ha fo = true ↔ g4 (ba, ha, μ.1 50 23, fo) (bq μ) := by
  unfold xBt g4 bq
  rw [cmp_le]
  have le : ∀ x y : Int32, decide (x ≤ y) = !decide (y < x) := fun x y => by rw [← decide_not]; exact decide_eq_decide.mpr Int32.not_lt.symm
  rw [le, le, le]
  have irr : ∀ x : Int32, ¬ x < x := fun x => Int32.lt_irrefl
  by_cases h1 : ba = μ.1 50 13 <;> by_cases h2 : ha = μ.1 50 14 <;> by_cases h3 : μ.1 50 23 = μ.1 50 15 <;> simp [h1, h2, h3, irr]
noncomputable def CQ (μ μ' : zM) (x : Q4) : Prop := a_Fz [(50, 13), (50, 14), (50, 15), (50, 17)] μ μ' ∧ BS (fun y => y = x) (bq μ) (bq μ')
theorem cp339a (d' : Nat) (Z : zK) (μ : zM) (ba ha x6 : Int32) (fo : Int64) (o : Bool) (hc : z_clo z_x0 mi_X7_compare (z_C d') Z) (hr : z_ret mi_X7_compare (fun r μ' => r = none ∧ CQ μ μ' (ba, ha, μ.1 50 23, fo)) Z) : Z 0 339 [(4, .long fo), (2, .int ha), (3, .int ba), (6, .int x6), (0, .ref 50), (1, .int (nB o))] [] μ := by
  have hH : zH mi_X7_compare zt_X7_compare 79 7 7 := hh_X7_compare
  refine z_rcs hc hH 3 (pc' := 344) (lv' := [(4, .long fo), (2, .int ha), (3, .int ba), (6, .int x6), (0, .ref 50), (1, .int (nB o))]) (st' := [.int (μ.1 50 13), .int ba]) (μ' := μ) (by rfl) ?_
  have hJ1 : Z 0 432 [(4, .long fo), (2, .int ha), (3, .int ba), (6, .int x6), (0, .ref 50), (1, .int (nB o))] [.int (nB (bif decide (ba = (μ.1 50 13)) then bif decide (ha = (μ.1 50 14)) then bif decide ((μ.1 50 23) = (μ.1 50 15)) then !(decide ((lg_cmp fo (μ.2.1 50 17)) ≤ 0)) else !(decide ((μ.1 50 23) ≤ (μ.1 50 15))) else !(decide (ha ≤ (μ.1 50 14))) else !(decide (ba ≤ (μ.1 50 13)))))] μ := by
    generalize hee2 : (bif decide (ba = (μ.1 50 13)) then bif decide (ha = (μ.1 50 14)) then bif decide ((μ.1 50 23) = (μ.1 50 15)) then !(decide ((lg_cmp fo (μ.2.1 50 17)) ≤ 0)) else !(decide ((μ.1 50 23) ≤ (μ.1 50 15))) else !(decide (ha ≤ (μ.1 50 14))) else !(decide (ba ≤ (μ.1 50 13)))) = ee2
    refine z_rcs hc hH 1 (pc' := 434) (lv' := [(6, .int (nB ee2)), (4, .long fo), (2, .int ha), (3, .int ba), (0, .ref 50), (1, .int (nB o))]) (st' := []) (μ' := μ) (by rfl) ?_
    subst hee2
    show Z 0 434 [(6, .int (nB (xBt μ ba ha fo))), (4, .long fo), (2, .int ha), (3, .int ba), (0, .ref 50), (1, .int (nB o))] [] μ
    have bt := xBt_iff μ ba ha fo
    generalize xBt μ ba ha fo = e at bt ⊢
    refine z_rcs hc hH 1 (pc' := 436) (lv' := [(6, .int (nB e)), (4, .long fo), (2, .int ha), (3, .int ba), (0, .ref 50), (1, .int (nB o))]) (st' := [.int (nB e)]) (μ' := μ) (by rfl) ?_
    refine zq_if hc hH (by rfl) (tg := 440) (by rfl) (fun h => ?_) (fun h => ?_)
    · have h : e = true := nB_n.mp (cm_ne.mp h)
      refine z_rcs hc hH 13 (pc' := 464) (lv' := [(6, .int (nB e)), (4, .long fo), (2, .int ha), (3, .int ba), (0, .ref 50), (1, .int (nB o))]) (st' := []) (μ' := z_uj (z_ui (z_ui (z_ui μ 50 13 ba) 50 14 ha) 50 15 (μ.1 50 23)) 50 17 fo) (by rfl) ?_
      have ge := bt.mp h
      exact hr 0 464 _ _ _ none (by decide +kernel) (by rfl) (⟨rfl, by exact a_Fz_uj (a_Fz_ui (a_Fz_ui (a_Fz_ui (a_Fz_rf _ _) (by decide)) (by decide)) (by decide)) (by decide), BS_one (Or.inl ⟨ge, rfl⟩)⟩)
    · have h : e = false := nB_z.mp (cn_ne.mp h)
      exact hr 0 439 _ _ _ none (by decide +kernel) (by rfl) (⟨rfl, a_Fz_rf _ _, BS_one (Or.inr ⟨fun g => absurd (bt.mpr g) (by rw [h]; decide), rfl⟩)⟩)
  refine zq_ic hc hH (by rfl) (tg := 363) (by rfl) (fun h3 => ?_) (fun h3 => ?_)
  · have h3 : (decide (ba = (μ.1 50 13))) = true := decide_eq_true (cm_eq9.mp h3)
    refine z_rcs hc hH 3 (pc' := 368) (lv' := [(4, .long fo), (2, .int ha), (3, .int ba), (6, .int x6), (0, .ref 50), (1, .int (nB o))]) (st' := [.int (μ.1 50 14), .int ha]) (μ' := μ) (by rfl) ?_
    refine zq_ic hc hH (by rfl) (tg := 387) (by rfl) (fun h4 => ?_) (fun h4 => ?_)
    · have h4 : (decide (ha = (μ.1 50 14))) = true := decide_eq_true (cm_eq9.mp h4)
      refine z_rcs hc hH 4 (pc' := 395) (lv' := [(4, .long fo), (2, .int ha), (3, .int ba), (6, .int x6), (0, .ref 50), (1, .int (nB o))]) (st' := [.int (μ.1 50 15), .int (μ.1 50 23)]) (μ' := μ) (by rfl) ?_
      refine zq_ic hc hH (by rfl) (tg := 417) (by rfl) (fun h5 => ?_) (fun h5 => ?_)
      · have h5 : (decide ((μ.1 50 23) = (μ.1 50 15))) = true := decide_eq_true (cm_eq9.mp h5)
        refine z_rcs hc hH 4 (pc' := 424) (lv' := [(4, .long fo), (2, .int ha), (3, .int ba), (6, .int x6), (0, .ref 50), (1, .int (nB o))]) (st' := [.int (lg_cmp fo (μ.2.1 50 17))]) (μ' := μ) (by rfl) ?_
        refine zq_if hc hH (by rfl) (tg := 431) (by rfl) (fun h6 => ?_) (fun h6 => ?_)
        · have h6 : (decide ((lg_cmp fo (μ.2.1 50 17)) ≤ 0)) = true := decide_eq_true (cm_le.mp h6)
          refine z_rcs hc hH 1 (pc' := 432) (lv' := [(4, .long fo), (2, .int ha), (3, .int ba), (6, .int x6), (0, .ref 50), (1, .int (nB o))]) (st' := [.int 0]) (μ' := μ) (by rfl) ?_
          exact zJ hJ1 rfl (by first | with_reducible rfl | (simp only [h3, h4, h5, h6, lb_f, Int64.or_zero, Int32.add_zero, nB_t, nB_f, Bool.not_true, Bool.not_false, Bool.and_true, Bool.true_and, Bool.false_and, Bool.and_false, Bool.or_true, Bool.true_or, Bool.false_or, Bool.or_false, cond_true, cond_false]; done) | rfl) rfl
        · have h6 : (decide ((lg_cmp fo (μ.2.1 50 17)) ≤ 0)) = false := decide_eq_false (cn_le.mp h6)
          refine z_rcs hc hH 2 (pc' := 432) (lv' := [(4, .long fo), (2, .int ha), (3, .int ba), (6, .int x6), (0, .ref 50), (1, .int (nB o))]) (st' := [.int 1]) (μ' := μ) (by rfl) ?_
          exact zJ hJ1 rfl (by first | with_reducible rfl | (simp only [h3, h4, h5, h6, lb_f, Int64.or_zero, Int32.add_zero, nB_t, nB_f, Bool.not_true, Bool.not_false, Bool.and_true, Bool.true_and, Bool.false_and, Bool.and_false, Bool.or_true, Bool.true_or, Bool.false_or, Bool.or_false, cond_true, cond_false]; done) | rfl) rfl
      · have h5 : (decide ((μ.1 50 23) = (μ.1 50 15))) = false := decide_eq_false (cn_eq.mp h5)
        refine z_rcs hc hH 4 (pc' := 406) (lv' := [(4, .long fo), (2, .int ha), (3, .int ba), (6, .int x6), (0, .ref 50), (1, .int (nB o))]) (st' := [.int (μ.1 50 15), .int (μ.1 50 23)]) (μ' := μ) (by rfl) ?_
        refine zq_ic hc hH (by rfl) (tg := 413) (by rfl) (fun h7 => ?_) (fun h7 => ?_)
        · have h7 : (decide ((μ.1 50 23) ≤ (μ.1 50 15))) = true := decide_eq_true (cm_le.mp h7)
          refine z_rcs hc hH 2 (pc' := 432) (lv' := [(4, .long fo), (2, .int ha), (3, .int ba), (6, .int x6), (0, .ref 50), (1, .int (nB o))]) (st' := [.int 0]) (μ' := μ) (by rfl) ?_
          exact zJ hJ1 rfl (by first | with_reducible rfl | (simp only [h3, h4, h5, h7, lb_f, Int64.or_zero, Int32.add_zero, nB_t, nB_f, Bool.not_true, Bool.not_false, Bool.and_true, Bool.true_and, Bool.false_and, Bool.and_false, Bool.or_true, Bool.true_or, Bool.false_or, Bool.or_false, cond_true, cond_false]; done) | rfl) rfl
        · have h7 : (decide ((μ.1 50 23) ≤ (μ.1 50 15))) = false := decide_eq_false (cn_le.mp h7)
          refine z_rcs hc hH 2 (pc' := 432) (lv' := [(4, .long fo), (2, .int ha), (3, .int ba), (6, .int x6), (0, .ref 50), (1, .int (nB o))]) (st' := [.int 1]) (μ' := μ) (by rfl) ?_
          exact zJ hJ1 rfl (by first | with_reducible rfl | (simp only [h3, h4, h5, h7, lb_f, Int64.or_zero, Int32.add_zero, nB_t, nB_f, Bool.not_true, Bool.not_false, Bool.and_true, Bool.true_and, Bool.false_and, Bool.and_false, Bool.or_true, Bool.true_or, Bool.false_or, Bool.or_false, cond_true, cond_false]; done) | rfl) rfl
    · have h4 : (decide (ha = (μ.1 50 14))) = false := decide_eq_false (cn_eq.mp h4)
      refine z_rcs hc hH 3 (pc' := 376) (lv' := [(4, .long fo), (2, .int ha), (3, .int ba), (6, .int x6), (0, .ref 50), (1, .int (nB o))]) (st' := [.int (μ.1 50 14), .int ha]) (μ' := μ) (by rfl) ?_
      refine zq_ic hc hH (by rfl) (tg := 383) (by rfl) (fun h8 => ?_) (fun h8 => ?_)
      · have h8 : (decide (ha ≤ (μ.1 50 14))) = true := decide_eq_true (cm_le.mp h8)
        refine z_rcs hc hH 2 (pc' := 432) (lv' := [(4, .long fo), (2, .int ha), (3, .int ba), (6, .int x6), (0, .ref 50), (1, .int (nB o))]) (st' := [.int 0]) (μ' := μ) (by rfl) ?_
        exact zJ hJ1 rfl (by first | with_reducible rfl | (simp only [h3, h4, h8, lb_f, Int64.or_zero, Int32.add_zero, nB_t, nB_f, Bool.not_true, Bool.not_false, Bool.and_true, Bool.true_and, Bool.false_and, Bool.and_false, Bool.or_true, Bool.true_or, Bool.false_or, Bool.or_false, cond_true, cond_false]; done) | rfl) rfl
      · have h8 : (decide (ha ≤ (μ.1 50 14))) = false := decide_eq_false (cn_le.mp h8)
        refine z_rcs hc hH 2 (pc' := 432) (lv' := [(4, .long fo), (2, .int ha), (3, .int ba), (6, .int x6), (0, .ref 50), (1, .int (nB o))]) (st' := [.int 1]) (μ' := μ) (by rfl) ?_
        exact zJ hJ1 rfl (by first | with_reducible rfl | (simp only [h3, h4, h8, lb_f, Int64.or_zero, Int32.add_zero, nB_t, nB_f, Bool.not_true, Bool.not_false, Bool.and_true, Bool.true_and, Bool.false_and, Bool.and_false, Bool.or_true, Bool.true_or, Bool.false_or, Bool.or_false, cond_true, cond_false]; done) | rfl) rfl
  · have h3 : (decide (ba = (μ.1 50 13))) = false := decide_eq_false (cn_eq.mp h3)
    refine z_rcs hc hH 3 (pc' := 352) (lv' := [(4, .long fo), (2, .int ha), (3, .int ba), (6, .int x6), (0, .ref 50), (1, .int (nB o))]) (st' := [.int (μ.1 50 13), .int ba]) (μ' := μ) (by rfl) ?_
    refine zq_ic hc hH (by rfl) (tg := 359) (by rfl) (fun h9 => ?_) (fun h9 => ?_)
    · have h9 : (decide (ba ≤ (μ.1 50 13))) = true := decide_eq_true (cm_le.mp h9)
      refine z_rcs hc hH 2 (pc' := 432) (lv' := [(4, .long fo), (2, .int ha), (3, .int ba), (6, .int x6), (0, .ref 50), (1, .int (nB o))]) (st' := [.int 0]) (μ' := μ) (by rfl) ?_
      exact zJ hJ1 rfl (by first | with_reducible rfl | (simp only [h3, h9, lb_f, Int64.or_zero, Int32.add_zero, nB_t, nB_f, Bool.not_true, Bool.not_false, Bool.and_true, Bool.true_and, Bool.false_and, Bool.and_false, Bool.or_true, Bool.true_or, Bool.false_or, Bool.or_false, cond_true, cond_false]; done) | rfl) rfl
    · have h9 : (decide (ba ≤ (μ.1 50 13))) = false := decide_eq_false (cn_le.mp h9)
      refine z_rcs hc hH 2 (pc' := 432) (lv' := [(4, .long fo), (2, .int ha), (3, .int ba), (6, .int x6), (0, .ref 50), (1, .int (nB o))]) (st' := [.int 1]) (μ' := μ) (by rfl) ?_
      exact zJ hJ1 rfl (by first | with_reducible rfl | (simp only [h3, h9, lb_f, Int64.or_zero, Int32.add_zero, nB_t, nB_f, Bool.not_true, Bool.not_false, Bool.and_true, Bool.true_and, Bool.false_and, Bool.and_false, Bool.or_true, Bool.true_or, Bool.false_or, Bool.or_false, cond_true, cond_false]; done) | rfl) rfl
theorem cp339b (d' : Nat) (Z : zK) (μ : zM) (ba ha x6 : Int32) (fo : Int64) (o : Bool) (hc : z_clo z_x0 mi_X7_compare (z_C d') Z) (hr : z_ret mi_X7_compare (fun r μ' => r = none ∧ CQ μ μ' (ba, ha, μ.1 50 23, fo)) Z) : Z 0 339 [(3, .int ba), (2, .int ha), (4, .long fo), (6, .int x6), (0, .ref 50), (1, .int (nB o))] [] μ := by
  have hH : zH mi_X7_compare zt_X7_compare 79 7 7 := hh_X7_compare
  refine z_rcs hc hH 3 (pc' := 344) (lv' := [(3, .int ba), (2, .int ha), (4, .long fo), (6, .int x6), (0, .ref 50), (1, .int (nB o))]) (st' := [.int (μ.1 50 13), .int ba]) (μ' := μ) (by rfl) ?_
  have hJ1 : Z 0 432 [(3, .int ba), (2, .int ha), (4, .long fo), (6, .int x6), (0, .ref 50), (1, .int (nB o))] [.int (nB (bif decide (ba = (μ.1 50 13)) then bif decide (ha = (μ.1 50 14)) then bif decide ((μ.1 50 23) = (μ.1 50 15)) then !(decide ((lg_cmp fo (μ.2.1 50 17)) ≤ 0)) else !(decide ((μ.1 50 23) ≤ (μ.1 50 15))) else !(decide (ha ≤ (μ.1 50 14))) else !(decide (ba ≤ (μ.1 50 13)))))] μ := by
    generalize hee2 : (bif decide (ba = (μ.1 50 13)) then bif decide (ha = (μ.1 50 14)) then bif decide ((μ.1 50 23) = (μ.1 50 15)) then !(decide ((lg_cmp fo (μ.2.1 50 17)) ≤ 0)) else !(decide ((μ.1 50 23) ≤ (μ.1 50 15))) else !(decide (ha ≤ (μ.1 50 14))) else !(decide (ba ≤ (μ.1 50 13)))) = ee2
    refine z_rcs hc hH 1 (pc' := 434) (lv' := [(6, .int (nB ee2)), (3, .int ba), (2, .int ha), (4, .long fo), (0, .ref 50), (1, .int (nB o))]) (st' := []) (μ' := μ) (by rfl) ?_
    subst hee2
    show Z 0 434 [(6, .int (nB (xBt μ ba ha fo))), (3, .int ba), (2, .int ha), (4, .long fo), (0, .ref 50), (1, .int (nB o))] [] μ
    have bt := xBt_iff μ ba ha fo
    generalize xBt μ ba ha fo = e at bt ⊢
    refine z_rcs hc hH 1 (pc' := 436) (lv' := [(6, .int (nB e)), (3, .int ba), (2, .int ha), (4, .long fo), (0, .ref 50), (1, .int (nB o))]) (st' := [.int (nB e)]) (μ' := μ) (by rfl) ?_
    refine zq_if hc hH (by rfl) (tg := 440) (by rfl) (fun h => ?_) (fun h => ?_)
    · have h : e = true := nB_n.mp (cm_ne.mp h)
      refine z_rcs hc hH 13 (pc' := 464) (lv' := [(6, .int (nB e)), (3, .int ba), (2, .int ha), (4, .long fo), (0, .ref 50), (1, .int (nB o))]) (st' := []) (μ' := z_uj (z_ui (z_ui (z_ui μ 50 13 ba) 50 14 ha) 50 15 (μ.1 50 23)) 50 17 fo) (by rfl) ?_
      have ge := bt.mp h
      exact hr 0 464 _ _ _ none (by decide +kernel) (by rfl) (⟨rfl, by exact a_Fz_uj (a_Fz_ui (a_Fz_ui (a_Fz_ui (a_Fz_rf _ _) (by decide)) (by decide)) (by decide)) (by decide), BS_one (Or.inl ⟨ge, rfl⟩)⟩)
    · have h : e = false := nB_z.mp (cn_ne.mp h)
      exact hr 0 439 _ _ _ none (by decide +kernel) (by rfl) (⟨rfl, a_Fz_rf _ _, BS_one (Or.inr ⟨fun g => absurd (bt.mpr g) (by rw [h]; decide), rfl⟩)⟩)
  refine zq_ic hc hH (by rfl) (tg := 363) (by rfl) (fun h3 => ?_) (fun h3 => ?_)
  · have h3 : (decide (ba = (μ.1 50 13))) = true := decide_eq_true (cm_eq9.mp h3)
    refine z_rcs hc hH 3 (pc' := 368) (lv' := [(3, .int ba), (2, .int ha), (4, .long fo), (6, .int x6), (0, .ref 50), (1, .int (nB o))]) (st' := [.int (μ.1 50 14), .int ha]) (μ' := μ) (by rfl) ?_
    refine zq_ic hc hH (by rfl) (tg := 387) (by rfl) (fun h4 => ?_) (fun h4 => ?_)
    · have h4 : (decide (ha = (μ.1 50 14))) = true := decide_eq_true (cm_eq9.mp h4)
      refine z_rcs hc hH 4 (pc' := 395) (lv' := [(3, .int ba), (2, .int ha), (4, .long fo), (6, .int x6), (0, .ref 50), (1, .int (nB o))]) (st' := [.int (μ.1 50 15), .int (μ.1 50 23)]) (μ' := μ) (by rfl) ?_
      refine zq_ic hc hH (by rfl) (tg := 417) (by rfl) (fun h5 => ?_) (fun h5 => ?_)
      · have h5 : (decide ((μ.1 50 23) = (μ.1 50 15))) = true := decide_eq_true (cm_eq9.mp h5)
        refine z_rcs hc hH 4 (pc' := 424) (lv' := [(3, .int ba), (2, .int ha), (4, .long fo), (6, .int x6), (0, .ref 50), (1, .int (nB o))]) (st' := [.int (lg_cmp fo (μ.2.1 50 17))]) (μ' := μ) (by rfl) ?_
        refine zq_if hc hH (by rfl) (tg := 431) (by rfl) (fun h6 => ?_) (fun h6 => ?_)
        · have h6 : (decide ((lg_cmp fo (μ.2.1 50 17)) ≤ 0)) = true := decide_eq_true (cm_le.mp h6)
          refine z_rcs hc hH 1 (pc' := 432) (lv' := [(3, .int ba), (2, .int ha), (4, .long fo), (6, .int x6), (0, .ref 50), (1, .int (nB o))]) (st' := [.int 0]) (μ' := μ) (by rfl) ?_
          exact zJ hJ1 rfl (by first | with_reducible rfl | (simp only [h3, h4, h5, h6, lb_f, Int64.or_zero, Int32.add_zero, nB_t, nB_f, Bool.not_true, Bool.not_false, Bool.and_true, Bool.true_and, Bool.false_and, Bool.and_false, Bool.or_true, Bool.true_or, Bool.false_or, Bool.or_false, cond_true, cond_false]; done) | rfl) rfl
        · have h6 : (decide ((lg_cmp fo (μ.2.1 50 17)) ≤ 0)) = false := decide_eq_false (cn_le.mp h6)
          refine z_rcs hc hH 2 (pc' := 432) (lv' := [(3, .int ba), (2, .int ha), (4, .long fo), (6, .int x6), (0, .ref 50), (1, .int (nB o))]) (st' := [.int 1]) (μ' := μ) (by rfl) ?_
          exact zJ hJ1 rfl (by first | with_reducible rfl | (simp only [h3, h4, h5, h6, lb_f, Int64.or_zero, Int32.add_zero, nB_t, nB_f, Bool.not_true, Bool.not_false, Bool.and_true, Bool.true_and, Bool.false_and, Bool.and_false, Bool.or_true, Bool.true_or, Bool.false_or, Bool.or_false, cond_true, cond_false]; done) | rfl) rfl
      · have h5 : (decide ((μ.1 50 23) = (μ.1 50 15))) = false := decide_eq_false (cn_eq.mp h5)
        refine z_rcs hc hH 4 (pc' := 406) (lv' := [(3, .int ba), (2, .int ha), (4, .long fo), (6, .int x6), (0, .ref 50), (1, .int (nB o))]) (st' := [.int (μ.1 50 15), .int (μ.1 50 23)]) (μ' := μ) (by rfl) ?_
        refine zq_ic hc hH (by rfl) (tg := 413) (by rfl) (fun h7 => ?_) (fun h7 => ?_)
        · have h7 : (decide ((μ.1 50 23) ≤ (μ.1 50 15))) = true := decide_eq_true (cm_le.mp h7)
          refine z_rcs hc hH 2 (pc' := 432) (lv' := [(3, .int ba), (2, .int ha), (4, .long fo), (6, .int x6), (0, .ref 50), (1, .int (nB o))]) (st' := [.int 0]) (μ' := μ) (by rfl) ?_
          exact zJ hJ1 rfl (by first | with_reducible rfl | (simp only [h3, h4, h5, h7, lb_f, Int64.or_zero, Int32.add_zero, nB_t, nB_f, Bool.not_true, Bool.not_false, Bool.and_true, Bool.true_and, Bool.false_and, Bool.and_false, Bool.or_true, Bool.true_or, Bool.false_or, Bool.or_false, cond_true, cond_false]; done) | rfl) rfl
        · have h7 : (decide ((μ.1 50 23) ≤ (μ.1 50 15))) = false := decide_eq_false (cn_le.mp h7)
          refine z_rcs hc hH 2 (pc' := 432) (lv' := [(3, .int ba), (2, .int ha), (4, .long fo), (6, .int x6), (0, .ref 50), (1, .int (nB o))]) (st' := [.int 1]) (μ' := μ) (by rfl) ?_
          exact zJ hJ1 rfl (by first | with_reducible rfl | (simp only [h3, h4, h5, h7, lb_f, Int64.or_zero, Int32.add_zero, nB_t, nB_f, Bool.not_true, Bool.not_false, Bool.and_true, Bool.true_and, Bool.false_and, Bool.and_false, Bool.or_true, Bool.true_or, Bool.false_or, Bool.or_false, cond_true, cond_false]; done) | rfl) rfl
    · have h4 : (decide (ha = (μ.1 50 14))) = false := decide_eq_false (cn_eq.mp h4)
      refine z_rcs hc hH 3 (pc' := 376) (lv' := [(3, .int ba), (2, .int ha), (4, .long fo), (6, .int x6), (0, .ref 50), (1, .int (nB o))]) (st' := [.int (μ.1 50 14), .int ha]) (μ' := μ) (by rfl) ?_
      refine zq_ic hc hH (by rfl) (tg := 383) (by rfl) (fun h8 => ?_) (fun h8 => ?_)
      · have h8 : (decide (ha ≤ (μ.1 50 14))) = true := decide_eq_true (cm_le.mp h8)
        refine z_rcs hc hH 2 (pc' := 432) (lv' := [(3, .int ba), (2, .int ha), (4, .long fo), (6, .int x6), (0, .ref 50), (1, .int (nB o))]) (st' := [.int 0]) (μ' := μ) (by rfl) ?_
        exact zJ hJ1 rfl (by first | with_reducible rfl | (simp only [h3, h4, h8, lb_f, Int64.or_zero, Int32.add_zero, nB_t, nB_f, Bool.not_true, Bool.not_false, Bool.and_true, Bool.true_and, Bool.false_and, Bool.and_false, Bool.or_true, Bool.true_or, Bool.false_or, Bool.or_false, cond_true, cond_false]; done) | rfl) rfl
      · have h8 : (decide (ha ≤ (μ.1 50 14))) = false := decide_eq_false (cn_le.mp h8)
        refine z_rcs hc hH 2 (pc' := 432) (lv' := [(3, .int ba), (2, .int ha), (4, .long fo), (6, .int x6), (0, .ref 50), (1, .int (nB o))]) (st' := [.int 1]) (μ' := μ) (by rfl) ?_
        exact zJ hJ1 rfl (by first | with_reducible rfl | (simp only [h3, h4, h8, lb_f, Int64.or_zero, Int32.add_zero, nB_t, nB_f, Bool.not_true, Bool.not_false, Bool.and_true, Bool.true_and, Bool.false_and, Bool.and_false, Bool.or_true, Bool.true_or, Bool.false_or, Bool.or_false, cond_true, cond_false]; done) | rfl) rfl
  · have h3 : (decide (ba = (μ.1 50 13))) = false := decide_eq_false (cn_eq.mp h3)
    refine z_rcs hc hH 3 (pc' := 352) (lv' := [(3, .int ba), (2, .int ha), (4, .long fo), (6, .int x6), (0, .ref 50), (1, .int (nB o))]) (st' := [.int (μ.1 50 13), .int ba]) (μ' := μ) (by rfl) ?_
    refine zq_ic hc hH (by rfl) (tg := 359) (by rfl) (fun h9 => ?_) (fun h9 => ?_)
    · have h9 : (decide (ba ≤ (μ.1 50 13))) = true := decide_eq_true (cm_le.mp h9)
      refine z_rcs hc hH 2 (pc' := 432) (lv' := [(3, .int ba), (2, .int ha), (4, .long fo), (6, .int x6), (0, .ref 50), (1, .int (nB o))]) (st' := [.int 0]) (μ' := μ) (by rfl) ?_
      exact zJ hJ1 rfl (by first | with_reducible rfl | (simp only [h3, h9, lb_f, Int64.or_zero, Int32.add_zero, nB_t, nB_f, Bool.not_true, Bool.not_false, Bool.and_true, Bool.true_and, Bool.false_and, Bool.and_false, Bool.or_true, Bool.true_or, Bool.false_or, Bool.or_false, cond_true, cond_false]; done) | rfl) rfl
    · have h9 : (decide (ba ≤ (μ.1 50 13))) = false := decide_eq_false (cn_le.mp h9)
      refine z_rcs hc hH 2 (pc' := 432) (lv' := [(3, .int ba), (2, .int ha), (4, .long fo), (6, .int x6), (0, .ref 50), (1, .int (nB o))]) (st' := [.int 1]) (μ' := μ) (by rfl) ?_
      exact zJ hJ1 rfl (by first | with_reducible rfl | (simp only [h3, h9, lb_f, Int64.or_zero, Int32.add_zero, nB_t, nB_f, Bool.not_true, Bool.not_false, Bool.and_true, Bool.true_and, Bool.false_and, Bool.and_false, Bool.or_true, Bool.true_or, Bool.false_or, Bool.or_false, cond_true, cond_false]; done) | rfl) rfl

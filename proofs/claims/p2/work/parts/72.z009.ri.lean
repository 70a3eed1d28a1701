/-! the game: tiles and wall of the class, exactly -/
set_option maxRecDepth 8000
theorem inOf2 {x m : Int32} {n : Nat} (hm : m.toInt = (n : Int)) (h1 : decide (x < 0) = false) (h2 : decide (m ≤ x) = false) : vp_in x n := in_of hm (of_decide_eq_false h1) (of_decide_eq_false h2)
theorem gc_kindAt (d : Nat) (hd : 1 ≤ d) (μ : zM) (x : Int32) : z_C d mi_X4_kindAt [.ref 2, .int x] μ (zR μ (.int (bif decide ((μ.1 2 1) = 0) then (-1 : Int32) else bif decide (x < 0) then (-1 : Int32) else bif decide (136 ≤ x) then (-1 : Int32) else μ.1 3 x.toNatClampNeg))) := by
  refine z_C_in (by decide) (by omega) (fun d' Z ed hc hr => ?_)
  have hH : zH mi_X4_kindAt zc_X4_kindAt 79 4 2 := ⟨by rfl, by rfl, by rfl, by rfl⟩
  refine z_rcs hc hH 1 (pc' := 1) (lv' := [(0, .ref 2), (1, .int x)]) (st' := [.ref 2]) (μ' := μ) (by rfl) ?_
  refine zq_gfi hc hH (by rfl) (ci := 3) (f := 1) (by rfl) (by decide +kernel) (by rfl) ?_
  have hJ1 : Z 0 28 [(0, .ref 2), (1, .int x)] [.int (bif decide ((μ.1 2 1) = 0) then (-1 : Int32) else bif decide (x < 0) then (-1 : Int32) else bif decide (136 ≤ x) then (-1 : Int32) else μ.1 3 x.toNatClampNeg)] μ := by
    generalize hyy2 : (bif decide ((μ.1 2 1) = 0) then (-1 : Int32) else bif decide (x < 0) then (-1 : Int32) else bif decide (136 ≤ x) then (-1 : Int32) else μ.1 3 x.toNatClampNeg : Int32) = yy2
    exact hr 0 28 _ _ _ (some (.int yy2)) (by decide +kernel) (by rfl) (⟨rfl, (by subst hyy2; rfl)⟩)
  refine zq_if hc hH (by rfl) (tg := 27) (by rfl) (fun h3 => ?_) (fun h3 => ?_)
  · have h3 : (decide ((μ.1 2 1) = 0)) = true := decide_eq_true (cm_eq9.mp h3)
    refine z_rcs hc hH 1 (pc' := 28) (lv' := [(0, .ref 2), (1, .int x)]) (st' := [.int (-1)]) (μ' := μ) (by rfl) ?_
    exact zJ hJ1 rfl (by first | rfl | simp only [h3, lb_f, Int64.or_zero, Int32.add_zero, nB_t, nB_f, Bool.not_true, Bool.not_false, Bool.and_true, Bool.true_and, Bool.false_and, Bool.and_false, Bool.or_true, Bool.true_or, Bool.false_or, Bool.or_false, cond_true, cond_false]) rfl
  · have h3 : (decide ((μ.1 2 1) = 0)) = false := decide_eq_false (cn_eq.mp h3)
    refine z_rcs hc hH 1 (pc' := 8) (lv' := [(0, .ref 2), (1, .int x)]) (st' := [.int x]) (μ' := μ) (by rfl) ?_
    refine zq_if hc hH (by rfl) (tg := 27) (by rfl) (fun h4 => ?_) (fun h4 => ?_)
    · have h4 : (decide (x < 0)) = true := decide_eq_true (cm_lt.mp h4)
      refine z_rcs hc hH 1 (pc' := 28) (lv' := [(0, .ref 2), (1, .int x)]) (st' := [.int (-1)]) (μ' := μ) (by rfl) ?_
      exact zJ hJ1 rfl (by first | rfl | simp only [h3, h4, lb_f, Int64.or_zero, Int32.add_zero, nB_t, nB_f, Bool.not_true, Bool.not_false, Bool.and_true, Bool.true_and, Bool.false_and, Bool.and_false, Bool.or_true, Bool.true_or, Bool.false_or, Bool.or_false, cond_true, cond_false]) rfl
    · have h4 : (decide (x < 0)) = false := decide_eq_false (cn_lt.mp h4)
      refine z_rcs hc hH 2 (pc' := 15) (lv' := [(0, .ref 2), (1, .int x)]) (st' := [.int 136, .int x]) (μ' := μ) (by rfl) ?_
      refine zq_ic hc hH (by rfl) (tg := 27) (by rfl) (fun h5 => ?_) (fun h5 => ?_)
      · have h5 : (decide (136 ≤ x)) = true := decide_eq_true (cm_ge.mp h5)
        refine z_rcs hc hH 1 (pc' := 28) (lv' := [(0, .ref 2), (1, .int x)]) (st' := [.int (-1)]) (μ' := μ) (by rfl) ?_
        exact zJ hJ1 rfl (by first | rfl | simp only [h3, h4, h5, lb_f, Int64.or_zero, Int32.add_zero, nB_t, nB_f, Bool.not_true, Bool.not_false, Bool.and_true, Bool.true_and, Bool.false_and, Bool.and_false, Bool.or_true, Bool.true_or, Bool.false_or, Bool.or_false, cond_true, cond_false]) rfl
      · have h5 : (decide (136 ≤ x)) = false := decide_eq_false (cn_ge.mp h5)
        refine z_rcs hc hH 1 (pc' := 19) (lv' := [(0, .ref 2), (1, .int x)]) (st' := [.ref 2]) (μ' := μ) (by rfl) ?_
        refine zq_gfr hc hH (by rfl) (ci := 3) (f := 0) (q := 3) (by rfl) (by decide +kernel) (by rfl) (by decide +kernel) ?_
        refine z_rcs hc hH 1 (pc' := 23) (lv' := [(0, .ref 2), (1, .int x)]) (st' := [.int x, .ref 3]) (μ' := μ) (by rfl) ?_
        refine zq_iald hc hH (by rfl) 136 (oka_i (by decide +kernel)) (inOf2 (n := 136) rfl h4 h5) ?_
        refine z_rcs hc hH 1 (pc' := 28) (lv' := [(0, .ref 2), (1, .int x)]) (st' := [.int (μ.1 3 x.toNatClampNeg)]) (μ' := μ) (by rfl) ?_
        exact zJ hJ1 rfl (by first | rfl | simp only [h3, h4, h5, lb_f, Int64.or_zero, Int32.add_zero, nB_t, nB_f, Bool.not_true, Bool.not_false, Bool.and_true, Bool.true_and, Bool.false_and, Bool.and_false, Bool.or_true, Bool.true_or, Bool.false_or, Bool.or_false, cond_true, cond_false]) rfl
theorem gc_kindAtN (d : Nat) (hd : 1 ≤ d) (μ : zM) (p : Nat) (hp : p < 136) (h1 : μ.1 2 1 = 1) : z_C d mi_X4_kindAt [.ref 2, .int (nI p)] μ (zR μ (.int (μ.1 3 p))) := by
  have z := gc_kindAt d hd μ (nI p)
  have e1 : (nI p).toInt = (p : Int) := nI_toInt (by omega)
  have a1 : decide (nI p < 0) = false := decide_eq_false (by rw [Int32.lt_iff_toInt_lt, e1, show (0 : Int32).toInt = 0 from rfl]; omega)
  have a2 : decide ((136 : Int32) ≤ nI p) = false := decide_eq_false (by rw [Int32.le_iff_toInt_le, e1, show (136 : Int32).toInt = 136 from rfl]; omega)
  have a3 : decide ((1 : Int32) = 0) = false := by decide
  have e2 : (nI p).toNatClampNeg = p := nI_clamp (by omega)
  rw [h1, a1, a2, a3, e2] at z
  exact z
theorem gc_isKindN (d : Nat) (hd : 1 ≤ d) (μ : zM) (k : Nat) (hk : k < 34) : z_C d mi_X6_isKind [.int (nI k)] μ (zR μ (.int 1)) := by
  refine z_C_mono (fc_X6_isKind d hd μ (nI k)) (fun r μ' z => ⟨z.1, ?_⟩)
  rcases z.2 with ⟨h, _⟩ | ⟨_, h⟩
  · exact h
  · exact absurd (vp_in_nI hk (by decide)) h
def pS (μ : zM) (j k : Nat) (n : Int32) : zM := z_ui (z_ui (z_ui μ (20 + 8 * j) k ((μ.1 (20 + 8 * j) k) + n)) (21 + 8 * j) k ((μ.1 (21 + 8 * j) k) + n)) (19 + 8 * j) 5 ((μ.1 (19 + 8 * j) 5) + n)
theorem gc_put (d : Nat) (hd : 2 ≤ d) (μ : zM) (j : Nat) (hj : j < 4) (k : Nat) (hk : k < 34) (n : Int32) : z_C d mi_X3_put [.ref (19 + 8 * j), .int (nI k), .int n] μ (fun r μ' => r = none ∧ μ' = pS μ j k n) := by
  refine z_C_in (by decide) (by omega) (fun d' Z ed hc hr => ?_)
  have hH : zH mi_X3_put zc_X3_put 79 3 3 := ⟨by rfl, by rfl, by rfl, by rfl⟩
  refine z_rcs hc hH 1 (pc' := 1) (lv' := [(0, .ref (19 + 8 * j)), (1, .int (nI k)), (2, .int n)]) (st' := [.int (nI k)]) (μ' := μ) (by rfl) ?_
  refine zq_call hc (by rfl) (gc_isKindN d' (by omega) μ k hk) (by decide +kernel) (fun r9 μ9 hq => ?_)
  obtain ⟨hμ9, rfl⟩ := hq
  rw [hμ9]
  clear hμ9 μ9
  show Z 0 4 [(0, .ref (19 + 8 * j)), (1, .int (nI k)), (2, .int n)] [.int 1] μ
  refine z_rcs hc hH 2 (pc' := 8) (lv' := [(0, .ref (19 + 8 * j)), (1, .int (nI k)), (2, .int n)]) (st' := [.ref (19 + 8 * j)]) (μ' := μ) (by rfl) ?_
  refine zq_gfr hc hH (by rfl) (ci := 2) (f := 0) (q := 20 + 8 * j) (by rfl) (sj (P := fun i => okf 79 2 0 (19 + 8 * i)) hj (by decide +kernel)) (by rfl) (sj (P := fun i => Nat.beq (z_gr (19 + 8 * i) 0) (20 + 8 * i)) hj (by decide +kernel)) ?_
  refine z_rcs hc hH 2 (pc' := 13) (lv' := [(0, .ref (19 + 8 * j)), (1, .int (nI k)), (2, .int n)]) (st' := [.int (nI k), .ref (20 + 8 * j), .int (nI k), .ref (20 + 8 * j)]) (μ' := μ) (by rfl) ?_
  refine zq_iald hc hH (by rfl) 34 (oka_i (sj (P := fun i => oka 79 1 34 (20 + 8 * i)) hj (by decide +kernel))) (vp_in_nI (by omega) (by decide)) ?_
  rw [nI_clamp (by omega)]
  refine z_rcs hc hH 2 (pc' := 16) (lv' := [(0, .ref (19 + 8 * j)), (1, .int (nI k)), (2, .int n)]) (st' := [.int ((μ.1 (20 + 8 * j) k) + n), .int (nI k), .ref (20 + 8 * j)]) (μ' := μ) (by rfl) ?_
  refine zq_iast hc hH (by rfl) 34 (oka_i (sj (P := fun i => oka 79 1 34 (20 + 8 * i)) hj (by decide +kernel))).2 (vp_in_nI (by omega) (by decide)) ?_
  rw [nI_clamp (by omega)]
  show Z 0 17 [(0, .ref (19 + 8 * j)), (1, .int (nI k)), (2, .int n)] [] (z_ui μ (20 + 8 * j) k ((μ.1 (20 + 8 * j) k) + n))
  refine z_rcs hc hH 1 (pc' := 18) (lv' := [(0, .ref (19 + 8 * j)), (1, .int (nI k)), (2, .int n)]) (st' := [.ref (19 + 8 * j)]) (μ' := z_ui μ (20 + 8 * j) k ((μ.1 (20 + 8 * j) k) + n)) (by rfl) ?_
  refine zq_gfr hc hH (by rfl) (ci := 2) (f := 1) (q := 21 + 8 * j) (by rfl) (sj (P := fun i => okf 79 2 1 (19 + 8 * i)) hj (by decide +kernel)) (by rfl) (sj (P := fun i => Nat.beq (z_gr (19 + 8 * i) 1) (21 + 8 * i)) hj (by decide +kernel)) ?_
  refine z_rcs hc hH 2 (pc' := 23) (lv' := [(0, .ref (19 + 8 * j)), (1, .int (nI k)), (2, .int n)]) (st' := [.int (nI k), .ref (21 + 8 * j), .int (nI k), .ref (21 + 8 * j)]) (μ' := z_ui μ (20 + 8 * j) k ((μ.1 (20 + 8 * j) k) + n)) (by rfl) ?_
  refine zq_iald hc hH (by rfl) 34 (oka_i (sj (P := fun i => oka 79 1 34 (21 + 8 * i)) hj (by decide +kernel))) (vp_in_nI (by omega) (by decide)) ?_
  rw [nI_clamp (by omega)]
  rw [ui_o (by omega)]
  refine z_rcs hc hH 2 (pc' := 26) (lv' := [(0, .ref (19 + 8 * j)), (1, .int (nI k)), (2, .int n)]) (st' := [.int ((μ.1 (21 + 8 * j) k) + n), .int (nI k), .ref (21 + 8 * j)]) (μ' := z_ui μ (20 + 8 * j) k ((μ.1 (20 + 8 * j) k) + n)) (by rfl) ?_
  refine zq_iast hc hH (by rfl) 34 (oka_i (sj (P := fun i => oka 79 1 34 (21 + 8 * i)) hj (by decide +kernel))).2 (vp_in_nI (by omega) (by decide)) ?_
  rw [nI_clamp (by omega)]
  show Z 0 27 [(0, .ref (19 + 8 * j)), (1, .int (nI k)), (2, .int n)] [] (z_ui (z_ui μ (20 + 8 * j) k ((μ.1 (20 + 8 * j) k) + n)) (21 + 8 * j) k ((μ.1 (21 + 8 * j) k) + n))
  refine z_rcs hc hH 2 (pc' := 29) (lv' := [(0, .ref (19 + 8 * j)), (1, .int (nI k)), (2, .int n)]) (st' := [.ref (19 + 8 * j), .ref (19 + 8 * j)]) (μ' := z_ui (z_ui μ (20 + 8 * j) k ((μ.1 (20 + 8 * j) k) + n)) (21 + 8 * j) k ((μ.1 (21 + 8 * j) k) + n)) (by rfl) ?_
  refine zq_gfi hc hH (by rfl) (ci := 2) (f := 5) (by rfl) (sj (P := fun i => okf 79 2 5 (19 + 8 * i)) hj (by decide +kernel)) (by rfl) ?_
  rw [ui_o (by omega), ui_o (by omega)]
  refine z_rcs hc hH 2 (pc' := 34) (lv' := [(0, .ref (19 + 8 * j)), (1, .int (nI k)), (2, .int n)]) (st' := [.int ((μ.1 (19 + 8 * j) 5) + n), .ref (19 + 8 * j)]) (μ' := z_ui (z_ui μ (20 + 8 * j) k ((μ.1 (20 + 8 * j) k) + n)) (21 + 8 * j) k ((μ.1 (21 + 8 * j) k) + n)) (by rfl) ?_
  refine zq_pfi hc hH (by rfl) (ci := 2) (f := 5) (by rfl) (sj (P := fun i => okf 79 2 5 (19 + 8 * i)) hj (by decide +kernel)) (by rfl) ?_
  show Z 0 37 [(0, .ref (19 + 8 * j)), (1, .int (nI k)), (2, .int n)] [] (z_ui (z_ui (z_ui μ (20 + 8 * j) k ((μ.1 (20 + 8 * j) k) + n)) (21 + 8 * j) k ((μ.1 (21 + 8 * j) k) + n)) (19 + 8 * j) 5 ((μ.1 (19 + 8 * j) 5) + n))
  exact hr 0 37 _ _ _ none (by decide +kernel) (by rfl) (⟨rfl, rfl⟩)
theorem gc_take (d : Nat) (hd : 3 ≤ d) (μ : zM) (j : Nat) (hj : j < 4) (k : Nat) (hk : k < 34) (n : Int32) : z_C d mi_X3_take [.ref (19 + 8 * j), .int (nI k), .int n] μ (fun r μ' => r = none ∧ μ' = pS μ j k (-n)) := by
  refine z_C_in (by decide) (by omega) (fun d' Z ed hc hr => ?_)
  have hH : zH mi_X3_take zc_X3_take 79 3 3 := ⟨by rfl, by rfl, by rfl, by rfl⟩
  refine z_rcs hc hH 4 (pc' := 4) (lv' := [(0, .ref (19 + 8 * j)), (1, .int (nI k)), (2, .int n)]) (st' := [.int (-n), .int (nI k), .ref (19 + 8 * j)]) (μ' := μ) (by rfl) ?_
  refine zq_call hc (z_clv (by rfl) (by rfl) (by rfl) (by rfl) (by rfl) (by rfl) (sj (P := fun i => okr 79 2 (19 + 8 * i)) hj (by decide +kernel)) (by rfl) (by rfl)) (gc_put d' (by omega) μ j hj k hk (-n)) (by decide +kernel) (fun r9 μ9 hq => ?_)
  obtain ⟨rfl, rfl⟩ := hq
  show Z 0 7 [(0, .ref (19 + 8 * j)), (1, .int (nI k)), (2, .int n)] [] (pS μ j k (-n))
  exact hr 0 7 _ _ _ none (by decide +kernel) (by rfl) (⟨rfl, rfl⟩)

/-! the game: throwing, letting go -/
set_option maxRecDepth 8000
theorem kn_l0 {n : Nat} (h : n < 2147483648) : decide (nI n < 0) = false := decide_eq_false (by rw [Int32.lt_iff_toInt_lt, nI_toInt h, show (0 : Int32).toInt = 0 from rfl]; omega)
theorem kn_le {n m : Nat} {M : Int32} (hM : M.toInt = (m : Int)) (h : n < 2147483648) (hm : n < m) : decide (M ≤ nI n) = false := decide_eq_false (by rw [Int32.le_iff_toInt_le, nI_toInt h, hM]; omega)
theorem kn_lt {n m : Nat} {M : Int32} (hM : M.toInt = (m : Int)) (h : n < 2147483648) (hm : n < m) : decide (nI n < M) = true := decide_eq_true (by rw [Int32.lt_iff_toInt_lt, nI_toInt h, hM]; omega)
theorem gc_empty (d : Nat) (hd : 1 ≤ d) (μ : zM) (j : Nat) (hj : j < 4) : z_C d mi_X3_empty [.ref (19 + 8 * j)] μ (fun r μ' => r = none ∧ (∀ k, k < 34 → μ'.1 (20 + 8 * j) k = 0 ∧ μ'.1 (21 + 8 * j) k = 0) ∧ μ'.1 (19 + 8 * j) 4 = 0 ∧ μ'.1 (19 + 8 * j) 5 = 0 ∧ (∀ r k, r ≠ 20 + 8 * j → r ≠ 21 + 8 * j → ¬ (r = 19 + 8 * j ∧ (k = 4 ∨ k = 5)) → μ'.1 r k = μ.1 r k) ∧ μ'.2.1 = μ.2.1) := by
  refine z_C_mono (at_N hj (by decide) (sg9 hj rfl) (fc_X3_empty d hd (sMm j μ))) (fun r μ' z => ⟨z.1, ?_⟩)
  obtain ⟨-, h1, h2, h3, h4, h5⟩ := z
  have hs : ∀ r, sgm j (sgm j r) = r := fun r => (RN_sgm j hj).1 r
  have q := sgm_r j hj
  refine ⟨fun k hk => ?_, ?_, ?_, fun r k a1 a2 a3 => ?_, ?_⟩
  · have := h1 k hk; rw [sM10 hj, sM11 hj] at this; exact this
  · rw [sM9 hj] at h2; exact h2
  · rw [sM9 hj] at h3; exact h3
  · have e : (sMm j μ').1 (sgm j r) k = (sMm j μ).1 (sgm j r) k := by
      refine h4 (sgm j r) k (fun e => a1 ?_) (fun e => a2 ?_) (fun e => a3 ⟨?_, e.2⟩)
      · rw [← hs r, e, q.2.1]
      · rw [← hs r, e, q.2.2.1]
      · rw [← hs r, e.1, q.1]
    show μ'.1 r k = μ.1 r k
    have e2 : μ'.1 (sgm j (sgm j r)) k = μ.1 (sgm j (sgm j r)) k := e
    rw [hs r] at e2
    exact e2
  · have e : (sMm j μ').2.1 = (sMm j μ).2.1 := by rw [h5]
    funext r k
    have e2 : (sMm j μ').2.1 (sgm j r) k = (sMm j μ).2.1 (sgm j r) k := by rw [e]
    have e3 : μ'.2.1 (sgm j (sgm j r)) k = μ.2.1 (sgm j (sgm j r)) k := e2
    rw [hs r] at e3
    exact e3
def tT (μ : zM) (j k q : Nat) : zM := z_uj (z_ui (z_ui μ (24 + 8 * j) q (nI k)) (18 + 8 * j) 2 (nI (q + 1))) (18 + 8 * j) 3 ((μ.2.1 (18 + 8 * j) 3) ||| (1 <<< ((nI k).toInt64 &&& 63)))
theorem gc_throwTile (d : Nat) (hd : 1 ≤ d) (μ : zM) (j : Nat) (hj : j < 4) (k q : Nat) (hk : k < 34) (hq : q < 86) (e2 : μ.1 (18 + 8 * j) 2 = nI q) : z_C d mi_X2_throwTile [.ref (18 + 8 * j), .int (nI k)] μ (fun r μ' => r = none ∧ μ' = tT μ j k q) := by
  refine z_C_in (by decide) (by omega) (fun d' Z ed hc hr => ?_)
  have hH : zH mi_X2_throwTile zc_X2_throwTile 79 2 2 := ⟨by rfl, by rfl, by rfl, by rfl⟩
  refine z_rcs hc hH 1 (pc' := 1) (lv' := [(0, .ref (18 + 8 * j)), (1, .int (nI k))]) (st' := [.ref (18 + 8 * j)]) (μ' := μ) (by rfl) ?_
  refine zq_gfi hc hH (by rfl) (ci := 1) (f := 2) (by rfl) (sj (P := fun i => okf 79 1 2 (18 + 8 * i)) hj (by decide +kernel)) (by rfl) ?_
  rw [e2]
  refine zq_if hc hH (by rfl) (tg := 16) (by rfl) (fun h1 => ?_) (fun h1 => ?_)
  · have h1 : (decide ((nI q) < 0)) = true := decide_eq_true (cm_lt.mp h1)
    exact absurd (Eq.trans (Eq.symm (kn_l0 (by omega))) h1) (by decide)
  · have h1 : (decide ((nI q) < 0)) = false := decide_eq_false (cn_lt.mp h1)
    refine z_rcs hc hH 1 (pc' := 8) (lv' := [(0, .ref (18 + 8 * j)), (1, .int (nI k))]) (st' := [.ref (18 + 8 * j)]) (μ' := μ) (by rfl) ?_
    refine zq_gfi hc hH (by rfl) (ci := 1) (f := 2) (by rfl) (sj (P := fun i => okf 79 1 2 (18 + 8 * i)) hj (by decide +kernel)) (by rfl) ?_
    rw [e2]
    refine z_rcs hc hH 1 (pc' := 13) (lv' := [(0, .ref (18 + 8 * j)), (1, .int (nI k))]) (st' := [.int 86, .int (nI q)]) (μ' := μ) (by rfl) ?_
    refine zq_ic hc hH (by rfl) (tg := 17) (by rfl) (fun h2 => ?_) (fun h2 => ?_)
    · have h2 : (decide ((nI q) < 86)) = true := decide_eq_true (cm_lt.mp h2)
      refine z_rcs hc hH 1 (pc' := 18) (lv' := [(0, .ref (18 + 8 * j)), (1, .int (nI k))]) (st' := [.ref (18 + 8 * j)]) (μ' := μ) (by rfl) ?_
      refine zq_gfr hc hH (by rfl) (ci := 1) (f := 1) (q := 24 + 8 * j) (by rfl) (sj (P := fun i => okf 79 1 1 (18 + 8 * i)) hj (by decide +kernel)) (by rfl) (sj (P := fun i => Nat.beq (z_gr (18 + 8 * i) 1) (24 + 8 * i)) hj (by decide +kernel)) ?_
      refine z_rcs hc hH 1 (pc' := 22) (lv' := [(0, .ref (18 + 8 * j)), (1, .int (nI k))]) (st' := [.ref (18 + 8 * j), .ref (24 + 8 * j)]) (μ' := μ) (by rfl) ?_
      refine zq_gfi hc hH (by rfl) (ci := 1) (f := 2) (by rfl) (sj (P := fun i => okf 79 1 2 (18 + 8 * i)) hj (by decide +kernel)) (by rfl) ?_
      rw [e2]
      refine z_rcs hc hH 1 (pc' := 26) (lv' := [(0, .ref (18 + 8 * j)), (1, .int (nI k))]) (st' := [.int (nI k), .int (nI q), .ref (24 + 8 * j)]) (μ' := μ) (by rfl) ?_
      refine zq_iast hc hH (by rfl) 86 (oka_i (sj (P := fun i => oka 79 1 86 (24 + 8 * i)) hj (by decide +kernel))).2 (vp_in_nI (by omega) (by decide)) ?_
      rw [nI_clamp (by omega)]
      show Z 0 27 [(0, .ref (18 + 8 * j)), (1, .int (nI k))] [] (z_ui μ (24 + 8 * j) q (nI k))
      refine z_rcs hc hH 2 (pc' := 29) (lv' := [(0, .ref (18 + 8 * j)), (1, .int (nI k))]) (st' := [.ref (18 + 8 * j), .ref (18 + 8 * j)]) (μ' := z_ui μ (24 + 8 * j) q (nI k)) (by rfl) ?_
      refine zq_gfi hc hH (by rfl) (ci := 1) (f := 2) (by rfl) (sj (P := fun i => okf 79 1 2 (18 + 8 * i)) hj (by decide +kernel)) (by rfl) ?_
      rw [ui_o (by omega)]
      rw [e2]
      refine z_rcs hc hH 2 (pc' := 34) (lv' := [(0, .ref (18 + 8 * j)), (1, .int (nI k))]) (st' := [.int ((nI q) + 1), .ref (18 + 8 * j)]) (μ' := z_ui μ (24 + 8 * j) q (nI k)) (by rfl) ?_
      rw [nI_s1]
      refine zq_pfi hc hH (by rfl) (ci := 1) (f := 2) (by rfl) (sj (P := fun i => okf 79 1 2 (18 + 8 * i)) hj (by decide +kernel)) (by rfl) ?_
      show Z 0 37 [(0, .ref (18 + 8 * j)), (1, .int (nI k))] [] (z_ui (z_ui μ (24 + 8 * j) q (nI k)) (18 + 8 * j) 2 (nI (q + 1)))
      refine z_rcs hc hH 2 (pc' := 39) (lv' := [(0, .ref (18 + 8 * j)), (1, .int (nI k))]) (st' := [.ref (18 + 8 * j), .ref (18 + 8 * j)]) (μ' := z_ui (z_ui μ (24 + 8 * j) q (nI k)) (18 + 8 * j) 2 (nI (q + 1))) (by rfl) ?_
      refine zq_gfl hc hH (by rfl) (ci := 1) (f := 3) (by rfl) (sj (P := fun i => okf 79 1 3 (18 + 8 * i)) hj (by decide +kernel)) (by rfl) ?_
      rw [ui_j, ui_j]
      refine z_rcs hc hH 4 (pc' := 46) (lv' := [(0, .ref (18 + 8 * j)), (1, .int (nI k))]) (st' := [.long ((μ.2.1 (18 + 8 * j) 3) ||| (1 <<< ((nI k).toInt64 &&& 63))), .ref (18 + 8 * j)]) (μ' := z_ui (z_ui μ (24 + 8 * j) q (nI k)) (18 + 8 * j) 2 (nI (q + 1))) (by rfl) ?_
      refine zq_pfl hc hH (by rfl) (ci := 1) (f := 3) (by rfl) (sj (P := fun i => okf 79 1 3 (18 + 8 * i)) hj (by decide +kernel)) (by rfl) ?_
      show Z 0 49 [(0, .ref (18 + 8 * j)), (1, .int (nI k))] [] (z_uj (z_ui (z_ui μ (24 + 8 * j) q (nI k)) (18 + 8 * j) 2 (nI (q + 1))) (18 + 8 * j) 3 ((μ.2.1 (18 + 8 * j) 3) ||| (1 <<< ((nI k).toInt64 &&& 63))))
      exact hr 0 49 _ _ _ none (by decide +kernel) (by rfl) (⟨rfl, rfl⟩)
    · have h2 : (decide ((nI q) < 86)) = false := decide_eq_false (cn_lt.mp h2)
      exact absurd (Eq.trans (Eq.symm (kn_lt (m := 86) rfl (by omega) (by omega))) h2) (by decide)
theorem gc_mayBet (d : Nat) (hd : 8 ≤ d) (μ : zM) (t : Nat) (ht4 : t < 4) (q : Nat) (hq : q ≤ 4) (e4 : μ.1 (19 + 8 * t) 4 = nI q) (wt : Int64) (hwt : ∀ d, 7 ≤ d → z_C d mi_X3_waiting [.ref (19 + 8 * t)] μ (zR μ (.long wt))) : z_C d mi_X6_mayBet [.ref 0, .ref (18 + 8 * t)] μ (zR μ (.int (nB ((decide ((μ.1 (18 + 8 * t) 5) = 0)) && (!(xOr (μ.1 (22 + 8 * t)) q) && (!(decide ((μ.1 (18 + 8 * t) 4) < 1000)) && (!(decide ((xLf μ) < 4)) && (!(decide ((lg_cmp wt 0) = 0)))))))))) := by
  refine z_C_in (by decide) (by omega) (fun d' Z ed hc hr => ?_)
  have hH : zH mi_X6_mayBet zc_X6_mayBet 79 6 2 := ⟨by rfl, by rfl, by rfl, by rfl⟩
  refine z_rcs hc hH 1 (pc' := 1) (lv' := [(0, .ref 0), (1, .ref (18 + 8 * t))]) (st' := [.ref (18 + 8 * t)]) (μ' := μ) (by rfl) ?_
  refine zq_gfi hc hH (by rfl) (ci := 1) (f := 5) (by rfl) (sj (P := fun i => okf 79 1 5 (18 + 8 * i)) ht4 (by decide +kernel)) (by rfl) ?_
  have hJ1 : Z 0 55 [(0, .ref 0), (1, .ref (18 + 8 * t))] [.int (nB ((decide ((μ.1 (18 + 8 * t) 5) = 0)) && (!(xOr (μ.1 (22 + 8 * t)) q) && (!(decide ((μ.1 (18 + 8 * t) 4) < 1000)) && (!(decide ((xLf μ) < 4)) && (!(decide ((lg_cmp wt 0) = 0))))))))] μ := by
    generalize hee2 : ((decide ((μ.1 (18 + 8 * t) 5) = 0)) && (!(xOr (μ.1 (22 + 8 * t)) q) && (!(decide ((μ.1 (18 + 8 * t) 4) < 1000)) && (!(decide ((xLf μ) < 4)) && (!(decide ((lg_cmp wt 0) = 0))))))) = ee2
    exact hr 0 55 _ _ _ (some (.int (nB ee2))) (by decide +kernel) ((fun b : Bool => (by cases b <;> rfl : z_rn mi_X6_mayBet 55 [.int (nB b)] = some (some (.int (nB b))))) ee2) (⟨rfl, (by subst hee2; rfl)⟩)
  refine zq_if hc hH (by rfl) (tg := 54) (by rfl) (fun h3 => ?_) (fun h3 => ?_)
  · have h3 : (decide ((μ.1 (18 + 8 * t) 5) = 0)) = false := decide_eq_false (cm_ne.mp h3)
    refine z_rcs hc hH 1 (pc' := 55) (lv' := [(0, .ref 0), (1, .ref (18 + 8 * t))]) (st' := [.int 0]) (μ' := μ) (by rfl) ?_
    exact zJ hJ1 rfl (by first | rfl | simp only [h3, lb_f, Int64.or_zero, Int32.add_zero, nB_t, nB_f, Bool.not_true, Bool.not_false, Bool.and_true, Bool.true_and, Bool.false_and, Bool.and_false, Bool.or_true, Bool.true_or, Bool.false_or, Bool.or_false, cond_true, cond_false]) rfl
  · have h3 : (decide ((μ.1 (18 + 8 * t) 5) = 0)) = true := decide_eq_true (cn_ne.mp h3)
    refine z_rcs hc hH 1 (pc' := 8) (lv' := [(0, .ref 0), (1, .ref (18 + 8 * t))]) (st' := [.ref (18 + 8 * t)]) (μ' := μ) (by rfl) ?_
    refine zq_gfr hc hH (by rfl) (ci := 1) (f := 0) (q := 19 + 8 * t) (by rfl) (sj (P := fun i => okf 79 1 0 (18 + 8 * i)) ht4 (by decide +kernel)) (by rfl) (sj (P := fun i => Nat.beq (z_gr (18 + 8 * i) 0) (19 + 8 * i)) ht4 (by decide +kernel)) ?_
    refine zq_call hc (z_clv (by rfl) (by rfl) (by rfl) (by rfl) (by rfl) (by rfl) (sj (P := fun i => okr 79 2 (19 + 8 * i)) ht4 (by decide +kernel)) (by rfl) (by rfl)) (gc_isOpen d' (by omega) μ t ht4 q hq e4) (by decide +kernel) (fun r9 μ9 hq => ?_)
    obtain ⟨hμ9, rfl⟩ := hq
    rw [hμ9]
    clear hμ9 μ9
    show Z 0 14 [(0, .ref 0), (1, .ref (18 + 8 * t))] [.int (nB (xOr (μ.1 (22 + 8 * t)) q))] μ
    refine zq_if hc hH (by rfl) (tg := 54) (by rfl) (fun h4 => ?_) (fun h4 => ?_)
    · have h4 : (xOr (μ.1 (22 + 8 * t)) q) = true := nB_n.mp (cm_ne.mp h4)
      refine z_rcs hc hH 1 (pc' := 55) (lv' := [(0, .ref 0), (1, .ref (18 + 8 * t))]) (st' := [.int 0]) (μ' := μ) (by rfl) ?_
      exact zJ hJ1 rfl (by first | rfl | simp only [h3, h4, lb_f, Int64.or_zero, Int32.add_zero, nB_t, nB_f, Bool.not_true, Bool.not_false, Bool.and_true, Bool.true_and, Bool.false_and, Bool.and_false, Bool.or_true, Bool.true_or, Bool.false_or, Bool.or_false, cond_true, cond_false]) rfl
    · have h4 : (xOr (μ.1 (22 + 8 * t)) q) = false := nB_z.mp (cn_ne.mp h4)
      refine z_rcs hc hH 1 (pc' := 18) (lv' := [(0, .ref 0), (1, .ref (18 + 8 * t))]) (st' := [.ref (18 + 8 * t)]) (μ' := μ) (by rfl) ?_
      refine zq_gfi hc hH (by rfl) (ci := 1) (f := 4) (by rfl) (sj (P := fun i => okf 79 1 4 (18 + 8 * i)) ht4 (by decide +kernel)) (by rfl) ?_
      refine z_rcs hc hH 1 (pc' := 24) (lv' := [(0, .ref 0), (1, .ref (18 + 8 * t))]) (st' := [.int 1000, .int (μ.1 (18 + 8 * t) 4)]) (μ' := μ) (by rfl) ?_
      refine zq_ic hc hH (by rfl) (tg := 54) (by rfl) (fun h5 => ?_) (fun h5 => ?_)
      · have h5 : (decide ((μ.1 (18 + 8 * t) 4) < 1000)) = true := decide_eq_true (cm_lt.mp h5)
        refine z_rcs hc hH 1 (pc' := 55) (lv' := [(0, .ref 0), (1, .ref (18 + 8 * t))]) (st' := [.int 0]) (μ' := μ) (by rfl) ?_
        exact zJ hJ1 rfl (by first | rfl | simp only [h3, h4, h5, lb_f, Int64.or_zero, Int32.add_zero, nB_t, nB_f, Bool.not_true, Bool.not_false, Bool.and_true, Bool.true_and, Bool.false_and, Bool.and_false, Bool.or_true, Bool.true_or, Bool.false_or, Bool.or_false, cond_true, cond_false]) rfl
      · have h5 : (decide ((μ.1 (18 + 8 * t) 4) < 1000)) = false := decide_eq_false (cn_lt.mp h5)
        refine z_rcs hc hH 1 (pc' := 28) (lv' := [(0, .ref 0), (1, .ref (18 + 8 * t))]) (st' := [.ref 0]) (μ' := μ) (by rfl) ?_
        refine zq_gfr hc hH (by rfl) (ci := 5) (f := 1) (q := 2) (by rfl) (by decide +kernel) (by rfl) (by decide +kernel) ?_
        refine zq_call hc (by rfl) (gc_left d' (by omega) μ) (by decide +kernel) (fun r9 μ9 hq => ?_)
        obtain ⟨hμ9, rfl⟩ := hq
        rw [hμ9]
        clear hμ9 μ9
        show Z 0 34 [(0, .ref 0), (1, .ref (18 + 8 * t))] [.int (xLf μ)] μ
        refine z_rcs hc hH 1 (pc' := 35) (lv' := [(0, .ref 0), (1, .ref (18 + 8 * t))]) (st' := [.int 4, .int (xLf μ)]) (μ' := μ) (by rfl) ?_
        refine zq_ic hc hH (by rfl) (tg := 54) (by rfl) (fun h6 => ?_) (fun h6 => ?_)
        · have h6 : (decide ((xLf μ) < 4)) = true := decide_eq_true (cm_lt.mp h6)
          refine z_rcs hc hH 1 (pc' := 55) (lv' := [(0, .ref 0), (1, .ref (18 + 8 * t))]) (st' := [.int 0]) (μ' := μ) (by rfl) ?_
          exact zJ hJ1 rfl (by first | rfl | simp only [h3, h4, h5, h6, lb_f, Int64.or_zero, Int32.add_zero, nB_t, nB_f, Bool.not_true, Bool.not_false, Bool.and_true, Bool.true_and, Bool.false_and, Bool.and_false, Bool.or_true, Bool.true_or, Bool.false_or, Bool.or_false, cond_true, cond_false]) rfl
        · have h6 : (decide ((xLf μ) < 4)) = false := decide_eq_false (cn_lt.mp h6)
          refine z_rcs hc hH 1 (pc' := 39) (lv' := [(0, .ref 0), (1, .ref (18 + 8 * t))]) (st' := [.ref (18 + 8 * t)]) (μ' := μ) (by rfl) ?_
          refine zq_gfr hc hH (by rfl) (ci := 1) (f := 0) (q := 19 + 8 * t) (by rfl) (sj (P := fun i => okf 79 1 0 (18 + 8 * i)) ht4 (by decide +kernel)) (by rfl) (sj (P := fun i => Nat.beq (z_gr (18 + 8 * i) 0) (19 + 8 * i)) ht4 (by decide +kernel)) ?_
          refine zq_call hc (z_clv (by rfl) (by rfl) (by rfl) (by rfl) (by rfl) (by rfl) (sj (P := fun i => okr 79 2 (19 + 8 * i)) ht4 (by decide +kernel)) (by rfl) (by rfl)) (hwt d' (by omega)) (by decide +kernel) (fun r9 μ9 hq => ?_)
          obtain ⟨hμ9, rfl⟩ := hq
          rw [hμ9]
          clear hμ9 μ9
          show Z 0 45 [(0, .ref 0), (1, .ref (18 + 8 * t))] [.long wt] μ
          refine z_rcs hc hH 2 (pc' := 47) (lv' := [(0, .ref 0), (1, .ref (18 + 8 * t))]) (st' := [.int (lg_cmp wt 0)]) (μ' := μ) (by rfl) ?_
          refine zq_if hc hH (by rfl) (tg := 54) (by rfl) (fun h7 => ?_) (fun h7 => ?_)
          · have h7 : (decide ((lg_cmp wt 0) = 0)) = true := decide_eq_true (cm_eq9.mp h7)
            refine z_rcs hc hH 1 (pc' := 55) (lv' := [(0, .ref 0), (1, .ref (18 + 8 * t))]) (st' := [.int 0]) (μ' := μ) (by rfl) ?_
            exact zJ hJ1 rfl (by first | rfl | simp only [h3, h4, h5, h6, h7, lb_f, Int64.or_zero, Int32.add_zero, nB_t, nB_f, Bool.not_true, Bool.not_false, Bool.and_true, Bool.true_and, Bool.false_and, Bool.and_false, Bool.or_true, Bool.true_or, Bool.false_or, Bool.or_false, cond_true, cond_false]) rfl
          · have h7 : (decide ((lg_cmp wt 0) = 0)) = false := decide_eq_false (cn_eq.mp h7)
            refine z_rcs hc hH 2 (pc' := 55) (lv' := [(0, .ref 0), (1, .ref (18 + 8 * t))]) (st' := [.int 1]) (μ' := μ) (by rfl) ?_
            exact zJ hJ1 rfl (by first | rfl | simp only [h3, h4, h5, h6, h7, lb_f, Int64.or_zero, Int32.add_zero, nB_t, nB_f, Bool.not_true, Bool.not_false, Bool.and_true, Bool.true_and, Bool.false_and, Bool.and_false, Bool.or_true, Bool.true_or, Bool.false_or, Bool.or_false, cond_true, cond_false]) rfl

/-! the game: add, run of the reference -/
set_option maxRecDepth 8000
noncomputable def adF (μ : zM) (t k j : Nat) : Bool := decide (μ.1 62 (4 * t + j) = 1) && decide (μ.1 63 (4 * t + j) = nI k)
theorem gm_addF (d : Nat) (hd : 3 ≤ d) (μ : zM) (t : Nat) (ht4 : t < 4) (ht : μ.1 50 45 = nI t) (k q i : Nat) (hk : k < 34) (hq : q ≤ 4) (e64 : μ.1 64 t = nI q) (mm : Bool) (hmm : ∀ d, 2 ≤ d → z_C d mi_X7_mayMake [.ref 50] (z_ui μ 50 0 0) (zR (z_ui μ 50 0 0) (.int (nB mm)))) (hi : i < q) (hfi : adF μ t k i = true) (hfj : ∀ j, j < i → adF μ t k j = false) : z_C d mi_X7_add [.ref 50, .int (nI k)] μ (fun r μ' => ((mm && !decide (μ.1 60 (34 * t + k) = 0)) = true ∧ r = some (.int 1) ∧ μ' = z_ui (z_ui (z_giv (z_ui (z_ui μ 50 0 0) 62 (4 * t + i) 2) t k (-1)) 50 49 (nI k)) 50 44 3) ∨ ((mm && !decide (μ.1 60 (34 * t + k) = 0)) = false ∧ r = some (.int 0) ∧ μ' = z_ui μ 50 0 0)) := by
  refine z_C_in (by decide) (by omega) (fun d' Z ed hc hr => ?_)
  have hH : zH mi_X7_add zt_X7_add 79 7 3 := hh_X7_add
  refine z_rcs hc hH 2 (pc' := 2) (lv' := [(0, .ref 50), (1, .int (nI k))]) (st' := [.int 0, .ref 50]) (μ' := μ) (by rfl) ?_
  refine zq_pfi hc hH (by rfl) (ci := 6) (f := 0) (by rfl) (by decide +kernel) (by rfl) ?_
  show Z 0 5 [(0, .ref 50), (1, .int (nI k))] [] (z_ui μ 50 0 0)
  refine z_rcs hc hH 1 (pc' := 6) (lv' := [(0, .ref 50), (1, .int (nI k))]) (st' := [.ref 50]) (μ' := z_ui μ 50 0 0) (by rfl) ?_
  refine zq_call hc (z_cx_ok hH (by rfl)) (hmm d' (by omega)) (by decide +kernel) (fun r9 μ9 hq => ?_)
  obtain ⟨hμ9, rfl⟩ := hq
  rw [hμ9]
  clear hμ9 μ9
  show Z 0 9 [(0, .ref 50), (1, .int (nI k))] [.int (nB mm)] (z_ui μ 50 0 0)
  refine zq_if hc hH (by rfl) (tg := 31) (by rfl) (fun h1 => ?_) (fun h1 => ?_)
  · have h1 : (mm) = false := nB_z.mp (cm_eq9.mp h1)
    refine z_rcs hc hH 1 (pc' := 32) (lv' := [(0, .ref 50), (1, .int (nI k))]) (st' := [.int 0]) (μ' := z_ui μ 50 0 0) (by rfl) ?_
    exact hr 0 32 _ _ _ (some (.int 0)) (by decide +kernel) (z_rx_ok hH (by rfl)) (Or.inr ⟨by simp only [h1, Bool.true_or, Bool.true_and, Bool.and_true, Bool.false_and, Bool.and_false, Bool.not_true, Bool.not_false, Bool.or_true, Bool.or_false, Bool.false_or, cond_true, cond_false], rfl, rfl⟩)
  · have h1 : (mm) = true := nB_n.mp (cn_eq.mp h1)
    refine z_rcs hc hH 1 (pc' := 13) (lv' := [(0, .ref 50), (1, .int (nI k))]) (st' := [.int (nI k)]) (μ' := z_ui μ 50 0 0) (by rfl) ?_
    refine zq_call hc (z_cx_ok hH (by rfl)) (gm_isKindN d' (by omega) (z_ui μ 50 0 0) k hk) (by decide +kernel) (fun r9 μ9 hq => ?_)
    obtain ⟨hμ9, rfl⟩ := hq
    rw [hμ9]
    clear hμ9 μ9
    show Z 0 16 [(0, .ref 50), (1, .int (nI k))] [.int 1] (z_ui μ 50 0 0)
    refine z_rcs hc hH 3 (pc' := 21) (lv' := [(0, .ref 50), (1, .int (nI k))]) (st' := [.ref 50, .ref 50]) (μ' := z_ui μ 50 0 0) (by rfl) ?_
    refine zq_gfi hc hH (by rfl) (ci := 6) (f := 45) (by rfl) (by decide +kernel) (by rfl) ?_
    refine zV1 (Z := Z) (ui_k (by first | decide | omega)) ?_
    rw [ht]
    refine z_rcs hc hH 1 (pc' := 25) (lv' := [(0, .ref 50), (1, .int (nI k))]) (st' := [.int (nI k), .int (nI t), .ref 50]) (μ' := z_ui μ 50 0 0) (by rfl) ?_
    refine zq_call hc (z_cx_ok hH (by rfl)) (fc_X7_has_ d' (by omega) (z_ui μ 50 0 0) t k ht4 hk) (by decide +kernel) (fun r9 μ9 hq => ?_)
    obtain ⟨hμ9, rfl⟩ := hq
    rw [hμ9]
    clear hμ9 μ9
    rw [ui_o (by first | decide | omega)]
    show Z 0 28 [(0, .ref 50), (1, .int (nI k))] [.int (μ.1 60 (34 * t + k))] (z_ui μ 50 0 0)
    refine zq_if hc hH (by rfl) (tg := 33) (by rfl) (fun h2 => ?_) (fun h2 => ?_)
    · have h2 : (decide ((μ.1 60 (34 * t + k)) = 0)) = false := decide_eq_false (cm_ne.mp h2)
      refine z_rcs hc hH 2 (pc' := 35) (lv' := [(2, .int 0), (0, .ref 50), (1, .int (nI k))]) (st' := []) (μ' := z_ui μ 50 0 0) (by rfl) ?_
      have hL : ∀ n j, j + n = i → Z 0 35 [(2, .int (nI j)), (0, .ref 50), (1, .int (nI k))] [] (z_ui μ 50 0 0) := by
        intro n
        induction n with
        | zero =>
          intro j hj
          have hj : j = i := by omega
          refine z_rcs hc hH 2 (pc' := 37) (lv' := [(2, .int (nI j)), (0, .ref 50), (1, .int (nI k))]) (st' := [.ref 50, .int (nI j)]) (μ' := z_ui μ 50 0 0) (by rfl) ?_
          refine zq_gfr hc hH (by rfl) (ci := 6) (f := 32) (q := 64) (by rfl) (by decide +kernel) (by rfl) (by decide +kernel) ?_
          refine z_rcs hc hH 1 (pc' := 41) (lv' := [(2, .int (nI j)), (0, .ref 50), (1, .int (nI k))]) (st' := [.ref 50, .ref 64, .int (nI j)]) (μ' := z_ui μ 50 0 0) (by rfl) ?_
          refine zq_gfi hc hH (by rfl) (ci := 6) (f := 45) (by rfl) (by decide +kernel) (by rfl) ?_
          refine zV1 (Z := Z) (ui_k (by first | decide | omega)) ?_
          rw [ht]
          refine zq_iald hc hH (by rfl) 4 (oka_i (by decide +kernel)) (vp_in_nI (by omega) (by decide)) ?_
          rw [nI_clamp (by omega)]
          refine zV1 (Z := Z) (ui_o (by first | decide | omega)) ?_
          rw [e64]
          refine zq_ic hc hH (by rfl) (tg := 127) (by rfl) (fun h3 => ?_) (fun h3 => ?_)
          · have h3 : (decide ((nI q) ≤ (nI j))) = true := decide_eq_true (cm_ge.mp h3)
            exact absurd (Eq.trans (Eq.symm (kn_nlf (by omega) (by omega) (by omega))) h3) (by decide)
          · have h3 : (decide ((nI q) ≤ (nI j))) = false := decide_eq_false (cn_ge.mp h3)
            refine z_rcs hc hH 1 (pc' := 49) (lv' := [(2, .int (nI j)), (0, .ref 50), (1, .int (nI k))]) (st' := [.ref 50]) (μ' := z_ui μ 50 0 0) (by rfl) ?_
            refine zq_gfr hc hH (by rfl) (ci := 6) (f := 30) (q := 62) (by rfl) (by decide +kernel) (by rfl) (by decide +kernel) ?_
            refine z_rcs hc hH 2 (pc' := 54) (lv' := [(2, .int (nI j)), (0, .ref 50), (1, .int (nI k))]) (st' := [.ref 50, .int 4, .ref 62]) (μ' := z_ui μ 50 0 0) (by rfl) ?_
            refine zq_gfi hc hH (by rfl) (ci := 6) (f := 45) (by rfl) (by decide +kernel) (by rfl) ?_
            refine zV1 (Z := Z) (ui_k (by first | decide | omega)) ?_
            rw [ht]
            refine z_rcs hc hH 3 (pc' := 60) (lv' := [(2, .int (nI j)), (0, .ref 50), (1, .int (nI k))]) (st' := [.int ((4 * (nI t)) + (nI j)), .ref 62]) (μ' := z_ui μ 50 0 0) (by rfl) ?_
            rw [nI_k4]
            refine zq_iald hc hH (by rfl) 16 (oka_i (by decide +kernel)) (vp_in_nI (by omega) (by decide)) ?_
            rw [nI_clamp (by omega)]
            refine zV1 (Z := Z) (ui_o (by first | decide | omega)) ?_
            refine z_rcs hc hH 1 (pc' := 62) (lv' := [(2, .int (nI j)), (0, .ref 50), (1, .int (nI k))]) (st' := [.int 1, .int (μ.1 62 (4 * t + j))]) (μ' := z_ui μ 50 0 0) (by rfl) ?_
            refine zq_ic hc hH (by rfl) (tg := 121) (by rfl) (fun h4 => ?_) (fun h4 => ?_)
            · have h4 : (decide ((μ.1 62 (4 * t + j)) = 1)) = false := decide_eq_false (cm_ne.mp h4)
              exact absurd (show adF μ t k j = false from by simp only [adF, h4, Bool.true_or, Bool.true_and, Bool.and_true, Bool.false_and, Bool.and_false, Bool.not_true, Bool.not_false, Bool.or_true, Bool.or_false, Bool.false_or, cond_true, cond_false]) (by rw [(hj ▸ hfi : adF μ t k j = true)]; decide)
            · have h4 : (decide ((μ.1 62 (4 * t + j)) = 1)) = true := decide_eq_true (cn_ne.mp h4)
              refine z_rcs hc hH 1 (pc' := 66) (lv' := [(2, .int (nI j)), (0, .ref 50), (1, .int (nI k))]) (st' := [.ref 50]) (μ' := z_ui μ 50 0 0) (by rfl) ?_
              refine zq_gfr hc hH (by rfl) (ci := 6) (f := 31) (q := 63) (by rfl) (by decide +kernel) (by rfl) (by decide +kernel) ?_
              refine z_rcs hc hH 2 (pc' := 71) (lv' := [(2, .int (nI j)), (0, .ref 50), (1, .int (nI k))]) (st' := [.ref 50, .int 4, .ref 63]) (μ' := z_ui μ 50 0 0) (by rfl) ?_
              refine zq_gfi hc hH (by rfl) (ci := 6) (f := 45) (by rfl) (by decide +kernel) (by rfl) ?_
              refine zV1 (Z := Z) (ui_k (by first | decide | omega)) ?_
              rw [ht]
              refine z_rcs hc hH 3 (pc' := 77) (lv' := [(2, .int (nI j)), (0, .ref 50), (1, .int (nI k))]) (st' := [.int ((4 * (nI t)) + (nI j)), .ref 63]) (μ' := z_ui μ 50 0 0) (by rfl) ?_
              rw [nI_k4]
              refine zq_iald hc hH (by rfl) 16 (oka_i (by decide +kernel)) (vp_in_nI (by omega) (by decide)) ?_
              rw [nI_clamp (by omega)]
              refine zV1 (Z := Z) (ui_o (by first | decide | omega)) ?_
              refine z_rcs hc hH 1 (pc' := 79) (lv' := [(2, .int (nI j)), (0, .ref 50), (1, .int (nI k))]) (st' := [.int (nI k), .int (μ.1 63 (4 * t + j))]) (μ' := z_ui μ 50 0 0) (by rfl) ?_
              refine zq_ic hc hH (by rfl) (tg := 85) (by rfl) (fun h5 => ?_) (fun h5 => ?_)
              · have h5 : (decide ((μ.1 63 (4 * t + j)) = (nI k))) = true := decide_eq_true (cm_eq9.mp h5)
                refine z_rcs hc hH 1 (pc' := 86) (lv' := [(2, .int (nI j)), (0, .ref 50), (1, .int (nI k))]) (st' := [.ref 50]) (μ' := z_ui μ 50 0 0) (by rfl) ?_
                refine zq_gfr hc hH (by rfl) (ci := 6) (f := 30) (q := 62) (by rfl) (by decide +kernel) (by rfl) (by decide +kernel) ?_
                refine z_rcs hc hH 2 (pc' := 91) (lv' := [(2, .int (nI j)), (0, .ref 50), (1, .int (nI k))]) (st' := [.ref 50, .int 4, .ref 62]) (μ' := z_ui μ 50 0 0) (by rfl) ?_
                refine zq_gfi hc hH (by rfl) (ci := 6) (f := 45) (by rfl) (by decide +kernel) (by rfl) ?_
                refine zV1 (Z := Z) (ui_k (by first | decide | omega)) ?_
                rw [ht]
                refine z_rcs hc hH 3 (pc' := 97) (lv' := [(2, .int (nI j)), (0, .ref 50), (1, .int (nI k))]) (st' := [.int ((4 * (nI t)) + (nI j)), .ref 62]) (μ' := z_ui μ 50 0 0) (by rfl) ?_
                rw [nI_k4]
                refine z_rcs hc hH 1 (pc' := 98) (lv' := [(2, .int (nI j)), (0, .ref 50), (1, .int (nI k))]) (st' := [.int 2, .int (nI (4 * t + j)), .ref 62]) (μ' := z_ui μ 50 0 0) (by rfl) ?_
                refine zq_iast hc hH (by rfl) 16 (oka_i (by decide +kernel)).2 (vp_in_nI (by omega) (by decide)) ?_
                rw [nI_clamp (by omega)]
                show Z 0 99 [(2, .int (nI j)), (0, .ref 50), (1, .int (nI k))] [] (z_ui (z_ui μ 50 0 0) 62 (4 * t + j) 2)
                refine z_rcs0 hc hH 2 (pc' := 101) (lv' := [(2, .int (nI j)), (0, .ref 50), (1, .int (nI k))]) (st' := [.ref 50, .ref 50]) (by rfl) ?_
                refine zq_gfi hc hH (by rfl) (ci := 6) (f := 45) (by rfl) (by decide +kernel) (by rfl) ?_
                refine zV1 (Z := Z) (Eq.trans (ui_o (by first | decide | omega)) (ui_k (by first | decide | omega))) ?_
                rw [ht]
                refine z_rcs0 hc hH 2 (pc' := 106) (lv' := [(2, .int (nI j)), (0, .ref 50), (1, .int (nI k))]) (st' := [.int (-1), .int (nI k), .int (nI t), .ref 50]) (by rfl) ?_
                refine zq_call hc (z_cx_ok hH (by rfl)) (fc_X7_gives d' (by omega) (z_ui (z_ui μ 50 0 0) 62 (4 * t + j) 2) t k (-1) ht4 hk) (by decide +kernel) (fun r9 μ9 hq => ?_)
                obtain ⟨rfl, rfl⟩ := hq
                show Z 0 109 [(2, .int (nI j)), (0, .ref 50), (1, .int (nI k))] [] (z_giv (z_ui (z_ui μ 50 0 0) 62 (4 * t + j) 2) t k (-1))
                refine z_rcs0 hc hH 2 (pc' := 111) (lv' := [(2, .int (nI j)), (0, .ref 50), (1, .int (nI k))]) (st' := [.int (nI k), .ref 50]) (by rfl) ?_
                refine zq_pfi hc hH (by rfl) (ci := 6) (f := 49) (by rfl) (by decide +kernel) (by rfl) ?_
                show Z 0 114 [(2, .int (nI j)), (0, .ref 50), (1, .int (nI k))] [] (z_ui (z_giv (z_ui (z_ui μ 50 0 0) 62 (4 * t + j) 2) t k (-1)) 50 49 (nI k))
                refine z_rcs0 hc hH 2 (pc' := 116) (lv' := [(2, .int (nI j)), (0, .ref 50), (1, .int (nI k))]) (st' := [.int 3, .ref 50]) (by rfl) ?_
                refine zq_pfi hc hH (by rfl) (ci := 6) (f := 44) (by rfl) (by decide +kernel) (by rfl) ?_
                show Z 0 119 [(2, .int (nI j)), (0, .ref 50), (1, .int (nI k))] [] (z_ui (z_ui (z_giv (z_ui (z_ui μ 50 0 0) 62 (4 * t + j) 2) t k (-1)) 50 49 (nI k)) 50 44 3)
                refine z_rcs0 hc hH 1 (pc' := 120) (lv' := [(2, .int (nI j)), (0, .ref 50), (1, .int (nI k))]) (st' := [.int 1]) (by rfl) ?_
                exact hr 0 120 _ _ _ (some (.int 1)) (by decide +kernel) (z_rx_ok hH (by rfl)) (by rw [← hj]; exact Or.inl ⟨by simp only [h1, h2, Bool.true_or, Bool.true_and, Bool.and_true, Bool.false_and, Bool.and_false, Bool.not_true, Bool.not_false, Bool.or_true, Bool.or_false, Bool.false_or, cond_true, cond_false], rfl, rfl⟩)
              · have h5 : (decide ((μ.1 63 (4 * t + j)) = (nI k))) = false := decide_eq_false (cn_eq.mp h5)
                refine z_rcs hc hH 1 (pc' := 121) (lv' := [(2, .int (nI j)), (0, .ref 50), (1, .int (nI k))]) (st' := []) (μ' := z_ui μ 50 0 0) (by rfl) ?_
                exact absurd (show adF μ t k j = false from by simp only [adF, h4, h5, Bool.true_or, Bool.true_and, Bool.and_true, Bool.false_and, Bool.and_false, Bool.not_true, Bool.not_false, Bool.or_true, Bool.or_false, Bool.false_or, cond_true, cond_false]) (by rw [(hj ▸ hfi : adF μ t k j = true)]; decide)
        | succ n ih =>
          intro j hj
          refine z_rcs hc hH 2 (pc' := 37) (lv' := [(2, .int (nI j)), (0, .ref 50), (1, .int (nI k))]) (st' := [.ref 50, .int (nI j)]) (μ' := z_ui μ 50 0 0) (by rfl) ?_
          refine zq_gfr hc hH (by rfl) (ci := 6) (f := 32) (q := 64) (by rfl) (by decide +kernel) (by rfl) (by decide +kernel) ?_
          refine z_rcs hc hH 1 (pc' := 41) (lv' := [(2, .int (nI j)), (0, .ref 50), (1, .int (nI k))]) (st' := [.ref 50, .ref 64, .int (nI j)]) (μ' := z_ui μ 50 0 0) (by rfl) ?_
          refine zq_gfi hc hH (by rfl) (ci := 6) (f := 45) (by rfl) (by decide +kernel) (by rfl) ?_
          refine zV1 (Z := Z) (ui_k (by first | decide | omega)) ?_
          rw [ht]
          refine zq_iald hc hH (by rfl) 4 (oka_i (by decide +kernel)) (vp_in_nI (by omega) (by decide)) ?_
          rw [nI_clamp (by omega)]
          refine zV1 (Z := Z) (ui_o (by first | decide | omega)) ?_
          rw [e64]
          refine zq_ic hc hH (by rfl) (tg := 127) (by rfl) (fun h6 => ?_) (fun h6 => ?_)
          · have h6 : (decide ((nI q) ≤ (nI j))) = true := decide_eq_true (cm_ge.mp h6)
            exact absurd (Eq.trans (Eq.symm (kn_nlf (by omega) (by omega) (by omega))) h6) (by decide)
          · have h6 : (decide ((nI q) ≤ (nI j))) = false := decide_eq_false (cn_ge.mp h6)
            refine z_rcs hc hH 1 (pc' := 49) (lv' := [(2, .int (nI j)), (0, .ref 50), (1, .int (nI k))]) (st' := [.ref 50]) (μ' := z_ui μ 50 0 0) (by rfl) ?_
            refine zq_gfr hc hH (by rfl) (ci := 6) (f := 30) (q := 62) (by rfl) (by decide +kernel) (by rfl) (by decide +kernel) ?_
            refine z_rcs hc hH 2 (pc' := 54) (lv' := [(2, .int (nI j)), (0, .ref 50), (1, .int (nI k))]) (st' := [.ref 50, .int 4, .ref 62]) (μ' := z_ui μ 50 0 0) (by rfl) ?_
            refine zq_gfi hc hH (by rfl) (ci := 6) (f := 45) (by rfl) (by decide +kernel) (by rfl) ?_
            refine zV1 (Z := Z) (ui_k (by first | decide | omega)) ?_
            rw [ht]
            refine z_rcs hc hH 3 (pc' := 60) (lv' := [(2, .int (nI j)), (0, .ref 50), (1, .int (nI k))]) (st' := [.int ((4 * (nI t)) + (nI j)), .ref 62]) (μ' := z_ui μ 50 0 0) (by rfl) ?_
            rw [nI_k4]
            refine zq_iald hc hH (by rfl) 16 (oka_i (by decide +kernel)) (vp_in_nI (by omega) (by decide)) ?_
            rw [nI_clamp (by omega)]
            refine zV1 (Z := Z) (ui_o (by first | decide | omega)) ?_
            refine z_rcs hc hH 1 (pc' := 62) (lv' := [(2, .int (nI j)), (0, .ref 50), (1, .int (nI k))]) (st' := [.int 1, .int (μ.1 62 (4 * t + j))]) (μ' := z_ui μ 50 0 0) (by rfl) ?_
            refine zq_ic hc hH (by rfl) (tg := 121) (by rfl) (fun h7 => ?_) (fun h7 => ?_)
            · have h7 : (decide ((μ.1 62 (4 * t + j)) = 1)) = false := decide_eq_false (cm_ne.mp h7)
              refine z_rcs hc hH 2 (pc' := 35) (lv' := [(2, .int ((nI j) + 1)), (0, .ref 50), (1, .int (nI k))]) (st' := []) (μ' := z_ui μ 50 0 0) (by rfl) ?_
              have e9 := ih (j + 1) (by omega)
              rw [nI_s1]
              exact e9
            · have h7 : (decide ((μ.1 62 (4 * t + j)) = 1)) = true := decide_eq_true (cn_ne.mp h7)
              refine z_rcs hc hH 1 (pc' := 66) (lv' := [(2, .int (nI j)), (0, .ref 50), (1, .int (nI k))]) (st' := [.ref 50]) (μ' := z_ui μ 50 0 0) (by rfl) ?_
              refine zq_gfr hc hH (by rfl) (ci := 6) (f := 31) (q := 63) (by rfl) (by decide +kernel) (by rfl) (by decide +kernel) ?_
              refine z_rcs hc hH 2 (pc' := 71) (lv' := [(2, .int (nI j)), (0, .ref 50), (1, .int (nI k))]) (st' := [.ref 50, .int 4, .ref 63]) (μ' := z_ui μ 50 0 0) (by rfl) ?_
              refine zq_gfi hc hH (by rfl) (ci := 6) (f := 45) (by rfl) (by decide +kernel) (by rfl) ?_
              refine zV1 (Z := Z) (ui_k (by first | decide | omega)) ?_
              rw [ht]
              refine z_rcs hc hH 3 (pc' := 77) (lv' := [(2, .int (nI j)), (0, .ref 50), (1, .int (nI k))]) (st' := [.int ((4 * (nI t)) + (nI j)), .ref 63]) (μ' := z_ui μ 50 0 0) (by rfl) ?_
              rw [nI_k4]
              refine zq_iald hc hH (by rfl) 16 (oka_i (by decide +kernel)) (vp_in_nI (by omega) (by decide)) ?_
              rw [nI_clamp (by omega)]
              refine zV1 (Z := Z) (ui_o (by first | decide | omega)) ?_
              refine z_rcs hc hH 1 (pc' := 79) (lv' := [(2, .int (nI j)), (0, .ref 50), (1, .int (nI k))]) (st' := [.int (nI k), .int (μ.1 63 (4 * t + j))]) (μ' := z_ui μ 50 0 0) (by rfl) ?_
              refine zq_ic hc hH (by rfl) (tg := 85) (by rfl) (fun h8 => ?_) (fun h8 => ?_)
              · have h8 : (decide ((μ.1 63 (4 * t + j)) = (nI k))) = true := decide_eq_true (cm_eq9.mp h8)
                exact absurd (show adF μ t k j = true from by simp only [adF, h7, h8, Bool.true_or, Bool.true_and, Bool.and_true, Bool.false_and, Bool.and_false, Bool.not_true, Bool.not_false, Bool.or_true, Bool.or_false, Bool.false_or, cond_true, cond_false]) (by rw [hfj j (by omega)]; decide)
              · have h8 : (decide ((μ.1 63 (4 * t + j)) = (nI k))) = false := decide_eq_false (cn_eq.mp h8)
                refine z_rcs hc hH 3 (pc' := 35) (lv' := [(2, .int ((nI j) + 1)), (0, .ref 50), (1, .int (nI k))]) (st' := []) (μ' := z_ui μ 50 0 0) (by rfl) ?_
                have e9 := ih (j + 1) (by omega)
                rw [nI_s1]
                exact e9
      exact hL i 0 (by omega)
    · have h2 : (decide ((μ.1 60 (34 * t + k)) = 0)) = true := decide_eq_true (cn_ne.mp h2)
      refine z_rcs hc hH 1 (pc' := 32) (lv' := [(0, .ref 50), (1, .int (nI k))]) (st' := [.int 0]) (μ' := z_ui μ 50 0 0) (by rfl) ?_
      exact hr 0 32 _ _ _ (some (.int 0)) (by decide +kernel) (z_rx_ok hH (by rfl)) (Or.inr ⟨by simp only [h1, h2, Bool.true_or, Bool.true_and, Bool.and_true, Bool.false_and, Bool.and_false, Bool.not_true, Bool.not_false, Bool.or_true, Bool.or_false, Bool.false_or, cond_true, cond_false], rfl, rfl⟩)
theorem gm_addN (d : Nat) (hd : 3 ≤ d) (μ : zM) (t : Nat) (ht4 : t < 4) (ht : μ.1 50 45 = nI t) (k q : Nat) (hk : k < 34) (hq : q ≤ 4) (e64 : μ.1 64 t = nI q) (mm : Bool) (hmm : ∀ d, 2 ≤ d → z_C d mi_X7_mayMake [.ref 50] (z_ui μ 50 0 0) (zR (z_ui μ 50 0 0) (.int (nB mm)))) (hfj : ∀ j, j < q → adF μ t k j = false) : z_C d mi_X7_add [.ref 50, .int (nI k)] μ (fun r μ' => r = some (.int 0) ∧ μ' = z_ui μ 50 0 0) := by
  refine z_C_in (by decide) (by omega) (fun d' Z ed hc hr => ?_)
  have hH : zH mi_X7_add zt_X7_add 79 7 3 := hh_X7_add
  refine z_rcs hc hH 2 (pc' := 2) (lv' := [(0, .ref 50), (1, .int (nI k))]) (st' := [.int 0, .ref 50]) (μ' := μ) (by rfl) ?_
  refine zq_pfi hc hH (by rfl) (ci := 6) (f := 0) (by rfl) (by decide +kernel) (by rfl) ?_
  show Z 0 5 [(0, .ref 50), (1, .int (nI k))] [] (z_ui μ 50 0 0)
  refine z_rcs hc hH 1 (pc' := 6) (lv' := [(0, .ref 50), (1, .int (nI k))]) (st' := [.ref 50]) (μ' := z_ui μ 50 0 0) (by rfl) ?_
  refine zq_call hc (z_cx_ok hH (by rfl)) (hmm d' (by omega)) (by decide +kernel) (fun r9 μ9 hq => ?_)
  obtain ⟨hμ9, rfl⟩ := hq
  rw [hμ9]
  clear hμ9 μ9
  show Z 0 9 [(0, .ref 50), (1, .int (nI k))] [.int (nB mm)] (z_ui μ 50 0 0)
  refine zq_if hc hH (by rfl) (tg := 31) (by rfl) (fun h1 => ?_) (fun h1 => ?_)
  · have h1 : (mm) = false := nB_z.mp (cm_eq9.mp h1)
    refine z_rcs hc hH 1 (pc' := 32) (lv' := [(0, .ref 50), (1, .int (nI k))]) (st' := [.int 0]) (μ' := z_ui μ 50 0 0) (by rfl) ?_
    exact hr 0 32 _ _ _ (some (.int 0)) (by decide +kernel) (z_rx_ok hH (by rfl)) (⟨rfl, rfl⟩)
  · have h1 : (mm) = true := nB_n.mp (cn_eq.mp h1)
    refine z_rcs hc hH 1 (pc' := 13) (lv' := [(0, .ref 50), (1, .int (nI k))]) (st' := [.int (nI k)]) (μ' := z_ui μ 50 0 0) (by rfl) ?_
    refine zq_call hc (z_cx_ok hH (by rfl)) (gm_isKindN d' (by omega) (z_ui μ 50 0 0) k hk) (by decide +kernel) (fun r9 μ9 hq => ?_)
    obtain ⟨hμ9, rfl⟩ := hq
    rw [hμ9]
    clear hμ9 μ9
    show Z 0 16 [(0, .ref 50), (1, .int (nI k))] [.int 1] (z_ui μ 50 0 0)
    refine z_rcs hc hH 3 (pc' := 21) (lv' := [(0, .ref 50), (1, .int (nI k))]) (st' := [.ref 50, .ref 50]) (μ' := z_ui μ 50 0 0) (by rfl) ?_
    refine zq_gfi hc hH (by rfl) (ci := 6) (f := 45) (by rfl) (by decide +kernel) (by rfl) ?_
    refine zV1 (Z := Z) (ui_k (by first | decide | omega)) ?_
    rw [ht]
    refine z_rcs hc hH 1 (pc' := 25) (lv' := [(0, .ref 50), (1, .int (nI k))]) (st' := [.int (nI k), .int (nI t), .ref 50]) (μ' := z_ui μ 50 0 0) (by rfl) ?_
    refine zq_call hc (z_cx_ok hH (by rfl)) (fc_X7_has_ d' (by omega) (z_ui μ 50 0 0) t k ht4 hk) (by decide +kernel) (fun r9 μ9 hq => ?_)
    obtain ⟨hμ9, rfl⟩ := hq
    rw [hμ9]
    clear hμ9 μ9
    rw [ui_o (by first | decide | omega)]
    show Z 0 28 [(0, .ref 50), (1, .int (nI k))] [.int (μ.1 60 (34 * t + k))] (z_ui μ 50 0 0)
    refine zq_if hc hH (by rfl) (tg := 33) (by rfl) (fun h2 => ?_) (fun h2 => ?_)
    · have h2 : (decide ((μ.1 60 (34 * t + k)) = 0)) = false := decide_eq_false (cm_ne.mp h2)
      refine z_rcs hc hH 2 (pc' := 35) (lv' := [(2, .int 0), (0, .ref 50), (1, .int (nI k))]) (st' := []) (μ' := z_ui μ 50 0 0) (by rfl) ?_
      have hL : ∀ n j, j + n = q → Z 0 35 [(2, .int (nI j)), (0, .ref 50), (1, .int (nI k))] [] (z_ui μ 50 0 0) := by
        intro n
        induction n with
        | zero =>
          intro j hj
          have hj : j = q := by omega
          refine z_rcs hc hH 2 (pc' := 37) (lv' := [(2, .int (nI j)), (0, .ref 50), (1, .int (nI k))]) (st' := [.ref 50, .int (nI j)]) (μ' := z_ui μ 50 0 0) (by rfl) ?_
          refine zq_gfr hc hH (by rfl) (ci := 6) (f := 32) (q := 64) (by rfl) (by decide +kernel) (by rfl) (by decide +kernel) ?_
          refine z_rcs hc hH 1 (pc' := 41) (lv' := [(2, .int (nI j)), (0, .ref 50), (1, .int (nI k))]) (st' := [.ref 50, .ref 64, .int (nI j)]) (μ' := z_ui μ 50 0 0) (by rfl) ?_
          refine zq_gfi hc hH (by rfl) (ci := 6) (f := 45) (by rfl) (by decide +kernel) (by rfl) ?_
          refine zV1 (Z := Z) (ui_k (by first | decide | omega)) ?_
          rw [ht]
          refine zq_iald hc hH (by rfl) 4 (oka_i (by decide +kernel)) (vp_in_nI (by omega) (by decide)) ?_
          rw [nI_clamp (by omega)]
          refine zV1 (Z := Z) (ui_o (by first | decide | omega)) ?_
          rw [e64]
          refine zq_ic hc hH (by rfl) (tg := 127) (by rfl) (fun h3 => ?_) (fun h3 => ?_)
          · have h3 : (decide ((nI q) ≤ (nI j))) = true := decide_eq_true (cm_ge.mp h3)
            refine z_rcs hc hH 1 (pc' := 128) (lv' := [(2, .int (nI j)), (0, .ref 50), (1, .int (nI k))]) (st' := [.int 0]) (μ' := z_ui μ 50 0 0) (by rfl) ?_
            exact hr 0 128 _ _ _ (some (.int 0)) (by decide +kernel) (z_rx_ok hH (by rfl)) (⟨rfl, rfl⟩)
          · have h3 : (decide ((nI q) ≤ (nI j))) = false := decide_eq_false (cn_ge.mp h3)
            exact absurd (Eq.trans (Eq.symm (kn_nle (by omega) (by omega) (by omega))) h3) (by decide)
        | succ n ih =>
          intro j hj
          refine z_rcs hc hH 2 (pc' := 37) (lv' := [(2, .int (nI j)), (0, .ref 50), (1, .int (nI k))]) (st' := [.ref 50, .int (nI j)]) (μ' := z_ui μ 50 0 0) (by rfl) ?_
          refine zq_gfr hc hH (by rfl) (ci := 6) (f := 32) (q := 64) (by rfl) (by decide +kernel) (by rfl) (by decide +kernel) ?_
          refine z_rcs hc hH 1 (pc' := 41) (lv' := [(2, .int (nI j)), (0, .ref 50), (1, .int (nI k))]) (st' := [.ref 50, .ref 64, .int (nI j)]) (μ' := z_ui μ 50 0 0) (by rfl) ?_
          refine zq_gfi hc hH (by rfl) (ci := 6) (f := 45) (by rfl) (by decide +kernel) (by rfl) ?_
          refine zV1 (Z := Z) (ui_k (by first | decide | omega)) ?_
          rw [ht]
          refine zq_iald hc hH (by rfl) 4 (oka_i (by decide +kernel)) (vp_in_nI (by omega) (by decide)) ?_
          rw [nI_clamp (by omega)]
          refine zV1 (Z := Z) (ui_o (by first | decide | omega)) ?_
          rw [e64]
          refine zq_ic hc hH (by rfl) (tg := 127) (by rfl) (fun h4 => ?_) (fun h4 => ?_)
          · have h4 : (decide ((nI q) ≤ (nI j))) = true := decide_eq_true (cm_ge.mp h4)
            exact absurd (Eq.trans (Eq.symm (kn_nlf (by omega) (by omega) (by omega))) h4) (by decide)
          · have h4 : (decide ((nI q) ≤ (nI j))) = false := decide_eq_false (cn_ge.mp h4)
            refine z_rcs hc hH 1 (pc' := 49) (lv' := [(2, .int (nI j)), (0, .ref 50), (1, .int (nI k))]) (st' := [.ref 50]) (μ' := z_ui μ 50 0 0) (by rfl) ?_
            refine zq_gfr hc hH (by rfl) (ci := 6) (f := 30) (q := 62) (by rfl) (by decide +kernel) (by rfl) (by decide +kernel) ?_
            refine z_rcs hc hH 2 (pc' := 54) (lv' := [(2, .int (nI j)), (0, .ref 50), (1, .int (nI k))]) (st' := [.ref 50, .int 4, .ref 62]) (μ' := z_ui μ 50 0 0) (by rfl) ?_
            refine zq_gfi hc hH (by rfl) (ci := 6) (f := 45) (by rfl) (by decide +kernel) (by rfl) ?_
            refine zV1 (Z := Z) (ui_k (by first | decide | omega)) ?_
            rw [ht]
            refine z_rcs hc hH 3 (pc' := 60) (lv' := [(2, .int (nI j)), (0, .ref 50), (1, .int (nI k))]) (st' := [.int ((4 * (nI t)) + (nI j)), .ref 62]) (μ' := z_ui μ 50 0 0) (by rfl) ?_
            rw [nI_k4]
            refine zq_iald hc hH (by rfl) 16 (oka_i (by decide +kernel)) (vp_in_nI (by omega) (by decide)) ?_
            rw [nI_clamp (by omega)]
            refine zV1 (Z := Z) (ui_o (by first | decide | omega)) ?_
            refine z_rcs hc hH 1 (pc' := 62) (lv' := [(2, .int (nI j)), (0, .ref 50), (1, .int (nI k))]) (st' := [.int 1, .int (μ.1 62 (4 * t + j))]) (μ' := z_ui μ 50 0 0) (by rfl) ?_
            refine zq_ic hc hH (by rfl) (tg := 121) (by rfl) (fun h5 => ?_) (fun h5 => ?_)
            · have h5 : (decide ((μ.1 62 (4 * t + j)) = 1)) = false := decide_eq_false (cm_ne.mp h5)
              refine z_rcs hc hH 2 (pc' := 35) (lv' := [(2, .int ((nI j) + 1)), (0, .ref 50), (1, .int (nI k))]) (st' := []) (μ' := z_ui μ 50 0 0) (by rfl) ?_
              have e9 := ih (j + 1) (by omega)
              rw [nI_s1]
              exact e9
            · have h5 : (decide ((μ.1 62 (4 * t + j)) = 1)) = true := decide_eq_true (cn_ne.mp h5)
              refine z_rcs hc hH 1 (pc' := 66) (lv' := [(2, .int (nI j)), (0, .ref 50), (1, .int (nI k))]) (st' := [.ref 50]) (μ' := z_ui μ 50 0 0) (by rfl) ?_
              refine zq_gfr hc hH (by rfl) (ci := 6) (f := 31) (q := 63) (by rfl) (by decide +kernel) (by rfl) (by decide +kernel) ?_
              refine z_rcs hc hH 2 (pc' := 71) (lv' := [(2, .int (nI j)), (0, .ref 50), (1, .int (nI k))]) (st' := [.ref 50, .int 4, .ref 63]) (μ' := z_ui μ 50 0 0) (by rfl) ?_
              refine zq_gfi hc hH (by rfl) (ci := 6) (f := 45) (by rfl) (by decide +kernel) (by rfl) ?_
              refine zV1 (Z := Z) (ui_k (by first | decide | omega)) ?_
              rw [ht]
              refine z_rcs hc hH 3 (pc' := 77) (lv' := [(2, .int (nI j)), (0, .ref 50), (1, .int (nI k))]) (st' := [.int ((4 * (nI t)) + (nI j)), .ref 63]) (μ' := z_ui μ 50 0 0) (by rfl) ?_
              rw [nI_k4]
              refine zq_iald hc hH (by rfl) 16 (oka_i (by decide +kernel)) (vp_in_nI (by omega) (by decide)) ?_
              rw [nI_clamp (by omega)]
              refine zV1 (Z := Z) (ui_o (by first | decide | omega)) ?_
              refine z_rcs hc hH 1 (pc' := 79) (lv' := [(2, .int (nI j)), (0, .ref 50), (1, .int (nI k))]) (st' := [.int (nI k), .int (μ.1 63 (4 * t + j))]) (μ' := z_ui μ 50 0 0) (by rfl) ?_
              refine zq_ic hc hH (by rfl) (tg := 85) (by rfl) (fun h6 => ?_) (fun h6 => ?_)
              · have h6 : (decide ((μ.1 63 (4 * t + j)) = (nI k))) = true := decide_eq_true (cm_eq9.mp h6)
                exact absurd (show adF μ t k j = true from by simp only [adF, h5, h6, Bool.true_or, Bool.true_and, Bool.and_true, Bool.false_and, Bool.and_false, Bool.not_true, Bool.not_false, Bool.or_true, Bool.or_false, Bool.false_or, cond_true, cond_false]) (by rw [hfj j (by omega)]; decide)
              · have h6 : (decide ((μ.1 63 (4 * t + j)) = (nI k))) = false := decide_eq_false (cn_eq.mp h6)
                refine z_rcs hc hH 3 (pc' := 35) (lv' := [(2, .int ((nI j) + 1)), (0, .ref 50), (1, .int (nI k))]) (st' := []) (μ' := z_ui μ 50 0 0) (by rfl) ?_
                have e9 := ih (j + 1) (by omega)
                rw [nI_s1]
                exact e9
      exact hL q 0 (by omega)
    · have h2 : (decide ((μ.1 60 (34 * t + k)) = 0)) = true := decide_eq_true (cn_ne.mp h2)
      refine z_rcs hc hH 1 (pc' := 32) (lv' := [(0, .ref 50), (1, .int (nI k))]) (st' := [.int 0]) (μ' := z_ui μ 50 0 0) (by rfl) ?_
      exact hr 0 32 _ _ _ (some (.int 0)) (by decide +kernel) (z_rx_ok hH (by rfl)) (⟨rfl, rfl⟩)
noncomputable abbrev ruC0 (μ : zM) (s l u1 : Nat) (mc ir cd : Bool) : Bool := (mc) && ((decide ((nI s) = (nI u1)))) && (ir) && (!(decide ((μ.1 60 (34 * s + (l + 1))) = 0))) && (!(decide ((μ.1 60 (34 * s + (l + 2))) = 0))) && (cd)
noncomputable def ruM0 (μ : zM) (s l : Nat) : zM := z_giv (z_giv (z_giv (z_giv (z_ui (z_ui (z_ui μ 50 0 0) 50 50 (nI l)) 50 51 (bif decide (6 ≤ ((nI l) - (nI l) / 9 * 9)) then (-1 : Int32) else nI (l + 3))) s (l + 1) (-1)) s (l + 2) (-1)) s (l + 1) 1) s (l + 2) 1
noncomputable def ruO0 (O : zM) (s l q : Nat) : zM := clM (z_giv (z_giv O s (l + 1) (-1)) s (l + 2) (-1)) s q 0 (nI l)
theorem gm_run0 (d : Nat) (hd : 702 ≤ d) (μ : zM) (s q l t u1 : Nat) (hs4 : s < 4) (hq4 : q < 4) (hl : l + 2 ≤ 33) (ht4 : t < 4) (ht : μ.1 50 45 = nI t) (hu1 : (t + 1) % 4 = u1) (hu14 : u1 < 4) (hc49 : μ.1 50 49 = nI l) (mc : Bool) (hmc : ∀ d, 2 ≤ d → z_C d mi_X7_mayClaim [.ref 50, .int (nI s)] (z_ui μ 50 0 0) (zR (z_ui μ 50 0 0) (.int (nB mc)))) (ir : Bool) (hir : ∀ d, 1 ≤ d → z_C d mi_X7_isRun [.int (nI l)] (z_ui μ 50 0 0) (zR (z_ui μ 50 0 0) (.int (nB ir)))) (cd : Bool) (hcd : ∀ d, 2 ≤ d → z_C d mi_X7_canDiscard [.ref 50, .int (nI s)] (z_giv (z_giv (z_ui (z_ui (z_ui μ 50 0 0) 50 50 (nI l)) 50 51 (bif decide (6 ≤ ((nI l) - (nI l) / 9 * 9)) then (-1 : Int32) else nI (l + 3))) s (l + 1) (-1)) s (l + 2) (-1)) (zR (z_giv (z_giv (z_ui (z_ui (z_ui μ 50 0 0) 50 50 (nI l)) 50 51 (bif decide (6 ≤ ((nI l) - (nI l) / 9 * 9)) then (-1 : Int32) else nI (l + 3))) s (l + 1) (-1)) s (l + 2) (-1)) (.int (nB cd)))) (O : zM) (hov : ∀ d, 701 ≤ d → z_C d mi_X7_over [.ref 50] (ruM0 μ s l) (fun r W => r = none ∧ SMj O W ∧ a_H W)) (o49 : O.1 50 49 = nI l) (o64 : O.1 64 s = nI q) : z_C d mi_X7_run [.ref 50, .int (nI s), .int (nI l)] μ (fun r μ' => (ruC0 μ s l u1 mc ir cd = true ∧ r = some (.int 1) ∧ SMj (ruO0 O s l q) μ') ∨ (ruC0 μ s l u1 mc ir cd = false ∧ r = some (.int 0) ∧ (μ' = z_ui μ 50 0 0 ∨ μ' = ruM0 μ s l))) := by
  refine z_C_in (by decide) (by omega) (fun d' Z ed hc hr => ?_)
  have hH : zH mi_X7_run zt_X7_run 79 7 5 := hh_X7_run
  refine z_rcs hc hH 2 (pc' := 2) (lv' := [(0, .ref 50), (1, .int (nI s)), (2, .int (nI l))]) (st' := [.int 0, .ref 50]) (μ' := μ) (by rfl) ?_
  refine zq_pfi hc hH (by rfl) (ci := 6) (f := 0) (by rfl) (by decide +kernel) (by rfl) ?_
  show Z 0 5 [(0, .ref 50), (1, .int (nI s)), (2, .int (nI l))] [] (z_ui μ 50 0 0)
  refine z_rcs hc hH 2 (pc' := 7) (lv' := [(0, .ref 50), (1, .int (nI s)), (2, .int (nI l))]) (st' := [.int (nI s), .ref 50]) (μ' := z_ui μ 50 0 0) (by rfl) ?_
  refine zq_call hc (z_cx_ok hH (by rfl)) (hmc d' (by omega)) (by decide +kernel) (fun r9 μ9 hq => ?_)
  obtain ⟨hμ9, rfl⟩ := hq
  rw [hμ9]
  clear hμ9 μ9
  show Z 0 10 [(0, .ref 50), (1, .int (nI s)), (2, .int (nI l))] [.int (nB mc)] (z_ui μ 50 0 0)
  refine zq_if hc hH (by rfl) (tg := 50) (by rfl) (fun h1 => ?_) (fun h1 => ?_)
  · have h1 : (mc) = false := nB_z.mp (cm_eq9.mp h1)
    refine z_rcs hc hH 1 (pc' := 51) (lv' := [(0, .ref 50), (1, .int (nI s)), (2, .int (nI l))]) (st' := [.int 0]) (μ' := z_ui μ 50 0 0) (by rfl) ?_
    exact hr 0 51 _ _ _ (some (.int 0)) (by decide +kernel) (z_rx_ok hH (by rfl)) (Or.inr ⟨by simp only [ruC0, h1, Bool.true_or, Bool.true_and, Bool.and_true, Bool.false_and, Bool.and_false, Bool.not_true, Bool.not_false, Bool.or_true, Bool.or_false, Bool.false_or, cond_true, cond_false], rfl, Or.inl rfl⟩)
  · have h1 : (mc) = true := nB_n.mp (cn_eq.mp h1)
    refine z_rcs hc hH 2 (pc' := 15) (lv' := [(0, .ref 50), (1, .int (nI s)), (2, .int (nI l))]) (st' := [.ref 50, .int (nI s)]) (μ' := z_ui μ 50 0 0) (by rfl) ?_
    refine zq_gfi hc hH (by rfl) (ci := 6) (f := 45) (by rfl) (by decide +kernel) (by rfl) ?_
    refine zV1 (Z := Z) (ui_k (by first | decide | omega)) ?_
    rw [ht]
    refine z_rcs hc hH 2 (pc' := 20) (lv' := [(0, .ref 50), (1, .int (nI s)), (2, .int (nI l))]) (st' := [.int ((nI t) + 1), .int (nI s)]) (μ' := z_ui μ 50 0 0) (by rfl) ?_
    rw [nI_s1]
    refine z_rcs hc hH 2 (pc' := 22) (lv' := [(0, .ref 50), (1, .int (nI s)), (2, .int (nI l))]) (st' := [.int ((nI (t + 1)) - (nI (t + 1)) / 4 * 4), .int (nI s)]) (μ' := z_ui μ 50 0 0) (by rfl) ?_
    rw [show nI (t + 1) - nI (t + 1) / 4 * 4 = nI u1 from by rw [rm4 _ (by omega), hu1]]
    refine zq_ic hc hH (by rfl) (tg := 50) (by rfl) (fun h2 => ?_) (fun h2 => ?_)
    · have h2 : (decide ((nI s) = (nI u1))) = false := decide_eq_false (cm_ne.mp h2)
      refine z_rcs hc hH 1 (pc' := 51) (lv' := [(0, .ref 50), (1, .int (nI s)), (2, .int (nI l))]) (st' := [.int 0]) (μ' := z_ui μ 50 0 0) (by rfl) ?_
      exact hr 0 51 _ _ _ (some (.int 0)) (by decide +kernel) (z_rx_ok hH (by rfl)) (Or.inr ⟨by simp only [ruC0, h1, h2, Bool.true_or, Bool.true_and, Bool.and_true, Bool.false_and, Bool.and_false, Bool.not_true, Bool.not_false, Bool.or_true, Bool.or_false, Bool.false_or, cond_true, cond_false], rfl, Or.inl rfl⟩)
    · have h2 : (decide ((nI s) = (nI u1))) = true := decide_eq_true (cn_ne.mp h2)
      refine z_rcs hc hH 1 (pc' := 26) (lv' := [(0, .ref 50), (1, .int (nI s)), (2, .int (nI l))]) (st' := [.int (nI l)]) (μ' := z_ui μ 50 0 0) (by rfl) ?_
      refine zq_call hc (z_cx_ok hH (by rfl)) (hir d' (by omega)) (by decide +kernel) (fun r9 μ9 hq => ?_)
      obtain ⟨hμ9, rfl⟩ := hq
      rw [hμ9]
      clear hμ9 μ9
      show Z 0 29 [(0, .ref 50), (1, .int (nI s)), (2, .int (nI l))] [.int (nB ir)] (z_ui μ 50 0 0)
      refine zq_if hc hH (by rfl) (tg := 50) (by rfl) (fun h3 => ?_) (fun h3 => ?_)
      · have h3 : (ir) = false := nB_z.mp (cm_eq9.mp h3)
        refine z_rcs hc hH 1 (pc' := 51) (lv' := [(0, .ref 50), (1, .int (nI s)), (2, .int (nI l))]) (st' := [.int 0]) (μ' := z_ui μ 50 0 0) (by rfl) ?_
        exact hr 0 51 _ _ _ (some (.int 0)) (by decide +kernel) (z_rx_ok hH (by rfl)) (Or.inr ⟨by simp only [ruC0, h1, h2, h3, Bool.true_or, Bool.true_and, Bool.and_true, Bool.false_and, Bool.and_false, Bool.not_true, Bool.not_false, Bool.or_true, Bool.or_false, Bool.false_or, cond_true, cond_false], rfl, Or.inl rfl⟩)
      · have h3 : (ir) = true := nB_n.mp (cn_eq.mp h3)
        refine z_rcs hc hH 1 (pc' := 33) (lv' := [(0, .ref 50), (1, .int (nI s)), (2, .int (nI l))]) (st' := [.ref 50]) (μ' := z_ui μ 50 0 0) (by rfl) ?_
        refine zq_gfi hc hH (by rfl) (ci := 6) (f := 49) (by rfl) (by decide +kernel) (by rfl) ?_
        refine zV1 (Z := Z) (ui_k (by first | decide | omega)) ?_
        rw [hc49]
        refine z_rcs hc hH 1 (pc' := 37) (lv' := [(0, .ref 50), (1, .int (nI s)), (2, .int (nI l))]) (st' := [.int (nI l), .int (nI l)]) (μ' := z_ui μ 50 0 0) (by rfl) ?_
        refine zq_ic hc hH (by rfl) (tg := 50) (by rfl) (fun h4 => ?_) (fun h4 => ?_)
        · have h4 : (decide ((nI l) < (nI l))) = true := decide_eq_true (cm_lt.mp h4)
          exact absurd (Eq.trans (Eq.symm (kn_nlg (by omega) (by omega) (by omega))) h4) (by decide)
        · have h4 : (decide ((nI l) < (nI l))) = false := decide_eq_false (cn_lt.mp h4)
          refine z_rcs hc hH 1 (pc' := 41) (lv' := [(0, .ref 50), (1, .int (nI s)), (2, .int (nI l))]) (st' := [.ref 50]) (μ' := z_ui μ 50 0 0) (by rfl) ?_
          refine zq_gfi hc hH (by rfl) (ci := 6) (f := 49) (by rfl) (by decide +kernel) (by rfl) ?_
          refine zV1 (Z := Z) (ui_k (by first | decide | omega)) ?_
          rw [hc49]
          refine z_rcs hc hH 3 (pc' := 47) (lv' := [(0, .ref 50), (1, .int (nI s)), (2, .int (nI l))]) (st' := [.int ((nI l) + 2), .int (nI l)]) (μ' := z_ui μ 50 0 0) (by rfl) ?_
          rw [show nI l + 2 = nI (l + 2) from nI_add l 2]
          refine zq_ic hc hH (by rfl) (tg := 52) (by rfl) (fun h5 => ?_) (fun h5 => ?_)
          · have h5 : (decide ((nI l) ≤ (nI (l + 2)))) = true := decide_eq_true (cm_le.mp h5)
            refine z_rcs hc hH 6 (pc' := 58) (lv' := [(3, .int (nI l)), (0, .ref 50), (1, .int (nI s)), (2, .int (nI l))]) (st' := [.int ((nI l) + 3), .int (nI l)]) (μ' := z_ui μ 50 0 0) (by rfl) ?_
            rw [show nI l + 3 = nI (l + 3) from nI_add l 3]
            refine zq_ic hc hH (by rfl) (tg := 86) (by rfl) (fun h6 => ?_) (fun h6 => ?_)
            · have h6 : (decide ((nI (l + 3)) ≤ (nI l))) = true := decide_eq_true (cm_ge.mp h6)
              exact absurd (Eq.trans (Eq.symm (kn_nlf (by omega) (by omega) (by omega))) h6) (by decide)
            · have h6 : (decide ((nI (l + 3)) ≤ (nI l))) = false := decide_eq_false (cn_ge.mp h6)
              refine z_rcs hc hH 2 (pc' := 63) (lv' := [(3, .int (nI l)), (0, .ref 50), (1, .int (nI s)), (2, .int (nI l))]) (st' := [.ref 50, .int (nI l)]) (μ' := z_ui μ 50 0 0) (by rfl) ?_
              refine zq_gfi hc hH (by rfl) (ci := 6) (f := 49) (by rfl) (by decide +kernel) (by rfl) ?_
              refine zV1 (Z := Z) (ui_k (by first | decide | omega)) ?_
              rw [hc49]
              refine zq_ic hc hH (by rfl) (tg := 80) (by rfl) (fun h7 => ?_) (fun h7 => ?_)
              · have h7 : (decide ((nI l) = (nI l))) = true := decide_eq_true (cm_eq9.mp h7)
                refine z_rcs hc hH 3 (pc' := 55) (lv' := [(3, .int ((nI l) + 1)), (0, .ref 50), (1, .int (nI s)), (2, .int (nI l))]) (st' := [.int ((nI l) + 1)]) (μ' := z_ui μ 50 0 0) (by rfl) ?_
                rw [nI_s1]
                refine z_rcs hc hH 3 (pc' := 58) (lv' := [(3, .int (nI (l + 1))), (0, .ref 50), (1, .int (nI s)), (2, .int (nI l))]) (st' := [.int ((nI l) + 3), .int (nI (l + 1))]) (μ' := z_ui μ 50 0 0) (by rfl) ?_
                rw [show nI l + 3 = nI (l + 3) from nI_add l 3]
                refine zq_ic hc hH (by rfl) (tg := 86) (by rfl) (fun h8 => ?_) (fun h8 => ?_)
                · have h8 : (decide ((nI (l + 3)) ≤ (nI (l + 1)))) = true := decide_eq_true (cm_ge.mp h8)
                  exact absurd (Eq.trans (Eq.symm (kn_nlf (by omega) (by omega) (by omega))) h8) (by decide)
                · have h8 : (decide ((nI (l + 3)) ≤ (nI (l + 1)))) = false := decide_eq_false (cn_ge.mp h8)
                  refine z_rcs hc hH 2 (pc' := 63) (lv' := [(3, .int (nI (l + 1))), (0, .ref 50), (1, .int (nI s)), (2, .int (nI l))]) (st' := [.ref 50, .int (nI (l + 1))]) (μ' := z_ui μ 50 0 0) (by rfl) ?_
                  refine zq_gfi hc hH (by rfl) (ci := 6) (f := 49) (by rfl) (by decide +kernel) (by rfl) ?_
                  refine zV1 (Z := Z) (ui_k (by first | decide | omega)) ?_
                  rw [hc49]
                  refine zq_ic hc hH (by rfl) (tg := 80) (by rfl) (fun h9 => ?_) (fun h9 => ?_)
                  · have h9 : (decide ((nI (l + 1)) = (nI l))) = true := decide_eq_true (cm_eq9.mp h9)
                    exact absurd (Eq.trans (Eq.symm (kn_ne (by omega) (by omega) (by omega))) h9) (by decide)
                  · have h9 : (decide ((nI (l + 1)) = (nI l))) = false := decide_eq_false (cn_eq.mp h9)
                    refine z_rcs hc hH 3 (pc' := 72) (lv' := [(3, .int (nI (l + 1))), (0, .ref 50), (1, .int (nI s)), (2, .int (nI l))]) (st' := [.int (nI (l + 1)), .int (nI s), .ref 50]) (μ' := z_ui μ 50 0 0) (by rfl) ?_
                    refine zq_call hc (z_cx_ok hH (by rfl)) (fc_X7_has_ d' (by omega) (z_ui μ 50 0 0) s (l + 1) hs4 (by omega)) (by decide +kernel) (fun r9 μ9 hq => ?_)
                    obtain ⟨hμ9, rfl⟩ := hq
                    rw [hμ9]
                    clear hμ9 μ9
                    rw [ui_o (by first | decide | omega)]
                    show Z 0 75 [(3, .int (nI (l + 1))), (0, .ref 50), (1, .int (nI s)), (2, .int (nI l))] [.int (μ.1 60 (34 * s + (l + 1)))] (z_ui μ 50 0 0)
                    refine zq_if hc hH (by rfl) (tg := 80) (by rfl) (fun h10 => ?_) (fun h10 => ?_)
                    · have h10 : (decide ((μ.1 60 (34 * s + (l + 1))) = 0)) = false := decide_eq_false (cm_ne.mp h10)
                      refine z_rcs hc hH 3 (pc' := 55) (lv' := [(3, .int ((nI (l + 1)) + 1)), (0, .ref 50), (1, .int (nI s)), (2, .int (nI l))]) (st' := [.int ((nI (l + 1)) + 1)]) (μ' := z_ui μ 50 0 0) (by rfl) ?_
                      rw [show nI (l + 1) + 1 = nI (l + 2) from nI_s1 _]
                      refine z_rcs hc hH 3 (pc' := 58) (lv' := [(3, .int (nI (l + 2))), (0, .ref 50), (1, .int (nI s)), (2, .int (nI l))]) (st' := [.int ((nI l) + 3), .int (nI (l + 2))]) (μ' := z_ui μ 50 0 0) (by rfl) ?_
                      rw [show nI l + 3 = nI (l + 3) from nI_add l 3]
                      refine zq_ic hc hH (by rfl) (tg := 86) (by rfl) (fun h11 => ?_) (fun h11 => ?_)
                      · have h11 : (decide ((nI (l + 3)) ≤ (nI (l + 2)))) = true := decide_eq_true (cm_ge.mp h11)
                        exact absurd (Eq.trans (Eq.symm (kn_nlf (by omega) (by omega) (by omega))) h11) (by decide)
                      · have h11 : (decide ((nI (l + 3)) ≤ (nI (l + 2)))) = false := decide_eq_false (cn_ge.mp h11)
                        refine z_rcs hc hH 2 (pc' := 63) (lv' := [(3, .int (nI (l + 2))), (0, .ref 50), (1, .int (nI s)), (2, .int (nI l))]) (st' := [.ref 50, .int (nI (l + 2))]) (μ' := z_ui μ 50 0 0) (by rfl) ?_
                        refine zq_gfi hc hH (by rfl) (ci := 6) (f := 49) (by rfl) (by decide +kernel) (by rfl) ?_
                        refine zV1 (Z := Z) (ui_k (by first | decide | omega)) ?_
                        rw [hc49]
                        refine zq_ic hc hH (by rfl) (tg := 80) (by rfl) (fun h12 => ?_) (fun h12 => ?_)
                        · have h12 : (decide ((nI (l + 2)) = (nI l))) = true := decide_eq_true (cm_eq9.mp h12)
                          exact absurd (Eq.trans (Eq.symm (kn_ne (by omega) (by omega) (by omega))) h12) (by decide)
                        · have h12 : (decide ((nI (l + 2)) = (nI l))) = false := decide_eq_false (cn_eq.mp h12)
                          refine z_rcs hc hH 3 (pc' := 72) (lv' := [(3, .int (nI (l + 2))), (0, .ref 50), (1, .int (nI s)), (2, .int (nI l))]) (st' := [.int (nI (l + 2)), .int (nI s), .ref 50]) (μ' := z_ui μ 50 0 0) (by rfl) ?_
                          refine zq_call hc (z_cx_ok hH (by rfl)) (fc_X7_has_ d' (by omega) (z_ui μ 50 0 0) s (l + 2) hs4 (by omega)) (by decide +kernel) (fun r9 μ9 hq => ?_)
                          obtain ⟨hμ9, rfl⟩ := hq
                          rw [hμ9]
                          clear hμ9 μ9
                          rw [ui_o (by first | decide | omega)]
                          show Z 0 75 [(3, .int (nI (l + 2))), (0, .ref 50), (1, .int (nI s)), (2, .int (nI l))] [.int (μ.1 60 (34 * s + (l + 2)))] (z_ui μ 50 0 0)
                          refine zq_if hc hH (by rfl) (tg := 80) (by rfl) (fun h13 => ?_) (fun h13 => ?_)
                          · have h13 : (decide ((μ.1 60 (34 * s + (l + 2))) = 0)) = false := decide_eq_false (cm_ne.mp h13)
                            refine z_rcs hc hH 3 (pc' := 55) (lv' := [(3, .int ((nI (l + 2)) + 1)), (0, .ref 50), (1, .int (nI s)), (2, .int (nI l))]) (st' := [.int ((nI (l + 2)) + 1)]) (μ' := z_ui μ 50 0 0) (by rfl) ?_
                            rw [show nI (l + 2) + 1 = nI (l + 3) from nI_s1 _]
                            refine z_rcs hc hH 3 (pc' := 58) (lv' := [(3, .int (nI (l + 3))), (0, .ref 50), (1, .int (nI s)), (2, .int (nI l))]) (st' := [.int ((nI l) + 3), .int (nI (l + 3))]) (μ' := z_ui μ 50 0 0) (by rfl) ?_
                            rw [show nI l + 3 = nI (l + 3) from nI_add l 3]
                            refine zq_ic hc hH (by rfl) (tg := 86) (by rfl) (fun h14 => ?_) (fun h14 => ?_)
                            · have h14 : (decide ((nI (l + 3)) ≤ (nI (l + 3)))) = true := decide_eq_true (cm_ge.mp h14)
                              refine z_rcs hc hH 2 (pc' := 88) (lv' := [(3, .int (nI (l + 3))), (0, .ref 50), (1, .int (nI s)), (2, .int (nI l))]) (st' := [.ref 50, .ref 50]) (μ' := z_ui μ 50 0 0) (by rfl) ?_
                              refine zq_gfi hc hH (by rfl) (ci := 6) (f := 49) (by rfl) (by decide +kernel) (by rfl) ?_
                              refine zV1 (Z := Z) (ui_k (by first | decide | omega)) ?_
                              rw [hc49]
                              refine zq_pfi hc hH (by rfl) (ci := 6) (f := 50) (by rfl) (by decide +kernel) (by rfl) ?_
                              show Z 0 94 [(3, .int (nI (l + 3))), (0, .ref 50), (1, .int (nI s)), (2, .int (nI l))] [] (z_ui (z_ui μ 50 0 0) 50 50 (nI l))
                              refine z_rcs0 hc hH 2 (pc' := 96) (lv' := [(3, .int (nI (l + 3))), (0, .ref 50), (1, .int (nI s)), (2, .int (nI l))]) (st' := [.ref 50, .ref 50]) (by rfl) ?_
                              refine zq_gfi hc hH (by rfl) (ci := 6) (f := 49) (by rfl) (by decide +kernel) (by rfl) ?_
                              refine zV1 (Z := Z) (Eq.trans (ui_k (by first | decide | omega)) (ui_k (by first | decide | omega))) ?_
                              rw [hc49]
                              refine z_rcs0 hc hH 1 (pc' := 100) (lv' := [(3, .int (nI (l + 3))), (0, .ref 50), (1, .int (nI s)), (2, .int (nI l))]) (st' := [.int (nI l), .int (nI l), .ref 50]) (by rfl) ?_
                              refine zq_ic hc hH (by rfl) (tg := 118) (by rfl) (fun h15 => ?_) (fun h15 => ?_)
                              · have h15 : (decide ((nI l) = (nI l))) = false := decide_eq_false (cm_ne.mp h15)
                                exact absurd (Eq.trans (Eq.symm (kn_eq rfl)) h15) (by decide)
                              · have h15 : (decide ((nI l) = (nI l))) = true := decide_eq_true (cn_ne.mp h15)
                                refine z_rcs0 hc hH 4 (pc' := 109) (lv' := [(3, .int (nI (l + 3))), (0, .ref 50), (1, .int (nI s)), (2, .int (nI l))]) (st' := [.int 6, .int ((nI l) - (nI l) / 9 * 9), .ref 50]) (by rfl) ?_
                                have hJ16 : Z 0 142 [(3, .int (nI (l + 3))), (0, .ref 50), (1, .int (nI s)), (2, .int (nI l))] [.int (bif decide (6 ≤ ((nI l) - (nI l) / 9 * 9)) then (-1 : Int32) else nI (l + 3)), .ref 50] (z_ui (z_ui μ 50 0 0) 50 50 (nI l)) := by
                                  refine zq_pfi hc hH (by rfl) (ci := 6) (f := 51) (by rfl) (by decide +kernel) (by rfl) ?_
                                  show Z 0 145 [(3, .int (nI (l + 3))), (0, .ref 50), (1, .int (nI s)), (2, .int (nI l))] [] (z_ui (z_ui (z_ui μ 50 0 0) 50 50 (nI l)) 50 51 (bif decide (6 ≤ ((nI l) - (nI l) / 9 * 9)) then (-1 : Int32) else nI (l + 3)))
                                  refine z_rcs0 hc hH 6 (pc' := 151) (lv' := [(3, .int (nI l)), (0, .ref 50), (1, .int (nI s)), (2, .int (nI l))]) (st' := [.int ((nI l) + 3), .int (nI l)]) (by rfl) ?_
                                  rw [show nI l + 3 = nI (l + 3) from nI_add l 3]
                                  refine zq_ic hc hH (by rfl) (tg := 175) (by rfl) (fun h17 => ?_) (fun h17 => ?_)
                                  · have h17 : (decide ((nI (l + 3)) ≤ (nI l))) = true := decide_eq_true (cm_ge.mp h17)
                                    exact absurd (Eq.trans (Eq.symm (kn_nlf (by omega) (by omega) (by omega))) h17) (by decide)
                                  · have h17 : (decide ((nI (l + 3)) ≤ (nI l))) = false := decide_eq_false (cn_ge.mp h17)
                                    refine z_rcs0 hc hH 2 (pc' := 156) (lv' := [(3, .int (nI l)), (0, .ref 50), (1, .int (nI s)), (2, .int (nI l))]) (st' := [.ref 50, .int (nI l)]) (by rfl) ?_
                                    refine zq_gfi hc hH (by rfl) (ci := 6) (f := 49) (by rfl) (by decide +kernel) (by rfl) ?_
                                    refine zV1 (Z := Z) (Eq.trans (ui_k (by first | decide | omega)) (Eq.trans (ui_k (by first | decide | omega)) (ui_k (by first | decide | omega)))) ?_
                                    rw [hc49]
                                    refine zq_ic hc hH (by rfl) (tg := 169) (by rfl) (fun h18 => ?_) (fun h18 => ?_)
                                    · have h18 : (decide ((nI l) = (nI l))) = true := decide_eq_true (cm_eq9.mp h18)
                                      refine z_rcs0 hc hH 3 (pc' := 148) (lv' := [(3, .int ((nI l) + 1)), (0, .ref 50), (1, .int (nI s)), (2, .int (nI l))]) (st' := [.int ((nI l) + 1)]) (by rfl) ?_
                                      rw [nI_s1]
                                      refine z_rcs0 hc hH 3 (pc' := 151) (lv' := [(3, .int (nI (l + 1))), (0, .ref 50), (1, .int (nI s)), (2, .int (nI l))]) (st' := [.int ((nI l) + 3), .int (nI (l + 1))]) (by rfl) ?_
                                      rw [show nI l + 3 = nI (l + 3) from nI_add l 3]
                                      refine zq_ic hc hH (by rfl) (tg := 175) (by rfl) (fun h19 => ?_) (fun h19 => ?_)
                                      · have h19 : (decide ((nI (l + 3)) ≤ (nI (l + 1)))) = true := decide_eq_true (cm_ge.mp h19)
                                        exact absurd (Eq.trans (Eq.symm (kn_nlf (by omega) (by omega) (by omega))) h19) (by decide)
                                      · have h19 : (decide ((nI (l + 3)) ≤ (nI (l + 1)))) = false := decide_eq_false (cn_ge.mp h19)
                                        refine z_rcs0 hc hH 2 (pc' := 156) (lv' := [(3, .int (nI (l + 1))), (0, .ref 50), (1, .int (nI s)), (2, .int (nI l))]) (st' := [.ref 50, .int (nI (l + 1))]) (by rfl) ?_
                                        refine zq_gfi hc hH (by rfl) (ci := 6) (f := 49) (by rfl) (by decide +kernel) (by rfl) ?_
                                        refine zV1 (Z := Z) (Eq.trans (ui_k (by first | decide | omega)) (Eq.trans (ui_k (by first | decide | omega)) (ui_k (by first | decide | omega)))) ?_
                                        rw [hc49]
                                        refine zq_ic hc hH (by rfl) (tg := 169) (by rfl) (fun h20 => ?_) (fun h20 => ?_)
                                        · have h20 : (decide ((nI (l + 1)) = (nI l))) = true := decide_eq_true (cm_eq9.mp h20)
                                          exact absurd (Eq.trans (Eq.symm (kn_ne (by omega) (by omega) (by omega))) h20) (by decide)
                                        · have h20 : (decide ((nI (l + 1)) = (nI l))) = false := decide_eq_false (cn_eq.mp h20)
                                          refine z_rcs0 hc hH 4 (pc' := 166) (lv' := [(3, .int (nI (l + 1))), (0, .ref 50), (1, .int (nI s)), (2, .int (nI l))]) (st' := [.int (-1), .int (nI (l + 1)), .int (nI s), .ref 50]) (by rfl) ?_
                                          refine zq_call hc (z_cx_ok hH (by rfl)) (fc_X7_gives d' (by omega) (z_ui (z_ui (z_ui μ 50 0 0) 50 50 (nI l)) 50 51 (bif decide (6 ≤ ((nI l) - (nI l) / 9 * 9)) then (-1 : Int32) else nI (l + 3))) s (l + 1) (-1) hs4 (by omega)) (by decide +kernel) (fun r9 μ9 hq => ?_)
                                          obtain ⟨rfl, rfl⟩ := hq
                                          show Z 0 169 [(3, .int (nI (l + 1))), (0, .ref 50), (1, .int (nI s)), (2, .int (nI l))] [] (z_giv (z_ui (z_ui (z_ui μ 50 0 0) 50 50 (nI l)) 50 51 (bif decide (6 ≤ ((nI l) - (nI l) / 9 * 9)) then (-1 : Int32) else nI (l + 3))) s (l + 1) (-1))
                                          refine z_rcs0 hc hH 3 (pc' := 148) (lv' := [(3, .int ((nI (l + 1)) + 1)), (0, .ref 50), (1, .int (nI s)), (2, .int (nI l))]) (st' := [.int ((nI (l + 1)) + 1)]) (by rfl) ?_
                                          rw [show nI (l + 1) + 1 = nI (l + 2) from nI_s1 _]
                                          refine z_rcs0 hc hH 3 (pc' := 151) (lv' := [(3, .int (nI (l + 2))), (0, .ref 50), (1, .int (nI s)), (2, .int (nI l))]) (st' := [.int ((nI l) + 3), .int (nI (l + 2))]) (by rfl) ?_
                                          rw [show nI l + 3 = nI (l + 3) from nI_add l 3]
                                          refine zq_ic hc hH (by rfl) (tg := 175) (by rfl) (fun h21 => ?_) (fun h21 => ?_)
                                          · have h21 : (decide ((nI (l + 3)) ≤ (nI (l + 2)))) = true := decide_eq_true (cm_ge.mp h21)
                                            exact absurd (Eq.trans (Eq.symm (kn_nlf (by omega) (by omega) (by omega))) h21) (by decide)
                                          · have h21 : (decide ((nI (l + 3)) ≤ (nI (l + 2)))) = false := decide_eq_false (cn_ge.mp h21)
                                            refine z_rcs0 hc hH 2 (pc' := 156) (lv' := [(3, .int (nI (l + 2))), (0, .ref 50), (1, .int (nI s)), (2, .int (nI l))]) (st' := [.ref 50, .int (nI (l + 2))]) (by rfl) ?_
                                            refine zq_gfi hc hH (by rfl) (ci := 6) (f := 49) (by rfl) (by decide +kernel) (by rfl) ?_
                                            refine zV1 (Z := Z) (Eq.trans (giv_o (by first | decide | omega)) (Eq.trans (ui_k (by first | decide | omega)) (Eq.trans (ui_k (by first | decide | omega)) (ui_k (by first | decide | omega))))) ?_
                                            rw [hc49]
                                            refine zq_ic hc hH (by rfl) (tg := 169) (by rfl) (fun h22 => ?_) (fun h22 => ?_)
                                            · have h22 : (decide ((nI (l + 2)) = (nI l))) = true := decide_eq_true (cm_eq9.mp h22)
                                              exact absurd (Eq.trans (Eq.symm (kn_ne (by omega) (by omega) (by omega))) h22) (by decide)
                                            · have h22 : (decide ((nI (l + 2)) = (nI l))) = false := decide_eq_false (cn_eq.mp h22)
                                              refine z_rcs0 hc hH 4 (pc' := 166) (lv' := [(3, .int (nI (l + 2))), (0, .ref 50), (1, .int (nI s)), (2, .int (nI l))]) (st' := [.int (-1), .int (nI (l + 2)), .int (nI s), .ref 50]) (by rfl) ?_
                                              refine zq_call hc (z_cx_ok hH (by rfl)) (fc_X7_gives d' (by omega) (z_giv (z_ui (z_ui (z_ui μ 50 0 0) 50 50 (nI l)) 50 51 (bif decide (6 ≤ ((nI l) - (nI l) / 9 * 9)) then (-1 : Int32) else nI (l + 3))) s (l + 1) (-1)) s (l + 2) (-1) hs4 (by omega)) (by decide +kernel) (fun r9 μ9 hq => ?_)
                                              obtain ⟨rfl, rfl⟩ := hq
                                              show Z 0 169 [(3, .int (nI (l + 2))), (0, .ref 50), (1, .int (nI s)), (2, .int (nI l))] [] (z_giv (z_giv (z_ui (z_ui (z_ui μ 50 0 0) 50 50 (nI l)) 50 51 (bif decide (6 ≤ ((nI l) - (nI l) / 9 * 9)) then (-1 : Int32) else nI (l + 3))) s (l + 1) (-1)) s (l + 2) (-1))
                                              refine z_rcs0 hc hH 3 (pc' := 148) (lv' := [(3, .int ((nI (l + 2)) + 1)), (0, .ref 50), (1, .int (nI s)), (2, .int (nI l))]) (st' := [.int ((nI (l + 2)) + 1)]) (by rfl) ?_
                                              rw [show nI (l + 2) + 1 = nI (l + 3) from nI_s1 _]
                                              refine z_rcs0 hc hH 3 (pc' := 151) (lv' := [(3, .int (nI (l + 3))), (0, .ref 50), (1, .int (nI s)), (2, .int (nI l))]) (st' := [.int ((nI l) + 3), .int (nI (l + 3))]) (by rfl) ?_
                                              rw [show nI l + 3 = nI (l + 3) from nI_add l 3]
                                              refine zq_ic hc hH (by rfl) (tg := 175) (by rfl) (fun h23 => ?_) (fun h23 => ?_)
                                              · have h23 : (decide ((nI (l + 3)) ≤ (nI (l + 3)))) = true := decide_eq_true (cm_ge.mp h23)
                                                refine z_rcs0 hc hH 2 (pc' := 177) (lv' := [(3, .int (nI (l + 3))), (0, .ref 50), (1, .int (nI s)), (2, .int (nI l))]) (st' := [.int (nI s), .ref 50]) (by rfl) ?_
                                                refine zq_call hc (z_cx_ok hH (by rfl)) (hcd d' (by omega)) (by decide +kernel) (fun r9 μ9 hq => ?_)
                                                obtain ⟨hμ9, rfl⟩ := hq
                                                rw [hμ9]
                                                clear hμ9 μ9
                                                show Z 0 180 [(3, .int (nI (l + 3))), (0, .ref 50), (1, .int (nI s)), (2, .int (nI l))] [.int (nB cd)] _
                                                refine z_rcs0 hc hH 7 (pc' := 189) (lv' := [(4, .int (nI l)), (3, .int (nB cd)), (0, .ref 50), (1, .int (nI s)), (2, .int (nI l))]) (st' := [.int ((nI l) + 3), .int (nI l)]) (by rfl) ?_
                                                rw [show nI l + 3 = nI (l + 3) from nI_add l 3]
                                                refine zq_ic hc hH (by rfl) (tg := 215) (by rfl) (fun h24 => ?_) (fun h24 => ?_)
                                                · have h24 : (decide ((nI (l + 3)) ≤ (nI l))) = true := decide_eq_true (cm_ge.mp h24)
                                                  exact absurd (Eq.trans (Eq.symm (kn_nlf (by omega) (by omega) (by omega))) h24) (by decide)
                                                · have h24 : (decide ((nI (l + 3)) ≤ (nI l))) = false := decide_eq_false (cn_ge.mp h24)
                                                  refine z_rcs0 hc hH 2 (pc' := 195) (lv' := [(4, .int (nI l)), (3, .int (nB cd)), (0, .ref 50), (1, .int (nI s)), (2, .int (nI l))]) (st' := [.ref 50, .int (nI l)]) (by rfl) ?_
                                                  refine zq_gfi hc hH (by rfl) (ci := 6) (f := 49) (by rfl) (by decide +kernel) (by rfl) ?_
                                                  refine zV1 (Z := Z) (Eq.trans (giv_o (by first | decide | omega)) (Eq.trans (giv_o (by first | decide | omega)) (Eq.trans (ui_k (by first | decide | omega)) (Eq.trans (ui_k (by first | decide | omega)) (ui_k (by first | decide | omega)))))) ?_
                                                  rw [hc49]
                                                  refine zq_ic hc hH (by rfl) (tg := 209) (by rfl) (fun h25 => ?_) (fun h25 => ?_)
                                                  · have h25 : (decide ((nI l) = (nI l))) = true := decide_eq_true (cm_eq9.mp h25)
                                                    refine z_rcs0 hc hH 3 (pc' := 186) (lv' := [(4, .int ((nI l) + 1)), (3, .int (nB cd)), (0, .ref 50), (1, .int (nI s)), (2, .int (nI l))]) (st' := [.int ((nI l) + 1)]) (by rfl) ?_
                                                    rw [nI_s1]
                                                    refine z_rcs0 hc hH 3 (pc' := 189) (lv' := [(4, .int (nI (l + 1))), (3, .int (nB cd)), (0, .ref 50), (1, .int (nI s)), (2, .int (nI l))]) (st' := [.int ((nI l) + 3), .int (nI (l + 1))]) (by rfl) ?_
                                                    rw [show nI l + 3 = nI (l + 3) from nI_add l 3]
                                                    refine zq_ic hc hH (by rfl) (tg := 215) (by rfl) (fun h26 => ?_) (fun h26 => ?_)
                                                    · have h26 : (decide ((nI (l + 3)) ≤ (nI (l + 1)))) = true := decide_eq_true (cm_ge.mp h26)
                                                      exact absurd (Eq.trans (Eq.symm (kn_nlf (by omega) (by omega) (by omega))) h26) (by decide)
                                                    · have h26 : (decide ((nI (l + 3)) ≤ (nI (l + 1)))) = false := decide_eq_false (cn_ge.mp h26)
                                                      refine z_rcs0 hc hH 2 (pc' := 195) (lv' := [(4, .int (nI (l + 1))), (3, .int (nB cd)), (0, .ref 50), (1, .int (nI s)), (2, .int (nI l))]) (st' := [.ref 50, .int (nI (l + 1))]) (by rfl) ?_
                                                      refine zq_gfi hc hH (by rfl) (ci := 6) (f := 49) (by rfl) (by decide +kernel) (by rfl) ?_
                                                      refine zV1 (Z := Z) (Eq.trans (giv_o (by first | decide | omega)) (Eq.trans (giv_o (by first | decide | omega)) (Eq.trans (ui_k (by first | decide | omega)) (Eq.trans (ui_k (by first | decide | omega)) (ui_k (by first | decide | omega)))))) ?_
                                                      rw [hc49]
                                                      refine zq_ic hc hH (by rfl) (tg := 209) (by rfl) (fun h27 => ?_) (fun h27 => ?_)
                                                      · have h27 : (decide ((nI (l + 1)) = (nI l))) = true := decide_eq_true (cm_eq9.mp h27)
                                                        exact absurd (Eq.trans (Eq.symm (kn_ne (by omega) (by omega) (by omega))) h27) (by decide)
                                                      · have h27 : (decide ((nI (l + 1)) = (nI l))) = false := decide_eq_false (cn_eq.mp h27)
                                                        refine z_rcs0 hc hH 4 (pc' := 206) (lv' := [(4, .int (nI (l + 1))), (3, .int (nB cd)), (0, .ref 50), (1, .int (nI s)), (2, .int (nI l))]) (st' := [.int 1, .int (nI (l + 1)), .int (nI s), .ref 50]) (by rfl) ?_
                                                        refine zq_call hc (z_cx_ok hH (by rfl)) (fc_X7_gives d' (by omega) (z_giv (z_giv (z_ui (z_ui (z_ui μ 50 0 0) 50 50 (nI l)) 50 51 (bif decide (6 ≤ ((nI l) - (nI l) / 9 * 9)) then (-1 : Int32) else nI (l + 3))) s (l + 1) (-1)) s (l + 2) (-1)) s (l + 1) 1 hs4 (by omega)) (by decide +kernel) (fun r9 μ9 hq => ?_)
                                                        obtain ⟨rfl, rfl⟩ := hq
                                                        show Z 0 209 [(4, .int (nI (l + 1))), (3, .int (nB cd)), (0, .ref 50), (1, .int (nI s)), (2, .int (nI l))] [] (z_giv (z_giv (z_giv (z_ui (z_ui (z_ui μ 50 0 0) 50 50 (nI l)) 50 51 (bif decide (6 ≤ ((nI l) - (nI l) / 9 * 9)) then (-1 : Int32) else nI (l + 3))) s (l + 1) (-1)) s (l + 2) (-1)) s (l + 1) 1)
                                                        refine z_rcs0 hc hH 3 (pc' := 186) (lv' := [(4, .int ((nI (l + 1)) + 1)), (3, .int (nB cd)), (0, .ref 50), (1, .int (nI s)), (2, .int (nI l))]) (st' := [.int ((nI (l + 1)) + 1)]) (by rfl) ?_
                                                        rw [show nI (l + 1) + 1 = nI (l + 2) from nI_s1 _]
                                                        refine z_rcs0 hc hH 3 (pc' := 189) (lv' := [(4, .int (nI (l + 2))), (3, .int (nB cd)), (0, .ref 50), (1, .int (nI s)), (2, .int (nI l))]) (st' := [.int ((nI l) + 3), .int (nI (l + 2))]) (by rfl) ?_
                                                        rw [show nI l + 3 = nI (l + 3) from nI_add l 3]
                                                        refine zq_ic hc hH (by rfl) (tg := 215) (by rfl) (fun h28 => ?_) (fun h28 => ?_)
                                                        · have h28 : (decide ((nI (l + 3)) ≤ (nI (l + 2)))) = true := decide_eq_true (cm_ge.mp h28)
                                                          exact absurd (Eq.trans (Eq.symm (kn_nlf (by omega) (by omega) (by omega))) h28) (by decide)
                                                        · have h28 : (decide ((nI (l + 3)) ≤ (nI (l + 2)))) = false := decide_eq_false (cn_ge.mp h28)
                                                          refine z_rcs0 hc hH 2 (pc' := 195) (lv' := [(4, .int (nI (l + 2))), (3, .int (nB cd)), (0, .ref 50), (1, .int (nI s)), (2, .int (nI l))]) (st' := [.ref 50, .int (nI (l + 2))]) (by rfl) ?_
                                                          refine zq_gfi hc hH (by rfl) (ci := 6) (f := 49) (by rfl) (by decide +kernel) (by rfl) ?_
                                                          refine zV1 (Z := Z) (Eq.trans (giv_o (by first | decide | omega)) (Eq.trans (giv_o (by first | decide | omega)) (Eq.trans (giv_o (by first | decide | omega)) (Eq.trans (ui_k (by first | decide | omega)) (Eq.trans (ui_k (by first | decide | omega)) (ui_k (by first | decide | omega))))))) ?_
                                                          rw [hc49]
                                                          refine zq_ic hc hH (by rfl) (tg := 209) (by rfl) (fun h29 => ?_) (fun h29 => ?_)
                                                          · have h29 : (decide ((nI (l + 2)) = (nI l))) = true := decide_eq_true (cm_eq9.mp h29)
                                                            exact absurd (Eq.trans (Eq.symm (kn_ne (by omega) (by omega) (by omega))) h29) (by decide)
                                                          · have h29 : (decide ((nI (l + 2)) = (nI l))) = false := decide_eq_false (cn_eq.mp h29)
                                                            refine z_rcs0 hc hH 4 (pc' := 206) (lv' := [(4, .int (nI (l + 2))), (3, .int (nB cd)), (0, .ref 50), (1, .int (nI s)), (2, .int (nI l))]) (st' := [.int 1, .int (nI (l + 2)), .int (nI s), .ref 50]) (by rfl) ?_
                                                            refine zq_call hc (z_cx_ok hH (by rfl)) (fc_X7_gives d' (by omega) (z_giv (z_giv (z_giv (z_ui (z_ui (z_ui μ 50 0 0) 50 50 (nI l)) 50 51 (bif decide (6 ≤ ((nI l) - (nI l) / 9 * 9)) then (-1 : Int32) else nI (l + 3))) s (l + 1) (-1)) s (l + 2) (-1)) s (l + 1) 1) s (l + 2) 1 hs4 (by omega)) (by decide +kernel) (fun r9 μ9 hq => ?_)
                                                            obtain ⟨rfl, rfl⟩ := hq
                                                            show Z 0 209 [(4, .int (nI (l + 2))), (3, .int (nB cd)), (0, .ref 50), (1, .int (nI s)), (2, .int (nI l))] [] (z_giv (z_giv (z_giv (z_giv (z_ui (z_ui (z_ui μ 50 0 0) 50 50 (nI l)) 50 51 (bif decide (6 ≤ ((nI l) - (nI l) / 9 * 9)) then (-1 : Int32) else nI (l + 3))) s (l + 1) (-1)) s (l + 2) (-1)) s (l + 1) 1) s (l + 2) 1)
                                                            refine z_rcs0 hc hH 3 (pc' := 186) (lv' := [(4, .int ((nI (l + 2)) + 1)), (3, .int (nB cd)), (0, .ref 50), (1, .int (nI s)), (2, .int (nI l))]) (st' := [.int ((nI (l + 2)) + 1)]) (by rfl) ?_
                                                            rw [show nI (l + 2) + 1 = nI (l + 3) from nI_s1 _]
                                                            refine z_rcs0 hc hH 3 (pc' := 189) (lv' := [(4, .int (nI (l + 3))), (3, .int (nB cd)), (0, .ref 50), (1, .int (nI s)), (2, .int (nI l))]) (st' := [.int ((nI l) + 3), .int (nI (l + 3))]) (by rfl) ?_
                                                            rw [show nI l + 3 = nI (l + 3) from nI_add l 3]
                                                            refine zq_ic hc hH (by rfl) (tg := 215) (by rfl) (fun h30 => ?_) (fun h30 => ?_)
                                                            · have h30 : (decide ((nI (l + 3)) ≤ (nI (l + 3)))) = true := decide_eq_true (cm_ge.mp h30)
                                                              refine z_rcs0 hc hH 1 (pc' := 216) (lv' := [(4, .int (nI (l + 3))), (3, .int (nB cd)), (0, .ref 50), (1, .int (nI s)), (2, .int (nI l))]) (st' := [.int (nB cd)]) (by rfl) ?_
                                                              refine zq_if hc hH (by rfl) (tg := 221) (by rfl) (fun h31 => ?_) (fun h31 => ?_)
                                                              · have h31 : (cd) = true := nB_n.mp (cm_ne.mp h31)
                                                                refine z_rcs0 hc hH 1 (pc' := 222) (lv' := [(4, .int (nI (l + 3))), (3, .int (nB cd)), (0, .ref 50), (1, .int (nI s)), (2, .int (nI l))]) (st' := [.ref 50]) (by rfl) ?_
                                                                refine zq_call hc (z_cx_ok hH (by rfl)) (hov d' (by omega)) (by decide +kernel) (fun r9 W hq => ?_)
                                                                obtain ⟨rfl, hO, hAW⟩ := hq
                                                                show Z 0 225 [(4, .int (nI (l + 3))), (3, .int (nB cd)), (0, .ref 50), (1, .int (nI s)), (2, .int (nI l))] [] W
                                                                refine z_rcs hc hH 6 (pc' := 233) (lv' := [(4, .int (nI l)), (3, .int (nB cd)), (0, .ref 50), (1, .int (nI s)), (2, .int (nI l))]) (st' := [.int ((nI l) + 3), .int (nI l)]) (μ' := W) (by rfl) ?_
                                                                rw [show nI l + 3 = nI (l + 3) from nI_add l 3]
                                                                refine zq_ic hc hH (by rfl) (tg := 259) (by rfl) (fun h32 => ?_) (fun h32 => ?_)
                                                                · have h32 : (decide ((nI (l + 3)) ≤ (nI l))) = true := decide_eq_true (cm_ge.mp h32)
                                                                  exact absurd (Eq.trans (Eq.symm (kn_nlf (by omega) (by omega) (by omega))) h32) (by decide)
                                                                · have h32 : (decide ((nI (l + 3)) ≤ (nI l))) = false := decide_eq_false (cn_ge.mp h32)
                                                                  refine z_rcs hc hH 2 (pc' := 239) (lv' := [(4, .int (nI l)), (3, .int (nB cd)), (0, .ref 50), (1, .int (nI s)), (2, .int (nI l))]) (st' := [.ref 50, .int (nI l)]) (μ' := W) (by rfl) ?_
                                                                  refine zq_gfi hc hH (by rfl) (ci := 6) (f := 49) (by rfl) (by decide +kernel) (by rfl) ?_
                                                                  rw [(hO 50 49 (by omega)).1]
                                                                  rw [o49]
                                                                  refine zq_ic hc hH (by rfl) (tg := 253) (by rfl) (fun h33 => ?_) (fun h33 => ?_)
                                                                  · have h33 : (decide ((nI l) = (nI l))) = true := decide_eq_true (cm_eq9.mp h33)
                                                                    refine z_rcs hc hH 3 (pc' := 230) (lv' := [(4, .int ((nI l) + 1)), (3, .int (nB cd)), (0, .ref 50), (1, .int (nI s)), (2, .int (nI l))]) (st' := [.int ((nI l) + 1)]) (μ' := W) (by rfl) ?_
                                                                    rw [nI_s1]
                                                                    refine z_rcs hc hH 3 (pc' := 233) (lv' := [(4, .int (nI (l + 1))), (3, .int (nB cd)), (0, .ref 50), (1, .int (nI s)), (2, .int (nI l))]) (st' := [.int ((nI l) + 3), .int (nI (l + 1))]) (μ' := W) (by rfl) ?_
                                                                    rw [show nI l + 3 = nI (l + 3) from nI_add l 3]
                                                                    refine zq_ic hc hH (by rfl) (tg := 259) (by rfl) (fun h34 => ?_) (fun h34 => ?_)
                                                                    · have h34 : (decide ((nI (l + 3)) ≤ (nI (l + 1)))) = true := decide_eq_true (cm_ge.mp h34)
                                                                      exact absurd (Eq.trans (Eq.symm (kn_nlf (by omega) (by omega) (by omega))) h34) (by decide)
                                                                    · have h34 : (decide ((nI (l + 3)) ≤ (nI (l + 1)))) = false := decide_eq_false (cn_ge.mp h34)
                                                                      refine z_rcs hc hH 2 (pc' := 239) (lv' := [(4, .int (nI (l + 1))), (3, .int (nB cd)), (0, .ref 50), (1, .int (nI s)), (2, .int (nI l))]) (st' := [.ref 50, .int (nI (l + 1))]) (μ' := W) (by rfl) ?_
                                                                      refine zq_gfi hc hH (by rfl) (ci := 6) (f := 49) (by rfl) (by decide +kernel) (by rfl) ?_
                                                                      rw [(hO 50 49 (by omega)).1]
                                                                      rw [o49]
                                                                      refine zq_ic hc hH (by rfl) (tg := 253) (by rfl) (fun h35 => ?_) (fun h35 => ?_)
                                                                      · have h35 : (decide ((nI (l + 1)) = (nI l))) = true := decide_eq_true (cm_eq9.mp h35)
                                                                        exact absurd (Eq.trans (Eq.symm (kn_ne (by omega) (by omega) (by omega))) h35) (by decide)
                                                                      · have h35 : (decide ((nI (l + 1)) = (nI l))) = false := decide_eq_false (cn_eq.mp h35)
                                                                        refine z_rcs hc hH 4 (pc' := 250) (lv' := [(4, .int (nI (l + 1))), (3, .int (nB cd)), (0, .ref 50), (1, .int (nI s)), (2, .int (nI l))]) (st' := [.int (-1), .int (nI (l + 1)), .int (nI s), .ref 50]) (μ' := W) (by rfl) ?_
                                                                        refine zq_call hc (z_cx_ok hH (by rfl)) (fc_X7_gives d' (by omega) W s (l + 1) (-1) hs4 (by omega)) (by decide +kernel) (fun r9 μ9 hq => ?_)
                                                                        obtain ⟨rfl, rfl⟩ := hq
                                                                        show Z 0 253 [(4, .int (nI (l + 1))), (3, .int (nB cd)), (0, .ref 50), (1, .int (nI s)), (2, .int (nI l))] [] (z_giv W s (l + 1) (-1))
                                                                        refine z_rcs0 hc hH 3 (pc' := 230) (lv' := [(4, .int ((nI (l + 1)) + 1)), (3, .int (nB cd)), (0, .ref 50), (1, .int (nI s)), (2, .int (nI l))]) (st' := [.int ((nI (l + 1)) + 1)]) (by rfl) ?_
                                                                        rw [show nI (l + 1) + 1 = nI (l + 2) from nI_s1 _]
                                                                        refine z_rcs0 hc hH 3 (pc' := 233) (lv' := [(4, .int (nI (l + 2))), (3, .int (nB cd)), (0, .ref 50), (1, .int (nI s)), (2, .int (nI l))]) (st' := [.int ((nI l) + 3), .int (nI (l + 2))]) (by rfl) ?_
                                                                        rw [show nI l + 3 = nI (l + 3) from nI_add l 3]
                                                                        refine zq_ic hc hH (by rfl) (tg := 259) (by rfl) (fun h36 => ?_) (fun h36 => ?_)
                                                                        · have h36 : (decide ((nI (l + 3)) ≤ (nI (l + 2)))) = true := decide_eq_true (cm_ge.mp h36)
                                                                          exact absurd (Eq.trans (Eq.symm (kn_nlf (by omega) (by omega) (by omega))) h36) (by decide)
                                                                        · have h36 : (decide ((nI (l + 3)) ≤ (nI (l + 2)))) = false := decide_eq_false (cn_ge.mp h36)
                                                                          refine z_rcs0 hc hH 2 (pc' := 239) (lv' := [(4, .int (nI (l + 2))), (3, .int (nB cd)), (0, .ref 50), (1, .int (nI s)), (2, .int (nI l))]) (st' := [.ref 50, .int (nI (l + 2))]) (by rfl) ?_
                                                                          refine zq_gfi hc hH (by rfl) (ci := 6) (f := 49) (by rfl) (by decide +kernel) (by rfl) ?_
                                                                          rw [giv_o (by first | decide | omega), (hO 50 49 (by omega)).1]
                                                                          rw [o49]
                                                                          refine zq_ic hc hH (by rfl) (tg := 253) (by rfl) (fun h37 => ?_) (fun h37 => ?_)
                                                                          · have h37 : (decide ((nI (l + 2)) = (nI l))) = true := decide_eq_true (cm_eq9.mp h37)
                                                                            exact absurd (Eq.trans (Eq.symm (kn_ne (by omega) (by omega) (by omega))) h37) (by decide)
                                                                          · have h37 : (decide ((nI (l + 2)) = (nI l))) = false := decide_eq_false (cn_eq.mp h37)
                                                                            refine z_rcs0 hc hH 4 (pc' := 250) (lv' := [(4, .int (nI (l + 2))), (3, .int (nB cd)), (0, .ref 50), (1, .int (nI s)), (2, .int (nI l))]) (st' := [.int (-1), .int (nI (l + 2)), .int (nI s), .ref 50]) (by rfl) ?_
                                                                            refine zq_call hc (z_cx_ok hH (by rfl)) (fc_X7_gives d' (by omega) (z_giv W s (l + 1) (-1)) s (l + 2) (-1) hs4 (by omega)) (by decide +kernel) (fun r9 μ9 hq => ?_)
                                                                            obtain ⟨rfl, rfl⟩ := hq
                                                                            show Z 0 253 [(4, .int (nI (l + 2))), (3, .int (nB cd)), (0, .ref 50), (1, .int (nI s)), (2, .int (nI l))] [] (z_giv (z_giv W s (l + 1) (-1)) s (l + 2) (-1))
                                                                            refine z_rcs0 hc hH 3 (pc' := 230) (lv' := [(4, .int ((nI (l + 2)) + 1)), (3, .int (nB cd)), (0, .ref 50), (1, .int (nI s)), (2, .int (nI l))]) (st' := [.int ((nI (l + 2)) + 1)]) (by rfl) ?_
                                                                            rw [show nI (l + 2) + 1 = nI (l + 3) from nI_s1 _]
                                                                            refine z_rcs0 hc hH 3 (pc' := 233) (lv' := [(4, .int (nI (l + 3))), (3, .int (nB cd)), (0, .ref 50), (1, .int (nI s)), (2, .int (nI l))]) (st' := [.int ((nI l) + 3), .int (nI (l + 3))]) (by rfl) ?_
                                                                            rw [show nI l + 3 = nI (l + 3) from nI_add l 3]
                                                                            refine zq_ic hc hH (by rfl) (tg := 259) (by rfl) (fun h38 => ?_) (fun h38 => ?_)
                                                                            · have h38 : (decide ((nI (l + 3)) ≤ (nI (l + 3)))) = true := decide_eq_true (cm_ge.mp h38)
                                                                              refine z_rcs0 hc hH 4 (pc' := 263) (lv' := [(4, .int (nI (l + 3))), (3, .int (nB cd)), (0, .ref 50), (1, .int (nI s)), (2, .int (nI l))]) (st' := [.int (nI l), .int 0, .int (nI s), .ref 50]) (by rfl) ?_
                                                                              refine zq_call hc (z_cx_ok hH (by rfl)) (gm_claims d' (by omega) (z_giv (z_giv W s (l + 1) (-1)) s (l + 2) (-1)) s q 0 (nI l) hs4 hq4 (by rw [giv_o (by first | decide | omega), giv_o (by first | decide | omega), (hO 64 s (by omega)).1]; exact o64)) (by decide +kernel) (fun r9 μ9 hq => ?_)
                                                                              obtain ⟨rfl, rfl⟩ := hq
                                                                              show Z 0 266 [(4, .int (nI (l + 3))), (3, .int (nB cd)), (0, .ref 50), (1, .int (nI s)), (2, .int (nI l))] [] (clM (z_giv (z_giv W s (l + 1) (-1)) s (l + 2) (-1)) s q 0 (nI l))
                                                                              refine z_rcs0 hc hH 1 (pc' := 267) (lv' := [(4, .int (nI (l + 3))), (3, .int (nB cd)), (0, .ref 50), (1, .int (nI s)), (2, .int (nI l))]) (st' := [.int 1]) (by rfl) ?_
                                                                              exact hr 0 267 _ _ _ (some (.int 1)) (by decide +kernel) (z_rx_ok hH (by rfl)) (Or.inl ⟨by simp only [ruC0, h1, h2, h3, h10, h13, h31, Bool.true_or, Bool.true_and, Bool.and_true, Bool.false_and, Bool.and_false, Bool.not_true, Bool.not_false, Bool.or_true, Bool.or_false, Bool.false_or, cond_true, cond_false], rfl, by unfold ruO0; exact SM_cl (SM_giv (SM_giv (hO)))⟩)
                                                                            · have h38 : (decide ((nI (l + 3)) ≤ (nI (l + 3)))) = false := decide_eq_false (cn_ge.mp h38)
                                                                              exact absurd (Eq.trans (Eq.symm (kn_nle (by omega) (by omega) (by omega))) h38) (by decide)
                                                                  · have h33 : (decide ((nI l) = (nI l))) = false := decide_eq_false (cn_eq.mp h33)
                                                                    exact absurd (Eq.trans (Eq.symm (kn_eq rfl)) h33) (by decide)
                                                              · have h31 : (cd) = false := nB_z.mp (cn_ne.mp h31)
                                                                refine z_rcs hc hH 1 (pc' := 220) (lv' := [(4, .int (nI (l + 3))), (3, .int (nB cd)), (0, .ref 50), (1, .int (nI s)), (2, .int (nI l))]) (st' := [.int 0]) (μ' := z_giv (z_giv (z_giv (z_giv (z_ui (z_ui (z_ui μ 50 0 0) 50 50 (nI l)) 50 51 (bif decide (6 ≤ ((nI l) - (nI l) / 9 * 9)) then (-1 : Int32) else nI (l + 3))) s (l + 1) (-1)) s (l + 2) (-1)) s (l + 1) 1) s (l + 2) 1) (by rfl) ?_
                                                                exact hr 0 220 _ _ _ (some (.int 0)) (by decide +kernel) (z_rx_ok hH (by rfl)) (Or.inr ⟨by simp only [ruC0, h1, h2, h3, h10, h13, h31, Bool.true_or, Bool.true_and, Bool.and_true, Bool.false_and, Bool.and_false, Bool.not_true, Bool.not_false, Bool.or_true, Bool.or_false, Bool.false_or, cond_true, cond_false], rfl, Or.inr rfl⟩)
                                                            · have h30 : (decide ((nI (l + 3)) ≤ (nI (l + 3)))) = false := decide_eq_false (cn_ge.mp h30)
                                                              exact absurd (Eq.trans (Eq.symm (kn_nle (by omega) (by omega) (by omega))) h30) (by decide)
                                                  · have h25 : (decide ((nI l) = (nI l))) = false := decide_eq_false (cn_eq.mp h25)
                                                    exact absurd (Eq.trans (Eq.symm (kn_eq rfl)) h25) (by decide)
                                              · have h23 : (decide ((nI (l + 3)) ≤ (nI (l + 3)))) = false := decide_eq_false (cn_ge.mp h23)
                                                exact absurd (Eq.trans (Eq.symm (kn_nle (by omega) (by omega) (by omega))) h23) (by decide)
                                    · have h18 : (decide ((nI l) = (nI l))) = false := decide_eq_false (cn_eq.mp h18)
                                      exact absurd (Eq.trans (Eq.symm (kn_eq rfl)) h18) (by decide)
                                refine zq_ic hc hH (by rfl) (tg := 118) (by rfl) (fun h39 => ?_) (fun h39 => ?_)
                                · have h39 : (decide (6 ≤ ((nI l) - (nI l) / 9 * 9))) = true := decide_eq_true (cm_ge.mp h39)
                                  refine z_rcs hc hH 1 (pc' := 119) (lv' := [(3, .int (nI (l + 3))), (0, .ref 50), (1, .int (nI s)), (2, .int (nI l))]) (st' := [.ref 50, .ref 50]) (μ' := z_ui (z_ui μ 50 0 0) 50 50 (nI l)) (by rfl) ?_
                                  refine zq_gfi hc hH (by rfl) (ci := 6) (f := 49) (by rfl) (by decide +kernel) (by rfl) ?_
                                  refine zV1 (Z := Z) (Eq.trans (ui_k (by first | decide | omega)) (ui_k (by first | decide | omega))) ?_
                                  rw [hc49]
                                  refine z_rcs0 hc hH 3 (pc' := 125) (lv' := [(3, .int (nI (l + 3))), (0, .ref 50), (1, .int (nI s)), (2, .int (nI l))]) (st' := [.int ((nI l) + 2), .int (nI l), .ref 50]) (by rfl) ?_
                                  rw [show nI l + 2 = nI (l + 2) from nI_add l 2]
                                  refine zq_ic hc hH (by rfl) (tg := 141) (by rfl) (fun h40 => ?_) (fun h40 => ?_)
                                  · have h40 : (decide ((nI l) = (nI (l + 2)))) = false := decide_eq_false (cm_ne.mp h40)
                                    refine z_rcs0 hc hH 1 (pc' := 142) (lv' := [(3, .int (nI (l + 3))), (0, .ref 50), (1, .int (nI s)), (2, .int (nI l))]) (st' := [.int (-1), .ref 50]) (by rfl) ?_
                                    exact zJ hJ16 rfl (by first | with_reducible rfl | (simp only [h39, lb_f, Int64.or_zero, Int32.add_zero, nB_t, nB_f, Bool.not_true, Bool.not_false, Bool.and_true, Bool.true_and, Bool.false_and, Bool.and_false, Bool.or_true, Bool.true_or, Bool.false_or, Bool.or_false, cond_true, cond_false]; done) | rfl) rfl
                                  · have h40 : (decide ((nI l) = (nI (l + 2)))) = true := decide_eq_true (cn_ne.mp h40)
                                    exact absurd (Eq.trans (Eq.symm (kn_ne (by omega) (by omega) (by omega))) h40) (by decide)
                                · have h39 : (decide (6 ≤ ((nI l) - (nI l) / 9 * 9))) = false := decide_eq_false (cn_ge.mp h39)
                                  refine z_rcs0 hc hH 3 (pc' := 115) (lv' := [(3, .int (nI (l + 3))), (0, .ref 50), (1, .int (nI s)), (2, .int (nI l))]) (st' := [.int ((nI l) + 3), .ref 50]) (by rfl) ?_
                                  rw [show nI l + 3 = nI (l + 3) from nI_add l 3]
                                  refine z_rcs0 hc hH 1 (pc' := 142) (lv' := [(3, .int (nI (l + 3))), (0, .ref 50), (1, .int (nI s)), (2, .int (nI l))]) (st' := [.int (nI (l + 3)), .ref 50]) (by rfl) ?_
                                  exact zJ hJ16 rfl (by first | with_reducible rfl | (simp only [h39, lb_f, Int64.or_zero, Int32.add_zero, nB_t, nB_f, Bool.not_true, Bool.not_false, Bool.and_true, Bool.true_and, Bool.false_and, Bool.and_false, Bool.or_true, Bool.true_or, Bool.false_or, Bool.or_false, cond_true, cond_false]; done) | rfl) rfl
                            · have h14 : (decide ((nI (l + 3)) ≤ (nI (l + 3)))) = false := decide_eq_false (cn_ge.mp h14)
                              exact absurd (Eq.trans (Eq.symm (kn_nle (by omega) (by omega) (by omega))) h14) (by decide)
                          · have h13 : (decide ((μ.1 60 (34 * s + (l + 2))) = 0)) = true := decide_eq_true (cn_ne.mp h13)
                            refine z_rcs hc hH 1 (pc' := 79) (lv' := [(3, .int (nI (l + 2))), (0, .ref 50), (1, .int (nI s)), (2, .int (nI l))]) (st' := [.int 0]) (μ' := z_ui μ 50 0 0) (by rfl) ?_
                            exact hr 0 79 _ _ _ (some (.int 0)) (by decide +kernel) (z_rx_ok hH (by rfl)) (Or.inr ⟨by simp only [ruC0, h1, h2, h3, h10, h13, Bool.true_or, Bool.true_and, Bool.and_true, Bool.false_and, Bool.and_false, Bool.not_true, Bool.not_false, Bool.or_true, Bool.or_false, Bool.false_or, cond_true, cond_false], rfl, Or.inl rfl⟩)
                    · have h10 : (decide ((μ.1 60 (34 * s + (l + 1))) = 0)) = true := decide_eq_true (cn_ne.mp h10)
                      refine z_rcs hc hH 1 (pc' := 79) (lv' := [(3, .int (nI (l + 1))), (0, .ref 50), (1, .int (nI s)), (2, .int (nI l))]) (st' := [.int 0]) (μ' := z_ui μ 50 0 0) (by rfl) ?_
                      exact hr 0 79 _ _ _ (some (.int 0)) (by decide +kernel) (z_rx_ok hH (by rfl)) (Or.inr ⟨by simp only [ruC0, h1, h2, h3, h10, Bool.true_or, Bool.true_and, Bool.and_true, Bool.false_and, Bool.and_false, Bool.not_true, Bool.not_false, Bool.or_true, Bool.or_false, Bool.false_or, cond_true, cond_false], rfl, Or.inl rfl⟩)
              · have h7 : (decide ((nI l) = (nI l))) = false := decide_eq_false (cn_eq.mp h7)
                exact absurd (Eq.trans (Eq.symm (kn_eq rfl)) h7) (by decide)
          · have h5 : (decide ((nI l) ≤ (nI (l + 2)))) = false := decide_eq_false (cn_le.mp h5)
            exact absurd (Eq.trans (Eq.symm (kn_nle (by omega) (by omega) (by omega))) h5) (by decide)
noncomputable abbrev ruC1 (μ : zM) (s l u1 : Nat) (mc ir cd : Bool) : Bool := (mc) && ((decide ((nI s) = (nI u1)))) && (ir) && (!(decide ((μ.1 60 (34 * s + l)) = 0))) && (!(decide ((μ.1 60 (34 * s + (l + 2))) = 0))) && (cd)
noncomputable def ruM1 (μ : zM) (s l : Nat) : zM := z_giv (z_giv (z_giv (z_giv (z_ui (z_ui (z_ui μ 50 0 0) 50 50 (nI (l + 1))) 50 51 (-1)) s l (-1)) s (l + 2) (-1)) s l 1) s (l + 2) 1
noncomputable def ruO1 (O : zM) (s l q : Nat) : zM := clM (z_giv (z_giv O s l (-1)) s (l + 2) (-1)) s q 0 (nI l)
theorem gm_run1 (d : Nat) (hd : 702 ≤ d) (μ : zM) (s q l t u1 : Nat) (hs4 : s < 4) (hq4 : q < 4) (hl : l + 2 ≤ 33) (ht4 : t < 4) (ht : μ.1 50 45 = nI t) (hu1 : (t + 1) % 4 = u1) (hu14 : u1 < 4) (hc49 : μ.1 50 49 = nI (l + 1)) (mc : Bool) (hmc : ∀ d, 2 ≤ d → z_C d mi_X7_mayClaim [.ref 50, .int (nI s)] (z_ui μ 50 0 0) (zR (z_ui μ 50 0 0) (.int (nB mc)))) (ir : Bool) (hir : ∀ d, 1 ≤ d → z_C d mi_X7_isRun [.int (nI l)] (z_ui μ 50 0 0) (zR (z_ui μ 50 0 0) (.int (nB ir)))) (cd : Bool) (hcd : ∀ d, 2 ≤ d → z_C d mi_X7_canDiscard [.ref 50, .int (nI s)] (z_giv (z_giv (z_ui (z_ui (z_ui μ 50 0 0) 50 50 (nI (l + 1))) 50 51 (-1)) s l (-1)) s (l + 2) (-1)) (zR (z_giv (z_giv (z_ui (z_ui (z_ui μ 50 0 0) 50 50 (nI (l + 1))) 50 51 (-1)) s l (-1)) s (l + 2) (-1)) (.int (nB cd)))) (O : zM) (hov : ∀ d, 701 ≤ d → z_C d mi_X7_over [.ref 50] (ruM1 μ s l) (fun r W => r = none ∧ SMj O W ∧ a_H W)) (o49 : O.1 50 49 = nI (l + 1)) (o64 : O.1 64 s = nI q) : z_C d mi_X7_run [.ref 50, .int (nI s), .int (nI l)] μ (fun r μ' => (ruC1 μ s l u1 mc ir cd = true ∧ r = some (.int 1) ∧ SMj (ruO1 O s l q) μ') ∨ (ruC1 μ s l u1 mc ir cd = false ∧ r = some (.int 0) ∧ (μ' = z_ui μ 50 0 0 ∨ μ' = ruM1 μ s l))) := by
  refine z_C_in (by decide) (by omega) (fun d' Z ed hc hr => ?_)
  have hH : zH mi_X7_run zt_X7_run 79 7 5 := hh_X7_run
  refine z_rcs hc hH 2 (pc' := 2) (lv' := [(0, .ref 50), (1, .int (nI s)), (2, .int (nI l))]) (st' := [.int 0, .ref 50]) (μ' := μ) (by rfl) ?_
  refine zq_pfi hc hH (by rfl) (ci := 6) (f := 0) (by rfl) (by decide +kernel) (by rfl) ?_
  show Z 0 5 [(0, .ref 50), (1, .int (nI s)), (2, .int (nI l))] [] (z_ui μ 50 0 0)
  refine z_rcs hc hH 2 (pc' := 7) (lv' := [(0, .ref 50), (1, .int (nI s)), (2, .int (nI l))]) (st' := [.int (nI s), .ref 50]) (μ' := z_ui μ 50 0 0) (by rfl) ?_
  refine zq_call hc (z_cx_ok hH (by rfl)) (hmc d' (by omega)) (by decide +kernel) (fun r9 μ9 hq => ?_)
  obtain ⟨hμ9, rfl⟩ := hq
  rw [hμ9]
  clear hμ9 μ9
  show Z 0 10 [(0, .ref 50), (1, .int (nI s)), (2, .int (nI l))] [.int (nB mc)] (z_ui μ 50 0 0)
  refine zq_if hc hH (by rfl) (tg := 50) (by rfl) (fun h1 => ?_) (fun h1 => ?_)
  · have h1 : (mc) = false := nB_z.mp (cm_eq9.mp h1)
    refine z_rcs hc hH 1 (pc' := 51) (lv' := [(0, .ref 50), (1, .int (nI s)), (2, .int (nI l))]) (st' := [.int 0]) (μ' := z_ui μ 50 0 0) (by rfl) ?_
    exact hr 0 51 _ _ _ (some (.int 0)) (by decide +kernel) (z_rx_ok hH (by rfl)) (Or.inr ⟨by simp only [ruC1, h1, Bool.true_or, Bool.true_and, Bool.and_true, Bool.false_and, Bool.and_false, Bool.not_true, Bool.not_false, Bool.or_true, Bool.or_false, Bool.false_or, cond_true, cond_false], rfl, Or.inl rfl⟩)
  · have h1 : (mc) = true := nB_n.mp (cn_eq.mp h1)
    refine z_rcs hc hH 2 (pc' := 15) (lv' := [(0, .ref 50), (1, .int (nI s)), (2, .int (nI l))]) (st' := [.ref 50, .int (nI s)]) (μ' := z_ui μ 50 0 0) (by rfl) ?_
    refine zq_gfi hc hH (by rfl) (ci := 6) (f := 45) (by rfl) (by decide +kernel) (by rfl) ?_
    refine zV1 (Z := Z) (ui_k (by first | decide | omega)) ?_
    rw [ht]
    refine z_rcs hc hH 2 (pc' := 20) (lv' := [(0, .ref 50), (1, .int (nI s)), (2, .int (nI l))]) (st' := [.int ((nI t) + 1), .int (nI s)]) (μ' := z_ui μ 50 0 0) (by rfl) ?_
    rw [nI_s1]
    refine z_rcs hc hH 2 (pc' := 22) (lv' := [(0, .ref 50), (1, .int (nI s)), (2, .int (nI l))]) (st' := [.int ((nI (t + 1)) - (nI (t + 1)) / 4 * 4), .int (nI s)]) (μ' := z_ui μ 50 0 0) (by rfl) ?_
    rw [show nI (t + 1) - nI (t + 1) / 4 * 4 = nI u1 from by rw [rm4 _ (by omega), hu1]]
    refine zq_ic hc hH (by rfl) (tg := 50) (by rfl) (fun h2 => ?_) (fun h2 => ?_)
    · have h2 : (decide ((nI s) = (nI u1))) = false := decide_eq_false (cm_ne.mp h2)
      refine z_rcs hc hH 1 (pc' := 51) (lv' := [(0, .ref 50), (1, .int (nI s)), (2, .int (nI l))]) (st' := [.int 0]) (μ' := z_ui μ 50 0 0) (by rfl) ?_
      exact hr 0 51 _ _ _ (some (.int 0)) (by decide +kernel) (z_rx_ok hH (by rfl)) (Or.inr ⟨by simp only [ruC1, h1, h2, Bool.true_or, Bool.true_and, Bool.and_true, Bool.false_and, Bool.and_false, Bool.not_true, Bool.not_false, Bool.or_true, Bool.or_false, Bool.false_or, cond_true, cond_false], rfl, Or.inl rfl⟩)
    · have h2 : (decide ((nI s) = (nI u1))) = true := decide_eq_true (cn_ne.mp h2)
      refine z_rcs hc hH 1 (pc' := 26) (lv' := [(0, .ref 50), (1, .int (nI s)), (2, .int (nI l))]) (st' := [.int (nI l)]) (μ' := z_ui μ 50 0 0) (by rfl) ?_
      refine zq_call hc (z_cx_ok hH (by rfl)) (hir d' (by omega)) (by decide +kernel) (fun r9 μ9 hq => ?_)
      obtain ⟨hμ9, rfl⟩ := hq
      rw [hμ9]
      clear hμ9 μ9
      show Z 0 29 [(0, .ref 50), (1, .int (nI s)), (2, .int (nI l))] [.int (nB ir)] (z_ui μ 50 0 0)
      refine zq_if hc hH (by rfl) (tg := 50) (by rfl) (fun h3 => ?_) (fun h3 => ?_)
      · have h3 : (ir) = false := nB_z.mp (cm_eq9.mp h3)
        refine z_rcs hc hH 1 (pc' := 51) (lv' := [(0, .ref 50), (1, .int (nI s)), (2, .int (nI l))]) (st' := [.int 0]) (μ' := z_ui μ 50 0 0) (by rfl) ?_
        exact hr 0 51 _ _ _ (some (.int 0)) (by decide +kernel) (z_rx_ok hH (by rfl)) (Or.inr ⟨by simp only [ruC1, h1, h2, h3, Bool.true_or, Bool.true_and, Bool.and_true, Bool.false_and, Bool.and_false, Bool.not_true, Bool.not_false, Bool.or_true, Bool.or_false, Bool.false_or, cond_true, cond_false], rfl, Or.inl rfl⟩)
      · have h3 : (ir) = true := nB_n.mp (cn_eq.mp h3)
        refine z_rcs hc hH 1 (pc' := 33) (lv' := [(0, .ref 50), (1, .int (nI s)), (2, .int (nI l))]) (st' := [.ref 50]) (μ' := z_ui μ 50 0 0) (by rfl) ?_
        refine zq_gfi hc hH (by rfl) (ci := 6) (f := 49) (by rfl) (by decide +kernel) (by rfl) ?_
        refine zV1 (Z := Z) (ui_k (by first | decide | omega)) ?_
        rw [hc49]
        refine z_rcs hc hH 1 (pc' := 37) (lv' := [(0, .ref 50), (1, .int (nI s)), (2, .int (nI l))]) (st' := [.int (nI l), .int (nI (l + 1))]) (μ' := z_ui μ 50 0 0) (by rfl) ?_
        refine zq_ic hc hH (by rfl) (tg := 50) (by rfl) (fun h4 => ?_) (fun h4 => ?_)
        · have h4 : (decide ((nI (l + 1)) < (nI l))) = true := decide_eq_true (cm_lt.mp h4)
          exact absurd (Eq.trans (Eq.symm (kn_nlg (by omega) (by omega) (by omega))) h4) (by decide)
        · have h4 : (decide ((nI (l + 1)) < (nI l))) = false := decide_eq_false (cn_lt.mp h4)
          refine z_rcs hc hH 1 (pc' := 41) (lv' := [(0, .ref 50), (1, .int (nI s)), (2, .int (nI l))]) (st' := [.ref 50]) (μ' := z_ui μ 50 0 0) (by rfl) ?_
          refine zq_gfi hc hH (by rfl) (ci := 6) (f := 49) (by rfl) (by decide +kernel) (by rfl) ?_
          refine zV1 (Z := Z) (ui_k (by first | decide | omega)) ?_
          rw [hc49]
          refine z_rcs hc hH 3 (pc' := 47) (lv' := [(0, .ref 50), (1, .int (nI s)), (2, .int (nI l))]) (st' := [.int ((nI l) + 2), .int (nI (l + 1))]) (μ' := z_ui μ 50 0 0) (by rfl) ?_
          rw [show nI l + 2 = nI (l + 2) from nI_add l 2]
          refine zq_ic hc hH (by rfl) (tg := 52) (by rfl) (fun h5 => ?_) (fun h5 => ?_)
          · have h5 : (decide ((nI (l + 1)) ≤ (nI (l + 2)))) = true := decide_eq_true (cm_le.mp h5)
            refine z_rcs hc hH 6 (pc' := 58) (lv' := [(3, .int (nI l)), (0, .ref 50), (1, .int (nI s)), (2, .int (nI l))]) (st' := [.int ((nI l) + 3), .int (nI l)]) (μ' := z_ui μ 50 0 0) (by rfl) ?_
            rw [show nI l + 3 = nI (l + 3) from nI_add l 3]
            refine zq_ic hc hH (by rfl) (tg := 86) (by rfl) (fun h6 => ?_) (fun h6 => ?_)
            · have h6 : (decide ((nI (l + 3)) ≤ (nI l))) = true := decide_eq_true (cm_ge.mp h6)
              exact absurd (Eq.trans (Eq.symm (kn_nlf (by omega) (by omega) (by omega))) h6) (by decide)
            · have h6 : (decide ((nI (l + 3)) ≤ (nI l))) = false := decide_eq_false (cn_ge.mp h6)
              refine z_rcs hc hH 2 (pc' := 63) (lv' := [(3, .int (nI l)), (0, .ref 50), (1, .int (nI s)), (2, .int (nI l))]) (st' := [.ref 50, .int (nI l)]) (μ' := z_ui μ 50 0 0) (by rfl) ?_
              refine zq_gfi hc hH (by rfl) (ci := 6) (f := 49) (by rfl) (by decide +kernel) (by rfl) ?_
              refine zV1 (Z := Z) (ui_k (by first | decide | omega)) ?_
              rw [hc49]
              refine zq_ic hc hH (by rfl) (tg := 80) (by rfl) (fun h7 => ?_) (fun h7 => ?_)
              · have h7 : (decide ((nI l) = (nI (l + 1)))) = true := decide_eq_true (cm_eq9.mp h7)
                exact absurd (Eq.trans (Eq.symm (kn_ne (by omega) (by omega) (by omega))) h7) (by decide)
              · have h7 : (decide ((nI l) = (nI (l + 1)))) = false := decide_eq_false (cn_eq.mp h7)
                refine z_rcs hc hH 3 (pc' := 72) (lv' := [(3, .int (nI l)), (0, .ref 50), (1, .int (nI s)), (2, .int (nI l))]) (st' := [.int (nI l), .int (nI s), .ref 50]) (μ' := z_ui μ 50 0 0) (by rfl) ?_
                refine zq_call hc (z_cx_ok hH (by rfl)) (fc_X7_has_ d' (by omega) (z_ui μ 50 0 0) s l hs4 (by omega)) (by decide +kernel) (fun r9 μ9 hq => ?_)
                obtain ⟨hμ9, rfl⟩ := hq
                rw [hμ9]
                clear hμ9 μ9
                rw [ui_o (by first | decide | omega)]
                show Z 0 75 [(3, .int (nI l)), (0, .ref 50), (1, .int (nI s)), (2, .int (nI l))] [.int (μ.1 60 (34 * s + l))] (z_ui μ 50 0 0)
                refine zq_if hc hH (by rfl) (tg := 80) (by rfl) (fun h8 => ?_) (fun h8 => ?_)
                · have h8 : (decide ((μ.1 60 (34 * s + l)) = 0)) = false := decide_eq_false (cm_ne.mp h8)
                  refine z_rcs hc hH 3 (pc' := 55) (lv' := [(3, .int ((nI l) + 1)), (0, .ref 50), (1, .int (nI s)), (2, .int (nI l))]) (st' := [.int ((nI l) + 1)]) (μ' := z_ui μ 50 0 0) (by rfl) ?_
                  rw [nI_s1]
                  refine z_rcs hc hH 3 (pc' := 58) (lv' := [(3, .int (nI (l + 1))), (0, .ref 50), (1, .int (nI s)), (2, .int (nI l))]) (st' := [.int ((nI l) + 3), .int (nI (l + 1))]) (μ' := z_ui μ 50 0 0) (by rfl) ?_
                  rw [show nI l + 3 = nI (l + 3) from nI_add l 3]
                  refine zq_ic hc hH (by rfl) (tg := 86) (by rfl) (fun h9 => ?_) (fun h9 => ?_)
                  · have h9 : (decide ((nI (l + 3)) ≤ (nI (l + 1)))) = true := decide_eq_true (cm_ge.mp h9)
                    exact absurd (Eq.trans (Eq.symm (kn_nlf (by omega) (by omega) (by omega))) h9) (by decide)
                  · have h9 : (decide ((nI (l + 3)) ≤ (nI (l + 1)))) = false := decide_eq_false (cn_ge.mp h9)
                    refine z_rcs hc hH 2 (pc' := 63) (lv' := [(3, .int (nI (l + 1))), (0, .ref 50), (1, .int (nI s)), (2, .int (nI l))]) (st' := [.ref 50, .int (nI (l + 1))]) (μ' := z_ui μ 50 0 0) (by rfl) ?_
                    refine zq_gfi hc hH (by rfl) (ci := 6) (f := 49) (by rfl) (by decide +kernel) (by rfl) ?_
                    refine zV1 (Z := Z) (ui_k (by first | decide | omega)) ?_
                    rw [hc49]
                    refine zq_ic hc hH (by rfl) (tg := 80) (by rfl) (fun h10 => ?_) (fun h10 => ?_)
                    · have h10 : (decide ((nI (l + 1)) = (nI (l + 1)))) = true := decide_eq_true (cm_eq9.mp h10)
                      refine z_rcs hc hH 3 (pc' := 55) (lv' := [(3, .int ((nI (l + 1)) + 1)), (0, .ref 50), (1, .int (nI s)), (2, .int (nI l))]) (st' := [.int ((nI (l + 1)) + 1)]) (μ' := z_ui μ 50 0 0) (by rfl) ?_
                      rw [show nI (l + 1) + 1 = nI (l + 2) from nI_s1 _]
                      refine z_rcs hc hH 3 (pc' := 58) (lv' := [(3, .int (nI (l + 2))), (0, .ref 50), (1, .int (nI s)), (2, .int (nI l))]) (st' := [.int ((nI l) + 3), .int (nI (l + 2))]) (μ' := z_ui μ 50 0 0) (by rfl) ?_
                      rw [show nI l + 3 = nI (l + 3) from nI_add l 3]
                      refine zq_ic hc hH (by rfl) (tg := 86) (by rfl) (fun h11 => ?_) (fun h11 => ?_)
                      · have h11 : (decide ((nI (l + 3)) ≤ (nI (l + 2)))) = true := decide_eq_true (cm_ge.mp h11)
                        exact absurd (Eq.trans (Eq.symm (kn_nlf (by omega) (by omega) (by omega))) h11) (by decide)
                      · have h11 : (decide ((nI (l + 3)) ≤ (nI (l + 2)))) = false := decide_eq_false (cn_ge.mp h11)
                        refine z_rcs hc hH 2 (pc' := 63) (lv' := [(3, .int (nI (l + 2))), (0, .ref 50), (1, .int (nI s)), (2, .int (nI l))]) (st' := [.ref 50, .int (nI (l + 2))]) (μ' := z_ui μ 50 0 0) (by rfl) ?_
                        refine zq_gfi hc hH (by rfl) (ci := 6) (f := 49) (by rfl) (by decide +kernel) (by rfl) ?_
                        refine zV1 (Z := Z) (ui_k (by first | decide | omega)) ?_
                        rw [hc49]
                        refine zq_ic hc hH (by rfl) (tg := 80) (by rfl) (fun h12 => ?_) (fun h12 => ?_)
                        · have h12 : (decide ((nI (l + 2)) = (nI (l + 1)))) = true := decide_eq_true (cm_eq9.mp h12)
                          exact absurd (Eq.trans (Eq.symm (kn_ne (by omega) (by omega) (by omega))) h12) (by decide)
                        · have h12 : (decide ((nI (l + 2)) = (nI (l + 1)))) = false := decide_eq_false (cn_eq.mp h12)
                          refine z_rcs hc hH 3 (pc' := 72) (lv' := [(3, .int (nI (l + 2))), (0, .ref 50), (1, .int (nI s)), (2, .int (nI l))]) (st' := [.int (nI (l + 2)), .int (nI s), .ref 50]) (μ' := z_ui μ 50 0 0) (by rfl) ?_
                          refine zq_call hc (z_cx_ok hH (by rfl)) (fc_X7_has_ d' (by omega) (z_ui μ 50 0 0) s (l + 2) hs4 (by omega)) (by decide +kernel) (fun r9 μ9 hq => ?_)
                          obtain ⟨hμ9, rfl⟩ := hq
                          rw [hμ9]
                          clear hμ9 μ9
                          rw [ui_o (by first | decide | omega)]
                          show Z 0 75 [(3, .int (nI (l + 2))), (0, .ref 50), (1, .int (nI s)), (2, .int (nI l))] [.int (μ.1 60 (34 * s + (l + 2)))] (z_ui μ 50 0 0)
                          refine zq_if hc hH (by rfl) (tg := 80) (by rfl) (fun h13 => ?_) (fun h13 => ?_)
                          · have h13 : (decide ((μ.1 60 (34 * s + (l + 2))) = 0)) = false := decide_eq_false (cm_ne.mp h13)
                            refine z_rcs hc hH 3 (pc' := 55) (lv' := [(3, .int ((nI (l + 2)) + 1)), (0, .ref 50), (1, .int (nI s)), (2, .int (nI l))]) (st' := [.int ((nI (l + 2)) + 1)]) (μ' := z_ui μ 50 0 0) (by rfl) ?_
                            rw [show nI (l + 2) + 1 = nI (l + 3) from nI_s1 _]
                            refine z_rcs hc hH 3 (pc' := 58) (lv' := [(3, .int (nI (l + 3))), (0, .ref 50), (1, .int (nI s)), (2, .int (nI l))]) (st' := [.int ((nI l) + 3), .int (nI (l + 3))]) (μ' := z_ui μ 50 0 0) (by rfl) ?_
                            rw [show nI l + 3 = nI (l + 3) from nI_add l 3]
                            refine zq_ic hc hH (by rfl) (tg := 86) (by rfl) (fun h14 => ?_) (fun h14 => ?_)
                            · have h14 : (decide ((nI (l + 3)) ≤ (nI (l + 3)))) = true := decide_eq_true (cm_ge.mp h14)
                              refine z_rcs hc hH 2 (pc' := 88) (lv' := [(3, .int (nI (l + 3))), (0, .ref 50), (1, .int (nI s)), (2, .int (nI l))]) (st' := [.ref 50, .ref 50]) (μ' := z_ui μ 50 0 0) (by rfl) ?_
                              refine zq_gfi hc hH (by rfl) (ci := 6) (f := 49) (by rfl) (by decide +kernel) (by rfl) ?_
                              refine zV1 (Z := Z) (ui_k (by first | decide | omega)) ?_
                              rw [hc49]
                              refine zq_pfi hc hH (by rfl) (ci := 6) (f := 50) (by rfl) (by decide +kernel) (by rfl) ?_
                              show Z 0 94 [(3, .int (nI (l + 3))), (0, .ref 50), (1, .int (nI s)), (2, .int (nI l))] [] (z_ui (z_ui μ 50 0 0) 50 50 (nI (l + 1)))
                              refine z_rcs0 hc hH 2 (pc' := 96) (lv' := [(3, .int (nI (l + 3))), (0, .ref 50), (1, .int (nI s)), (2, .int (nI l))]) (st' := [.ref 50, .ref 50]) (by rfl) ?_
                              refine zq_gfi hc hH (by rfl) (ci := 6) (f := 49) (by rfl) (by decide +kernel) (by rfl) ?_
                              refine zV1 (Z := Z) (Eq.trans (ui_k (by first | decide | omega)) (ui_k (by first | decide | omega))) ?_
                              rw [hc49]
                              refine z_rcs0 hc hH 1 (pc' := 100) (lv' := [(3, .int (nI (l + 3))), (0, .ref 50), (1, .int (nI s)), (2, .int (nI l))]) (st' := [.int (nI l), .int (nI (l + 1)), .ref 50]) (by rfl) ?_
                              refine zq_ic hc hH (by rfl) (tg := 118) (by rfl) (fun h15 => ?_) (fun h15 => ?_)
                              · have h15 : (decide ((nI (l + 1)) = (nI l))) = false := decide_eq_false (cm_ne.mp h15)
                                refine z_rcs0 hc hH 1 (pc' := 119) (lv' := [(3, .int (nI (l + 3))), (0, .ref 50), (1, .int (nI s)), (2, .int (nI l))]) (st' := [.ref 50, .ref 50]) (by rfl) ?_
                                refine zq_gfi hc hH (by rfl) (ci := 6) (f := 49) (by rfl) (by decide +kernel) (by rfl) ?_
                                refine zV1 (Z := Z) (Eq.trans (ui_k (by first | decide | omega)) (ui_k (by first | decide | omega))) ?_
                                rw [hc49]
                                refine z_rcs0 hc hH 3 (pc' := 125) (lv' := [(3, .int (nI (l + 3))), (0, .ref 50), (1, .int (nI s)), (2, .int (nI l))]) (st' := [.int ((nI l) + 2), .int (nI (l + 1)), .ref 50]) (by rfl) ?_
                                rw [show nI l + 2 = nI (l + 2) from nI_add l 2]
                                refine zq_ic hc hH (by rfl) (tg := 141) (by rfl) (fun h16 => ?_) (fun h16 => ?_)
                                · have h16 : (decide ((nI (l + 1)) = (nI (l + 2)))) = false := decide_eq_false (cm_ne.mp h16)
                                  refine z_rcs0 hc hH 1 (pc' := 142) (lv' := [(3, .int (nI (l + 3))), (0, .ref 50), (1, .int (nI s)), (2, .int (nI l))]) (st' := [.int (-1), .ref 50]) (by rfl) ?_
                                  refine zq_pfi hc hH (by rfl) (ci := 6) (f := 51) (by rfl) (by decide +kernel) (by rfl) ?_
                                  show Z 0 145 [(3, .int (nI (l + 3))), (0, .ref 50), (1, .int (nI s)), (2, .int (nI l))] [] (z_ui (z_ui (z_ui μ 50 0 0) 50 50 (nI (l + 1))) 50 51 (-1))
                                  refine z_rcs0 hc hH 6 (pc' := 151) (lv' := [(3, .int (nI l)), (0, .ref 50), (1, .int (nI s)), (2, .int (nI l))]) (st' := [.int ((nI l) + 3), .int (nI l)]) (by rfl) ?_
                                  rw [show nI l + 3 = nI (l + 3) from nI_add l 3]
                                  refine zq_ic hc hH (by rfl) (tg := 175) (by rfl) (fun h17 => ?_) (fun h17 => ?_)
                                  · have h17 : (decide ((nI (l + 3)) ≤ (nI l))) = true := decide_eq_true (cm_ge.mp h17)
                                    exact absurd (Eq.trans (Eq.symm (kn_nlf (by omega) (by omega) (by omega))) h17) (by decide)
                                  · have h17 : (decide ((nI (l + 3)) ≤ (nI l))) = false := decide_eq_false (cn_ge.mp h17)
                                    refine z_rcs0 hc hH 2 (pc' := 156) (lv' := [(3, .int (nI l)), (0, .ref 50), (1, .int (nI s)), (2, .int (nI l))]) (st' := [.ref 50, .int (nI l)]) (by rfl) ?_
                                    refine zq_gfi hc hH (by rfl) (ci := 6) (f := 49) (by rfl) (by decide +kernel) (by rfl) ?_
                                    refine zV1 (Z := Z) (Eq.trans (ui_k (by first | decide | omega)) (Eq.trans (ui_k (by first | decide | omega)) (ui_k (by first | decide | omega)))) ?_
                                    rw [hc49]
                                    refine zq_ic hc hH (by rfl) (tg := 169) (by rfl) (fun h18 => ?_) (fun h18 => ?_)
                                    · have h18 : (decide ((nI l) = (nI (l + 1)))) = true := decide_eq_true (cm_eq9.mp h18)
                                      exact absurd (Eq.trans (Eq.symm (kn_ne (by omega) (by omega) (by omega))) h18) (by decide)
                                    · have h18 : (decide ((nI l) = (nI (l + 1)))) = false := decide_eq_false (cn_eq.mp h18)
                                      refine z_rcs0 hc hH 4 (pc' := 166) (lv' := [(3, .int (nI l)), (0, .ref 50), (1, .int (nI s)), (2, .int (nI l))]) (st' := [.int (-1), .int (nI l), .int (nI s), .ref 50]) (by rfl) ?_
                                      refine zq_call hc (z_cx_ok hH (by rfl)) (fc_X7_gives d' (by omega) (z_ui (z_ui (z_ui μ 50 0 0) 50 50 (nI (l + 1))) 50 51 (-1)) s l (-1) hs4 (by omega)) (by decide +kernel) (fun r9 μ9 hq => ?_)
                                      obtain ⟨rfl, rfl⟩ := hq
                                      show Z 0 169 [(3, .int (nI l)), (0, .ref 50), (1, .int (nI s)), (2, .int (nI l))] [] (z_giv (z_ui (z_ui (z_ui μ 50 0 0) 50 50 (nI (l + 1))) 50 51 (-1)) s l (-1))
                                      refine z_rcs0 hc hH 3 (pc' := 148) (lv' := [(3, .int ((nI l) + 1)), (0, .ref 50), (1, .int (nI s)), (2, .int (nI l))]) (st' := [.int ((nI l) + 1)]) (by rfl) ?_
                                      rw [nI_s1]
                                      refine z_rcs0 hc hH 3 (pc' := 151) (lv' := [(3, .int (nI (l + 1))), (0, .ref 50), (1, .int (nI s)), (2, .int (nI l))]) (st' := [.int ((nI l) + 3), .int (nI (l + 1))]) (by rfl) ?_
                                      rw [show nI l + 3 = nI (l + 3) from nI_add l 3]
                                      refine zq_ic hc hH (by rfl) (tg := 175) (by rfl) (fun h19 => ?_) (fun h19 => ?_)
                                      · have h19 : (decide ((nI (l + 3)) ≤ (nI (l + 1)))) = true := decide_eq_true (cm_ge.mp h19)
                                        exact absurd (Eq.trans (Eq.symm (kn_nlf (by omega) (by omega) (by omega))) h19) (by decide)
                                      · have h19 : (decide ((nI (l + 3)) ≤ (nI (l + 1)))) = false := decide_eq_false (cn_ge.mp h19)
                                        refine z_rcs0 hc hH 2 (pc' := 156) (lv' := [(3, .int (nI (l + 1))), (0, .ref 50), (1, .int (nI s)), (2, .int (nI l))]) (st' := [.ref 50, .int (nI (l + 1))]) (by rfl) ?_
                                        refine zq_gfi hc hH (by rfl) (ci := 6) (f := 49) (by rfl) (by decide +kernel) (by rfl) ?_
                                        refine zV1 (Z := Z) (Eq.trans (giv_o (by first | decide | omega)) (Eq.trans (ui_k (by first | decide | omega)) (Eq.trans (ui_k (by first | decide | omega)) (ui_k (by first | decide | omega))))) ?_
                                        rw [hc49]
                                        refine zq_ic hc hH (by rfl) (tg := 169) (by rfl) (fun h20 => ?_) (fun h20 => ?_)
                                        · have h20 : (decide ((nI (l + 1)) = (nI (l + 1)))) = true := decide_eq_true (cm_eq9.mp h20)
                                          refine z_rcs0 hc hH 3 (pc' := 148) (lv' := [(3, .int ((nI (l + 1)) + 1)), (0, .ref 50), (1, .int (nI s)), (2, .int (nI l))]) (st' := [.int ((nI (l + 1)) + 1)]) (by rfl) ?_
                                          rw [show nI (l + 1) + 1 = nI (l + 2) from nI_s1 _]
                                          refine z_rcs0 hc hH 3 (pc' := 151) (lv' := [(3, .int (nI (l + 2))), (0, .ref 50), (1, .int (nI s)), (2, .int (nI l))]) (st' := [.int ((nI l) + 3), .int (nI (l + 2))]) (by rfl) ?_
                                          rw [show nI l + 3 = nI (l + 3) from nI_add l 3]
                                          refine zq_ic hc hH (by rfl) (tg := 175) (by rfl) (fun h21 => ?_) (fun h21 => ?_)
                                          · have h21 : (decide ((nI (l + 3)) ≤ (nI (l + 2)))) = true := decide_eq_true (cm_ge.mp h21)
                                            exact absurd (Eq.trans (Eq.symm (kn_nlf (by omega) (by omega) (by omega))) h21) (by decide)
                                          · have h21 : (decide ((nI (l + 3)) ≤ (nI (l + 2)))) = false := decide_eq_false (cn_ge.mp h21)
                                            refine z_rcs0 hc hH 2 (pc' := 156) (lv' := [(3, .int (nI (l + 2))), (0, .ref 50), (1, .int (nI s)), (2, .int (nI l))]) (st' := [.ref 50, .int (nI (l + 2))]) (by rfl) ?_
                                            refine zq_gfi hc hH (by rfl) (ci := 6) (f := 49) (by rfl) (by decide +kernel) (by rfl) ?_
                                            refine zV1 (Z := Z) (Eq.trans (giv_o (by first | decide | omega)) (Eq.trans (ui_k (by first | decide | omega)) (Eq.trans (ui_k (by first | decide | omega)) (ui_k (by first | decide | omega))))) ?_
                                            rw [hc49]
                                            refine zq_ic hc hH (by rfl) (tg := 169) (by rfl) (fun h22 => ?_) (fun h22 => ?_)
                                            · have h22 : (decide ((nI (l + 2)) = (nI (l + 1)))) = true := decide_eq_true (cm_eq9.mp h22)
                                              exact absurd (Eq.trans (Eq.symm (kn_ne (by omega) (by omega) (by omega))) h22) (by decide)
                                            · have h22 : (decide ((nI (l + 2)) = (nI (l + 1)))) = false := decide_eq_false (cn_eq.mp h22)
                                              refine z_rcs0 hc hH 4 (pc' := 166) (lv' := [(3, .int (nI (l + 2))), (0, .ref 50), (1, .int (nI s)), (2, .int (nI l))]) (st' := [.int (-1), .int (nI (l + 2)), .int (nI s), .ref 50]) (by rfl) ?_
                                              refine zq_call hc (z_cx_ok hH (by rfl)) (fc_X7_gives d' (by omega) (z_giv (z_ui (z_ui (z_ui μ 50 0 0) 50 50 (nI (l + 1))) 50 51 (-1)) s l (-1)) s (l + 2) (-1) hs4 (by omega)) (by decide +kernel) (fun r9 μ9 hq => ?_)
                                              obtain ⟨rfl, rfl⟩ := hq
                                              show Z 0 169 [(3, .int (nI (l + 2))), (0, .ref 50), (1, .int (nI s)), (2, .int (nI l))] [] (z_giv (z_giv (z_ui (z_ui (z_ui μ 50 0 0) 50 50 (nI (l + 1))) 50 51 (-1)) s l (-1)) s (l + 2) (-1))
                                              refine z_rcs0 hc hH 3 (pc' := 148) (lv' := [(3, .int ((nI (l + 2)) + 1)), (0, .ref 50), (1, .int (nI s)), (2, .int (nI l))]) (st' := [.int ((nI (l + 2)) + 1)]) (by rfl) ?_
                                              rw [show nI (l + 2) + 1 = nI (l + 3) from nI_s1 _]
                                              refine z_rcs0 hc hH 3 (pc' := 151) (lv' := [(3, .int (nI (l + 3))), (0, .ref 50), (1, .int (nI s)), (2, .int (nI l))]) (st' := [.int ((nI l) + 3), .int (nI (l + 3))]) (by rfl) ?_
                                              rw [show nI l + 3 = nI (l + 3) from nI_add l 3]
                                              refine zq_ic hc hH (by rfl) (tg := 175) (by rfl) (fun h23 => ?_) (fun h23 => ?_)
                                              · have h23 : (decide ((nI (l + 3)) ≤ (nI (l + 3)))) = true := decide_eq_true (cm_ge.mp h23)
                                                refine z_rcs0 hc hH 2 (pc' := 177) (lv' := [(3, .int (nI (l + 3))), (0, .ref 50), (1, .int (nI s)), (2, .int (nI l))]) (st' := [.int (nI s), .ref 50]) (by rfl) ?_
                                                refine zq_call hc (z_cx_ok hH (by rfl)) (hcd d' (by omega)) (by decide +kernel) (fun r9 μ9 hq => ?_)
                                                obtain ⟨hμ9, rfl⟩ := hq
                                                rw [hμ9]
                                                clear hμ9 μ9
                                                show Z 0 180 [(3, .int (nI (l + 3))), (0, .ref 50), (1, .int (nI s)), (2, .int (nI l))] [.int (nB cd)] _
                                                refine z_rcs0 hc hH 7 (pc' := 189) (lv' := [(4, .int (nI l)), (3, .int (nB cd)), (0, .ref 50), (1, .int (nI s)), (2, .int (nI l))]) (st' := [.int ((nI l) + 3), .int (nI l)]) (by rfl) ?_
                                                rw [show nI l + 3 = nI (l + 3) from nI_add l 3]
                                                refine zq_ic hc hH (by rfl) (tg := 215) (by rfl) (fun h24 => ?_) (fun h24 => ?_)
                                                · have h24 : (decide ((nI (l + 3)) ≤ (nI l))) = true := decide_eq_true (cm_ge.mp h24)
                                                  exact absurd (Eq.trans (Eq.symm (kn_nlf (by omega) (by omega) (by omega))) h24) (by decide)
                                                · have h24 : (decide ((nI (l + 3)) ≤ (nI l))) = false := decide_eq_false (cn_ge.mp h24)
                                                  refine z_rcs0 hc hH 2 (pc' := 195) (lv' := [(4, .int (nI l)), (3, .int (nB cd)), (0, .ref 50), (1, .int (nI s)), (2, .int (nI l))]) (st' := [.ref 50, .int (nI l)]) (by rfl) ?_
                                                  refine zq_gfi hc hH (by rfl) (ci := 6) (f := 49) (by rfl) (by decide +kernel) (by rfl) ?_
                                                  refine zV1 (Z := Z) (Eq.trans (giv_o (by first | decide | omega)) (Eq.trans (giv_o (by first | decide | omega)) (Eq.trans (ui_k (by first | decide | omega)) (Eq.trans (ui_k (by first | decide | omega)) (ui_k (by first | decide | omega)))))) ?_
                                                  rw [hc49]
                                                  refine zq_ic hc hH (by rfl) (tg := 209) (by rfl) (fun h25 => ?_) (fun h25 => ?_)
                                                  · have h25 : (decide ((nI l) = (nI (l + 1)))) = true := decide_eq_true (cm_eq9.mp h25)
                                                    exact absurd (Eq.trans (Eq.symm (kn_ne (by omega) (by omega) (by omega))) h25) (by decide)
                                                  · have h25 : (decide ((nI l) = (nI (l + 1)))) = false := decide_eq_false (cn_eq.mp h25)
                                                    refine z_rcs0 hc hH 4 (pc' := 206) (lv' := [(4, .int (nI l)), (3, .int (nB cd)), (0, .ref 50), (1, .int (nI s)), (2, .int (nI l))]) (st' := [.int 1, .int (nI l), .int (nI s), .ref 50]) (by rfl) ?_
                                                    refine zq_call hc (z_cx_ok hH (by rfl)) (fc_X7_gives d' (by omega) (z_giv (z_giv (z_ui (z_ui (z_ui μ 50 0 0) 50 50 (nI (l + 1))) 50 51 (-1)) s l (-1)) s (l + 2) (-1)) s l 1 hs4 (by omega)) (by decide +kernel) (fun r9 μ9 hq => ?_)
                                                    obtain ⟨rfl, rfl⟩ := hq
                                                    show Z 0 209 [(4, .int (nI l)), (3, .int (nB cd)), (0, .ref 50), (1, .int (nI s)), (2, .int (nI l))] [] (z_giv (z_giv (z_giv (z_ui (z_ui (z_ui μ 50 0 0) 50 50 (nI (l + 1))) 50 51 (-1)) s l (-1)) s (l + 2) (-1)) s l 1)
                                                    refine z_rcs0 hc hH 3 (pc' := 186) (lv' := [(4, .int ((nI l) + 1)), (3, .int (nB cd)), (0, .ref 50), (1, .int (nI s)), (2, .int (nI l))]) (st' := [.int ((nI l) + 1)]) (by rfl) ?_
                                                    rw [nI_s1]
                                                    refine z_rcs0 hc hH 3 (pc' := 189) (lv' := [(4, .int (nI (l + 1))), (3, .int (nB cd)), (0, .ref 50), (1, .int (nI s)), (2, .int (nI l))]) (st' := [.int ((nI l) + 3), .int (nI (l + 1))]) (by rfl) ?_
                                                    rw [show nI l + 3 = nI (l + 3) from nI_add l 3]
                                                    refine zq_ic hc hH (by rfl) (tg := 215) (by rfl) (fun h26 => ?_) (fun h26 => ?_)
                                                    · have h26 : (decide ((nI (l + 3)) ≤ (nI (l + 1)))) = true := decide_eq_true (cm_ge.mp h26)
                                                      exact absurd (Eq.trans (Eq.symm (kn_nlf (by omega) (by omega) (by omega))) h26) (by decide)
                                                    · have h26 : (decide ((nI (l + 3)) ≤ (nI (l + 1)))) = false := decide_eq_false (cn_ge.mp h26)
                                                      refine z_rcs0 hc hH 2 (pc' := 195) (lv' := [(4, .int (nI (l + 1))), (3, .int (nB cd)), (0, .ref 50), (1, .int (nI s)), (2, .int (nI l))]) (st' := [.ref 50, .int (nI (l + 1))]) (by rfl) ?_
                                                      refine zq_gfi hc hH (by rfl) (ci := 6) (f := 49) (by rfl) (by decide +kernel) (by rfl) ?_
                                                      refine zV1 (Z := Z) (Eq.trans (giv_o (by first | decide | omega)) (Eq.trans (giv_o (by first | decide | omega)) (Eq.trans (giv_o (by first | decide | omega)) (Eq.trans (ui_k (by first | decide | omega)) (Eq.trans (ui_k (by first | decide | omega)) (ui_k (by first | decide | omega))))))) ?_
                                                      rw [hc49]
                                                      refine zq_ic hc hH (by rfl) (tg := 209) (by rfl) (fun h27 => ?_) (fun h27 => ?_)
                                                      · have h27 : (decide ((nI (l + 1)) = (nI (l + 1)))) = true := decide_eq_true (cm_eq9.mp h27)
                                                        refine z_rcs0 hc hH 3 (pc' := 186) (lv' := [(4, .int ((nI (l + 1)) + 1)), (3, .int (nB cd)), (0, .ref 50), (1, .int (nI s)), (2, .int (nI l))]) (st' := [.int ((nI (l + 1)) + 1)]) (by rfl) ?_
                                                        rw [show nI (l + 1) + 1 = nI (l + 2) from nI_s1 _]
                                                        refine z_rcs0 hc hH 3 (pc' := 189) (lv' := [(4, .int (nI (l + 2))), (3, .int (nB cd)), (0, .ref 50), (1, .int (nI s)), (2, .int (nI l))]) (st' := [.int ((nI l) + 3), .int (nI (l + 2))]) (by rfl) ?_
                                                        rw [show nI l + 3 = nI (l + 3) from nI_add l 3]
                                                        refine zq_ic hc hH (by rfl) (tg := 215) (by rfl) (fun h28 => ?_) (fun h28 => ?_)
                                                        · have h28 : (decide ((nI (l + 3)) ≤ (nI (l + 2)))) = true := decide_eq_true (cm_ge.mp h28)
                                                          exact absurd (Eq.trans (Eq.symm (kn_nlf (by omega) (by omega) (by omega))) h28) (by decide)
                                                        · have h28 : (decide ((nI (l + 3)) ≤ (nI (l + 2)))) = false := decide_eq_false (cn_ge.mp h28)
                                                          refine z_rcs0 hc hH 2 (pc' := 195) (lv' := [(4, .int (nI (l + 2))), (3, .int (nB cd)), (0, .ref 50), (1, .int (nI s)), (2, .int (nI l))]) (st' := [.ref 50, .int (nI (l + 2))]) (by rfl) ?_
                                                          refine zq_gfi hc hH (by rfl) (ci := 6) (f := 49) (by rfl) (by decide +kernel) (by rfl) ?_
                                                          refine zV1 (Z := Z) (Eq.trans (giv_o (by first | decide | omega)) (Eq.trans (giv_o (by first | decide | omega)) (Eq.trans (giv_o (by first | decide | omega)) (Eq.trans (ui_k (by first | decide | omega)) (Eq.trans (ui_k (by first | decide | omega)) (ui_k (by first | decide | omega))))))) ?_
                                                          rw [hc49]
                                                          refine zq_ic hc hH (by rfl) (tg := 209) (by rfl) (fun h29 => ?_) (fun h29 => ?_)
                                                          · have h29 : (decide ((nI (l + 2)) = (nI (l + 1)))) = true := decide_eq_true (cm_eq9.mp h29)
                                                            exact absurd (Eq.trans (Eq.symm (kn_ne (by omega) (by omega) (by omega))) h29) (by decide)
                                                          · have h29 : (decide ((nI (l + 2)) = (nI (l + 1)))) = false := decide_eq_false (cn_eq.mp h29)
                                                            refine z_rcs0 hc hH 4 (pc' := 206) (lv' := [(4, .int (nI (l + 2))), (3, .int (nB cd)), (0, .ref 50), (1, .int (nI s)), (2, .int (nI l))]) (st' := [.int 1, .int (nI (l + 2)), .int (nI s), .ref 50]) (by rfl) ?_
                                                            refine zq_call hc (z_cx_ok hH (by rfl)) (fc_X7_gives d' (by omega) (z_giv (z_giv (z_giv (z_ui (z_ui (z_ui μ 50 0 0) 50 50 (nI (l + 1))) 50 51 (-1)) s l (-1)) s (l + 2) (-1)) s l 1) s (l + 2) 1 hs4 (by omega)) (by decide +kernel) (fun r9 μ9 hq => ?_)
                                                            obtain ⟨rfl, rfl⟩ := hq
                                                            show Z 0 209 [(4, .int (nI (l + 2))), (3, .int (nB cd)), (0, .ref 50), (1, .int (nI s)), (2, .int (nI l))] [] (z_giv (z_giv (z_giv (z_giv (z_ui (z_ui (z_ui μ 50 0 0) 50 50 (nI (l + 1))) 50 51 (-1)) s l (-1)) s (l + 2) (-1)) s l 1) s (l + 2) 1)
                                                            refine z_rcs0 hc hH 3 (pc' := 186) (lv' := [(4, .int ((nI (l + 2)) + 1)), (3, .int (nB cd)), (0, .ref 50), (1, .int (nI s)), (2, .int (nI l))]) (st' := [.int ((nI (l + 2)) + 1)]) (by rfl) ?_
                                                            rw [show nI (l + 2) + 1 = nI (l + 3) from nI_s1 _]
                                                            refine z_rcs0 hc hH 3 (pc' := 189) (lv' := [(4, .int (nI (l + 3))), (3, .int (nB cd)), (0, .ref 50), (1, .int (nI s)), (2, .int (nI l))]) (st' := [.int ((nI l) + 3), .int (nI (l + 3))]) (by rfl) ?_
                                                            rw [show nI l + 3 = nI (l + 3) from nI_add l 3]
                                                            refine zq_ic hc hH (by rfl) (tg := 215) (by rfl) (fun h30 => ?_) (fun h30 => ?_)
                                                            · have h30 : (decide ((nI (l + 3)) ≤ (nI (l + 3)))) = true := decide_eq_true (cm_ge.mp h30)
                                                              refine z_rcs0 hc hH 1 (pc' := 216) (lv' := [(4, .int (nI (l + 3))), (3, .int (nB cd)), (0, .ref 50), (1, .int (nI s)), (2, .int (nI l))]) (st' := [.int (nB cd)]) (by rfl) ?_
                                                              refine zq_if hc hH (by rfl) (tg := 221) (by rfl) (fun h31 => ?_) (fun h31 => ?_)
                                                              · have h31 : (cd) = true := nB_n.mp (cm_ne.mp h31)
                                                                refine z_rcs0 hc hH 1 (pc' := 222) (lv' := [(4, .int (nI (l + 3))), (3, .int (nB cd)), (0, .ref 50), (1, .int (nI s)), (2, .int (nI l))]) (st' := [.ref 50]) (by rfl) ?_
                                                                refine zq_call hc (z_cx_ok hH (by rfl)) (hov d' (by omega)) (by decide +kernel) (fun r9 W hq => ?_)
                                                                obtain ⟨rfl, hO, hAW⟩ := hq
                                                                show Z 0 225 [(4, .int (nI (l + 3))), (3, .int (nB cd)), (0, .ref 50), (1, .int (nI s)), (2, .int (nI l))] [] W
                                                                refine z_rcs hc hH 6 (pc' := 233) (lv' := [(4, .int (nI l)), (3, .int (nB cd)), (0, .ref 50), (1, .int (nI s)), (2, .int (nI l))]) (st' := [.int ((nI l) + 3), .int (nI l)]) (μ' := W) (by rfl) ?_
                                                                rw [show nI l + 3 = nI (l + 3) from nI_add l 3]
                                                                refine zq_ic hc hH (by rfl) (tg := 259) (by rfl) (fun h32 => ?_) (fun h32 => ?_)
                                                                · have h32 : (decide ((nI (l + 3)) ≤ (nI l))) = true := decide_eq_true (cm_ge.mp h32)
                                                                  exact absurd (Eq.trans (Eq.symm (kn_nlf (by omega) (by omega) (by omega))) h32) (by decide)
                                                                · have h32 : (decide ((nI (l + 3)) ≤ (nI l))) = false := decide_eq_false (cn_ge.mp h32)
                                                                  refine z_rcs hc hH 2 (pc' := 239) (lv' := [(4, .int (nI l)), (3, .int (nB cd)), (0, .ref 50), (1, .int (nI s)), (2, .int (nI l))]) (st' := [.ref 50, .int (nI l)]) (μ' := W) (by rfl) ?_
                                                                  refine zq_gfi hc hH (by rfl) (ci := 6) (f := 49) (by rfl) (by decide +kernel) (by rfl) ?_
                                                                  rw [(hO 50 49 (by omega)).1]
                                                                  rw [o49]
                                                                  refine zq_ic hc hH (by rfl) (tg := 253) (by rfl) (fun h33 => ?_) (fun h33 => ?_)
                                                                  · have h33 : (decide ((nI l) = (nI (l + 1)))) = true := decide_eq_true (cm_eq9.mp h33)
                                                                    exact absurd (Eq.trans (Eq.symm (kn_ne (by omega) (by omega) (by omega))) h33) (by decide)
                                                                  · have h33 : (decide ((nI l) = (nI (l + 1)))) = false := decide_eq_false (cn_eq.mp h33)
                                                                    refine z_rcs hc hH 4 (pc' := 250) (lv' := [(4, .int (nI l)), (3, .int (nB cd)), (0, .ref 50), (1, .int (nI s)), (2, .int (nI l))]) (st' := [.int (-1), .int (nI l), .int (nI s), .ref 50]) (μ' := W) (by rfl) ?_
                                                                    refine zq_call hc (z_cx_ok hH (by rfl)) (fc_X7_gives d' (by omega) W s l (-1) hs4 (by omega)) (by decide +kernel) (fun r9 μ9 hq => ?_)
                                                                    obtain ⟨rfl, rfl⟩ := hq
                                                                    show Z 0 253 [(4, .int (nI l)), (3, .int (nB cd)), (0, .ref 50), (1, .int (nI s)), (2, .int (nI l))] [] (z_giv W s l (-1))
                                                                    refine z_rcs hc hH 3 (pc' := 230) (lv' := [(4, .int ((nI l) + 1)), (3, .int (nB cd)), (0, .ref 50), (1, .int (nI s)), (2, .int (nI l))]) (st' := [.int ((nI l) + 1)]) (μ' := z_giv W s l (-1)) (by rfl) ?_
                                                                    rw [nI_s1]
                                                                    refine z_rcs hc hH 3 (pc' := 233) (lv' := [(4, .int (nI (l + 1))), (3, .int (nB cd)), (0, .ref 50), (1, .int (nI s)), (2, .int (nI l))]) (st' := [.int ((nI l) + 3), .int (nI (l + 1))]) (μ' := z_giv W s l (-1)) (by rfl) ?_
                                                                    rw [show nI l + 3 = nI (l + 3) from nI_add l 3]
                                                                    refine zq_ic hc hH (by rfl) (tg := 259) (by rfl) (fun h34 => ?_) (fun h34 => ?_)
                                                                    · have h34 : (decide ((nI (l + 3)) ≤ (nI (l + 1)))) = true := decide_eq_true (cm_ge.mp h34)
                                                                      exact absurd (Eq.trans (Eq.symm (kn_nlf (by omega) (by omega) (by omega))) h34) (by decide)
                                                                    · have h34 : (decide ((nI (l + 3)) ≤ (nI (l + 1)))) = false := decide_eq_false (cn_ge.mp h34)
                                                                      refine z_rcs hc hH 2 (pc' := 239) (lv' := [(4, .int (nI (l + 1))), (3, .int (nB cd)), (0, .ref 50), (1, .int (nI s)), (2, .int (nI l))]) (st' := [.ref 50, .int (nI (l + 1))]) (μ' := z_giv W s l (-1)) (by rfl) ?_
                                                                      refine zq_gfi hc hH (by rfl) (ci := 6) (f := 49) (by rfl) (by decide +kernel) (by rfl) ?_
                                                                      rw [giv_o (by first | decide | omega), (hO 50 49 (by omega)).1]
                                                                      rw [o49]
                                                                      refine zq_ic hc hH (by rfl) (tg := 253) (by rfl) (fun h35 => ?_) (fun h35 => ?_)
                                                                      · have h35 : (decide ((nI (l + 1)) = (nI (l + 1)))) = true := decide_eq_true (cm_eq9.mp h35)
                                                                        refine z_rcs hc hH 3 (pc' := 230) (lv' := [(4, .int ((nI (l + 1)) + 1)), (3, .int (nB cd)), (0, .ref 50), (1, .int (nI s)), (2, .int (nI l))]) (st' := [.int ((nI (l + 1)) + 1)]) (μ' := z_giv W s l (-1)) (by rfl) ?_
                                                                        rw [show nI (l + 1) + 1 = nI (l + 2) from nI_s1 _]
                                                                        refine z_rcs hc hH 3 (pc' := 233) (lv' := [(4, .int (nI (l + 2))), (3, .int (nB cd)), (0, .ref 50), (1, .int (nI s)), (2, .int (nI l))]) (st' := [.int ((nI l) + 3), .int (nI (l + 2))]) (μ' := z_giv W s l (-1)) (by rfl) ?_
                                                                        rw [show nI l + 3 = nI (l + 3) from nI_add l 3]
                                                                        refine zq_ic hc hH (by rfl) (tg := 259) (by rfl) (fun h36 => ?_) (fun h36 => ?_)
                                                                        · have h36 : (decide ((nI (l + 3)) ≤ (nI (l + 2)))) = true := decide_eq_true (cm_ge.mp h36)
                                                                          exact absurd (Eq.trans (Eq.symm (kn_nlf (by omega) (by omega) (by omega))) h36) (by decide)
                                                                        · have h36 : (decide ((nI (l + 3)) ≤ (nI (l + 2)))) = false := decide_eq_false (cn_ge.mp h36)
                                                                          refine z_rcs hc hH 2 (pc' := 239) (lv' := [(4, .int (nI (l + 2))), (3, .int (nB cd)), (0, .ref 50), (1, .int (nI s)), (2, .int (nI l))]) (st' := [.ref 50, .int (nI (l + 2))]) (μ' := z_giv W s l (-1)) (by rfl) ?_
                                                                          refine zq_gfi hc hH (by rfl) (ci := 6) (f := 49) (by rfl) (by decide +kernel) (by rfl) ?_
                                                                          rw [giv_o (by first | decide | omega), (hO 50 49 (by omega)).1]
                                                                          rw [o49]
                                                                          refine zq_ic hc hH (by rfl) (tg := 253) (by rfl) (fun h37 => ?_) (fun h37 => ?_)
                                                                          · have h37 : (decide ((nI (l + 2)) = (nI (l + 1)))) = true := decide_eq_true (cm_eq9.mp h37)
                                                                            exact absurd (Eq.trans (Eq.symm (kn_ne (by omega) (by omega) (by omega))) h37) (by decide)
                                                                          · have h37 : (decide ((nI (l + 2)) = (nI (l + 1)))) = false := decide_eq_false (cn_eq.mp h37)
                                                                            refine z_rcs hc hH 4 (pc' := 250) (lv' := [(4, .int (nI (l + 2))), (3, .int (nB cd)), (0, .ref 50), (1, .int (nI s)), (2, .int (nI l))]) (st' := [.int (-1), .int (nI (l + 2)), .int (nI s), .ref 50]) (μ' := z_giv W s l (-1)) (by rfl) ?_
                                                                            refine zq_call hc (z_cx_ok hH (by rfl)) (fc_X7_gives d' (by omega) (z_giv W s l (-1)) s (l + 2) (-1) hs4 (by omega)) (by decide +kernel) (fun r9 μ9 hq => ?_)
                                                                            obtain ⟨rfl, rfl⟩ := hq
                                                                            show Z 0 253 [(4, .int (nI (l + 2))), (3, .int (nB cd)), (0, .ref 50), (1, .int (nI s)), (2, .int (nI l))] [] (z_giv (z_giv W s l (-1)) s (l + 2) (-1))
                                                                            refine z_rcs0 hc hH 3 (pc' := 230) (lv' := [(4, .int ((nI (l + 2)) + 1)), (3, .int (nB cd)), (0, .ref 50), (1, .int (nI s)), (2, .int (nI l))]) (st' := [.int ((nI (l + 2)) + 1)]) (by rfl) ?_
                                                                            rw [show nI (l + 2) + 1 = nI (l + 3) from nI_s1 _]
                                                                            refine z_rcs0 hc hH 3 (pc' := 233) (lv' := [(4, .int (nI (l + 3))), (3, .int (nB cd)), (0, .ref 50), (1, .int (nI s)), (2, .int (nI l))]) (st' := [.int ((nI l) + 3), .int (nI (l + 3))]) (by rfl) ?_
                                                                            rw [show nI l + 3 = nI (l + 3) from nI_add l 3]
                                                                            refine zq_ic hc hH (by rfl) (tg := 259) (by rfl) (fun h38 => ?_) (fun h38 => ?_)
                                                                            · have h38 : (decide ((nI (l + 3)) ≤ (nI (l + 3)))) = true := decide_eq_true (cm_ge.mp h38)
                                                                              refine z_rcs0 hc hH 4 (pc' := 263) (lv' := [(4, .int (nI (l + 3))), (3, .int (nB cd)), (0, .ref 50), (1, .int (nI s)), (2, .int (nI l))]) (st' := [.int (nI l), .int 0, .int (nI s), .ref 50]) (by rfl) ?_
                                                                              refine zq_call hc (z_cx_ok hH (by rfl)) (gm_claims d' (by omega) (z_giv (z_giv W s l (-1)) s (l + 2) (-1)) s q 0 (nI l) hs4 hq4 (by rw [giv_o (by first | decide | omega), giv_o (by first | decide | omega), (hO 64 s (by omega)).1]; exact o64)) (by decide +kernel) (fun r9 μ9 hq => ?_)
                                                                              obtain ⟨rfl, rfl⟩ := hq
                                                                              show Z 0 266 [(4, .int (nI (l + 3))), (3, .int (nB cd)), (0, .ref 50), (1, .int (nI s)), (2, .int (nI l))] [] (clM (z_giv (z_giv W s l (-1)) s (l + 2) (-1)) s q 0 (nI l))
                                                                              refine z_rcs0 hc hH 1 (pc' := 267) (lv' := [(4, .int (nI (l + 3))), (3, .int (nB cd)), (0, .ref 50), (1, .int (nI s)), (2, .int (nI l))]) (st' := [.int 1]) (by rfl) ?_
                                                                              exact hr 0 267 _ _ _ (some (.int 1)) (by decide +kernel) (z_rx_ok hH (by rfl)) (Or.inl ⟨by simp only [ruC1, h1, h2, h3, h8, h13, h31, Bool.true_or, Bool.true_and, Bool.and_true, Bool.false_and, Bool.and_false, Bool.not_true, Bool.not_false, Bool.or_true, Bool.or_false, Bool.false_or, cond_true, cond_false], rfl, by unfold ruO1; exact SM_cl (SM_giv (SM_giv (hO)))⟩)
                                                                            · have h38 : (decide ((nI (l + 3)) ≤ (nI (l + 3)))) = false := decide_eq_false (cn_ge.mp h38)
                                                                              exact absurd (Eq.trans (Eq.symm (kn_nle (by omega) (by omega) (by omega))) h38) (by decide)
                                                                      · have h35 : (decide ((nI (l + 1)) = (nI (l + 1)))) = false := decide_eq_false (cn_eq.mp h35)
                                                                        exact absurd (Eq.trans (Eq.symm (kn_eq rfl)) h35) (by decide)
                                                              · have h31 : (cd) = false := nB_z.mp (cn_ne.mp h31)
                                                                refine z_rcs hc hH 1 (pc' := 220) (lv' := [(4, .int (nI (l + 3))), (3, .int (nB cd)), (0, .ref 50), (1, .int (nI s)), (2, .int (nI l))]) (st' := [.int 0]) (μ' := z_giv (z_giv (z_giv (z_giv (z_ui (z_ui (z_ui μ 50 0 0) 50 50 (nI (l + 1))) 50 51 (-1)) s l (-1)) s (l + 2) (-1)) s l 1) s (l + 2) 1) (by rfl) ?_
                                                                exact hr 0 220 _ _ _ (some (.int 0)) (by decide +kernel) (z_rx_ok hH (by rfl)) (Or.inr ⟨by simp only [ruC1, h1, h2, h3, h8, h13, h31, Bool.true_or, Bool.true_and, Bool.and_true, Bool.false_and, Bool.and_false, Bool.not_true, Bool.not_false, Bool.or_true, Bool.or_false, Bool.false_or, cond_true, cond_false], rfl, Or.inr rfl⟩)
                                                            · have h30 : (decide ((nI (l + 3)) ≤ (nI (l + 3)))) = false := decide_eq_false (cn_ge.mp h30)
                                                              exact absurd (Eq.trans (Eq.symm (kn_nle (by omega) (by omega) (by omega))) h30) (by decide)
                                                      · have h27 : (decide ((nI (l + 1)) = (nI (l + 1)))) = false := decide_eq_false (cn_eq.mp h27)
                                                        exact absurd (Eq.trans (Eq.symm (kn_eq rfl)) h27) (by decide)
                                              · have h23 : (decide ((nI (l + 3)) ≤ (nI (l + 3)))) = false := decide_eq_false (cn_ge.mp h23)
                                                exact absurd (Eq.trans (Eq.symm (kn_nle (by omega) (by omega) (by omega))) h23) (by decide)
                                        · have h20 : (decide ((nI (l + 1)) = (nI (l + 1)))) = false := decide_eq_false (cn_eq.mp h20)
                                          exact absurd (Eq.trans (Eq.symm (kn_eq rfl)) h20) (by decide)
                                · have h16 : (decide ((nI (l + 1)) = (nI (l + 2)))) = true := decide_eq_true (cn_ne.mp h16)
                                  exact absurd (Eq.trans (Eq.symm (kn_ne (by omega) (by omega) (by omega))) h16) (by decide)
                              · have h15 : (decide ((nI (l + 1)) = (nI l))) = true := decide_eq_true (cn_ne.mp h15)
                                exact absurd (Eq.trans (Eq.symm (kn_ne (by omega) (by omega) (by omega))) h15) (by decide)
                            · have h14 : (decide ((nI (l + 3)) ≤ (nI (l + 3)))) = false := decide_eq_false (cn_ge.mp h14)
                              exact absurd (Eq.trans (Eq.symm (kn_nle (by omega) (by omega) (by omega))) h14) (by decide)
                          · have h13 : (decide ((μ.1 60 (34 * s + (l + 2))) = 0)) = true := decide_eq_true (cn_ne.mp h13)
                            refine z_rcs hc hH 1 (pc' := 79) (lv' := [(3, .int (nI (l + 2))), (0, .ref 50), (1, .int (nI s)), (2, .int (nI l))]) (st' := [.int 0]) (μ' := z_ui μ 50 0 0) (by rfl) ?_
                            exact hr 0 79 _ _ _ (some (.int 0)) (by decide +kernel) (z_rx_ok hH (by rfl)) (Or.inr ⟨by simp only [ruC1, h1, h2, h3, h8, h13, Bool.true_or, Bool.true_and, Bool.and_true, Bool.false_and, Bool.and_false, Bool.not_true, Bool.not_false, Bool.or_true, Bool.or_false, Bool.false_or, cond_true, cond_false], rfl, Or.inl rfl⟩)
                    · have h10 : (decide ((nI (l + 1)) = (nI (l + 1)))) = false := decide_eq_false (cn_eq.mp h10)
                      exact absurd (Eq.trans (Eq.symm (kn_eq rfl)) h10) (by decide)
                · have h8 : (decide ((μ.1 60 (34 * s + l)) = 0)) = true := decide_eq_true (cn_ne.mp h8)
                  refine z_rcs hc hH 1 (pc' := 79) (lv' := [(3, .int (nI l)), (0, .ref 50), (1, .int (nI s)), (2, .int (nI l))]) (st' := [.int 0]) (μ' := z_ui μ 50 0 0) (by rfl) ?_
                  exact hr 0 79 _ _ _ (some (.int 0)) (by decide +kernel) (z_rx_ok hH (by rfl)) (Or.inr ⟨by simp only [ruC1, h1, h2, h3, h8, Bool.true_or, Bool.true_and, Bool.and_true, Bool.false_and, Bool.and_false, Bool.not_true, Bool.not_false, Bool.or_true, Bool.or_false, Bool.false_or, cond_true, cond_false], rfl, Or.inl rfl⟩)
          · have h5 : (decide ((nI (l + 1)) ≤ (nI (l + 2)))) = false := decide_eq_false (cn_le.mp h5)
            exact absurd (Eq.trans (Eq.symm (kn_nle (by omega) (by omega) (by omega))) h5) (by decide)
noncomputable abbrev ruC2 (μ : zM) (s l u1 : Nat) (mc ir cd : Bool) : Bool := (mc) && ((decide ((nI s) = (nI u1)))) && (ir) && (!(decide ((μ.1 60 (34 * s + l)) = 0))) && (!(decide ((μ.1 60 (34 * s + (l + 1))) = 0))) && (cd)
noncomputable def ruM2 (μ : zM) (s l : Nat) : zM := z_giv (z_giv (z_giv (z_giv (z_ui (z_ui (z_ui μ 50 0 0) 50 50 (nI (l + 2))) 50 51 (bif decide (((nI l) - (nI l) / 9 * 9) ≤ 0) then (-1 : Int32) else (nI l) - 1)) s l (-1)) s (l + 1) (-1)) s l 1) s (l + 1) 1
noncomputable def ruO2 (O : zM) (s l q : Nat) : zM := clM (z_giv (z_giv O s l (-1)) s (l + 1) (-1)) s q 0 (nI l)
theorem gm_run2 (d : Nat) (hd : 702 ≤ d) (μ : zM) (s q l t u1 : Nat) (hs4 : s < 4) (hq4 : q < 4) (hl : l + 2 ≤ 33) (ht4 : t < 4) (ht : μ.1 50 45 = nI t) (hu1 : (t + 1) % 4 = u1) (hu14 : u1 < 4) (hc49 : μ.1 50 49 = nI (l + 2)) (mc : Bool) (hmc : ∀ d, 2 ≤ d → z_C d mi_X7_mayClaim [.ref 50, .int (nI s)] (z_ui μ 50 0 0) (zR (z_ui μ 50 0 0) (.int (nB mc)))) (ir : Bool) (hir : ∀ d, 1 ≤ d → z_C d mi_X7_isRun [.int (nI l)] (z_ui μ 50 0 0) (zR (z_ui μ 50 0 0) (.int (nB ir)))) (cd : Bool) (hcd : ∀ d, 2 ≤ d → z_C d mi_X7_canDiscard [.ref 50, .int (nI s)] (z_giv (z_giv (z_ui (z_ui (z_ui μ 50 0 0) 50 50 (nI (l + 2))) 50 51 (bif decide (((nI l) - (nI l) / 9 * 9) ≤ 0) then (-1 : Int32) else (nI l) - 1)) s l (-1)) s (l + 1) (-1)) (zR (z_giv (z_giv (z_ui (z_ui (z_ui μ 50 0 0) 50 50 (nI (l + 2))) 50 51 (bif decide (((nI l) - (nI l) / 9 * 9) ≤ 0) then (-1 : Int32) else (nI l) - 1)) s l (-1)) s (l + 1) (-1)) (.int (nB cd)))) (O : zM) (hov : ∀ d, 701 ≤ d → z_C d mi_X7_over [.ref 50] (ruM2 μ s l) (fun r W => r = none ∧ SMj O W ∧ a_H W)) (o49 : O.1 50 49 = nI (l + 2)) (o64 : O.1 64 s = nI q) : z_C d mi_X7_run [.ref 50, .int (nI s), .int (nI l)] μ (fun r μ' => (ruC2 μ s l u1 mc ir cd = true ∧ r = some (.int 1) ∧ SMj (ruO2 O s l q) μ') ∨ (ruC2 μ s l u1 mc ir cd = false ∧ r = some (.int 0) ∧ (μ' = z_ui μ 50 0 0 ∨ μ' = ruM2 μ s l))) := by
  refine z_C_in (by decide) (by omega) (fun d' Z ed hc hr => ?_)
  have hH : zH mi_X7_run zt_X7_run 79 7 5 := hh_X7_run
  refine z_rcs hc hH 2 (pc' := 2) (lv' := [(0, .ref 50), (1, .int (nI s)), (2, .int (nI l))]) (st' := [.int 0, .ref 50]) (μ' := μ) (by rfl) ?_
  refine zq_pfi hc hH (by rfl) (ci := 6) (f := 0) (by rfl) (by decide +kernel) (by rfl) ?_
  show Z 0 5 [(0, .ref 50), (1, .int (nI s)), (2, .int (nI l))] [] (z_ui μ 50 0 0)
  refine z_rcs hc hH 2 (pc' := 7) (lv' := [(0, .ref 50), (1, .int (nI s)), (2, .int (nI l))]) (st' := [.int (nI s), .ref 50]) (μ' := z_ui μ 50 0 0) (by rfl) ?_
  refine zq_call hc (z_cx_ok hH (by rfl)) (hmc d' (by omega)) (by decide +kernel) (fun r9 μ9 hq => ?_)
  obtain ⟨hμ9, rfl⟩ := hq
  rw [hμ9]
  clear hμ9 μ9
  show Z 0 10 [(0, .ref 50), (1, .int (nI s)), (2, .int (nI l))] [.int (nB mc)] (z_ui μ 50 0 0)
  refine zq_if hc hH (by rfl) (tg := 50) (by rfl) (fun h1 => ?_) (fun h1 => ?_)
  · have h1 : (mc) = false := nB_z.mp (cm_eq9.mp h1)
    refine z_rcs hc hH 1 (pc' := 51) (lv' := [(0, .ref 50), (1, .int (nI s)), (2, .int (nI l))]) (st' := [.int 0]) (μ' := z_ui μ 50 0 0) (by rfl) ?_
    exact hr 0 51 _ _ _ (some (.int 0)) (by decide +kernel) (z_rx_ok hH (by rfl)) (Or.inr ⟨by simp only [ruC2, h1, Bool.true_or, Bool.true_and, Bool.and_true, Bool.false_and, Bool.and_false, Bool.not_true, Bool.not_false, Bool.or_true, Bool.or_false, Bool.false_or, cond_true, cond_false], rfl, Or.inl rfl⟩)
  · have h1 : (mc) = true := nB_n.mp (cn_eq.mp h1)
    refine z_rcs hc hH 2 (pc' := 15) (lv' := [(0, .ref 50), (1, .int (nI s)), (2, .int (nI l))]) (st' := [.ref 50, .int (nI s)]) (μ' := z_ui μ 50 0 0) (by rfl) ?_
    refine zq_gfi hc hH (by rfl) (ci := 6) (f := 45) (by rfl) (by decide +kernel) (by rfl) ?_
    refine zV1 (Z := Z) (ui_k (by first | decide | omega)) ?_
    rw [ht]
    refine z_rcs hc hH 2 (pc' := 20) (lv' := [(0, .ref 50), (1, .int (nI s)), (2, .int (nI l))]) (st' := [.int ((nI t) + 1), .int (nI s)]) (μ' := z_ui μ 50 0 0) (by rfl) ?_
    rw [nI_s1]
    refine z_rcs hc hH 2 (pc' := 22) (lv' := [(0, .ref 50), (1, .int (nI s)), (2, .int (nI l))]) (st' := [.int ((nI (t + 1)) - (nI (t + 1)) / 4 * 4), .int (nI s)]) (μ' := z_ui μ 50 0 0) (by rfl) ?_
    rw [show nI (t + 1) - nI (t + 1) / 4 * 4 = nI u1 from by rw [rm4 _ (by omega), hu1]]
    refine zq_ic hc hH (by rfl) (tg := 50) (by rfl) (fun h2 => ?_) (fun h2 => ?_)
    · have h2 : (decide ((nI s) = (nI u1))) = false := decide_eq_false (cm_ne.mp h2)
      refine z_rcs hc hH 1 (pc' := 51) (lv' := [(0, .ref 50), (1, .int (nI s)), (2, .int (nI l))]) (st' := [.int 0]) (μ' := z_ui μ 50 0 0) (by rfl) ?_
      exact hr 0 51 _ _ _ (some (.int 0)) (by decide +kernel) (z_rx_ok hH (by rfl)) (Or.inr ⟨by simp only [ruC2, h1, h2, Bool.true_or, Bool.true_and, Bool.and_true, Bool.false_and, Bool.and_false, Bool.not_true, Bool.not_false, Bool.or_true, Bool.or_false, Bool.false_or, cond_true, cond_false], rfl, Or.inl rfl⟩)
    · have h2 : (decide ((nI s) = (nI u1))) = true := decide_eq_true (cn_ne.mp h2)
      refine z_rcs hc hH 1 (pc' := 26) (lv' := [(0, .ref 50), (1, .int (nI s)), (2, .int (nI l))]) (st' := [.int (nI l)]) (μ' := z_ui μ 50 0 0) (by rfl) ?_
      refine zq_call hc (z_cx_ok hH (by rfl)) (hir d' (by omega)) (by decide +kernel) (fun r9 μ9 hq => ?_)
      obtain ⟨hμ9, rfl⟩ := hq
      rw [hμ9]
      clear hμ9 μ9
      show Z 0 29 [(0, .ref 50), (1, .int (nI s)), (2, .int (nI l))] [.int (nB ir)] (z_ui μ 50 0 0)
      refine zq_if hc hH (by rfl) (tg := 50) (by rfl) (fun h3 => ?_) (fun h3 => ?_)
      · have h3 : (ir) = false := nB_z.mp (cm_eq9.mp h3)
        refine z_rcs hc hH 1 (pc' := 51) (lv' := [(0, .ref 50), (1, .int (nI s)), (2, .int (nI l))]) (st' := [.int 0]) (μ' := z_ui μ 50 0 0) (by rfl) ?_
        exact hr 0 51 _ _ _ (some (.int 0)) (by decide +kernel) (z_rx_ok hH (by rfl)) (Or.inr ⟨by simp only [ruC2, h1, h2, h3, Bool.true_or, Bool.true_and, Bool.and_true, Bool.false_and, Bool.and_false, Bool.not_true, Bool.not_false, Bool.or_true, Bool.or_false, Bool.false_or, cond_true, cond_false], rfl, Or.inl rfl⟩)
      · have h3 : (ir) = true := nB_n.mp (cn_eq.mp h3)
        refine z_rcs hc hH 1 (pc' := 33) (lv' := [(0, .ref 50), (1, .int (nI s)), (2, .int (nI l))]) (st' := [.ref 50]) (μ' := z_ui μ 50 0 0) (by rfl) ?_
        refine zq_gfi hc hH (by rfl) (ci := 6) (f := 49) (by rfl) (by decide +kernel) (by rfl) ?_
        refine zV1 (Z := Z) (ui_k (by first | decide | omega)) ?_
        rw [hc49]
        refine z_rcs hc hH 1 (pc' := 37) (lv' := [(0, .ref 50), (1, .int (nI s)), (2, .int (nI l))]) (st' := [.int (nI l), .int (nI (l + 2))]) (μ' := z_ui μ 50 0 0) (by rfl) ?_
        refine zq_ic hc hH (by rfl) (tg := 50) (by rfl) (fun h4 => ?_) (fun h4 => ?_)
        · have h4 : (decide ((nI (l + 2)) < (nI l))) = true := decide_eq_true (cm_lt.mp h4)
          exact absurd (Eq.trans (Eq.symm (kn_nlg (by omega) (by omega) (by omega))) h4) (by decide)
        · have h4 : (decide ((nI (l + 2)) < (nI l))) = false := decide_eq_false (cn_lt.mp h4)
          refine z_rcs hc hH 1 (pc' := 41) (lv' := [(0, .ref 50), (1, .int (nI s)), (2, .int (nI l))]) (st' := [.ref 50]) (μ' := z_ui μ 50 0 0) (by rfl) ?_
          refine zq_gfi hc hH (by rfl) (ci := 6) (f := 49) (by rfl) (by decide +kernel) (by rfl) ?_
          refine zV1 (Z := Z) (ui_k (by first | decide | omega)) ?_
          rw [hc49]
          refine z_rcs hc hH 3 (pc' := 47) (lv' := [(0, .ref 50), (1, .int (nI s)), (2, .int (nI l))]) (st' := [.int ((nI l) + 2), .int (nI (l + 2))]) (μ' := z_ui μ 50 0 0) (by rfl) ?_
          rw [show nI l + 2 = nI (l + 2) from nI_add l 2]
          refine zq_ic hc hH (by rfl) (tg := 52) (by rfl) (fun h5 => ?_) (fun h5 => ?_)
          · have h5 : (decide ((nI (l + 2)) ≤ (nI (l + 2)))) = true := decide_eq_true (cm_le.mp h5)
            refine z_rcs hc hH 6 (pc' := 58) (lv' := [(3, .int (nI l)), (0, .ref 50), (1, .int (nI s)), (2, .int (nI l))]) (st' := [.int ((nI l) + 3), .int (nI l)]) (μ' := z_ui μ 50 0 0) (by rfl) ?_
            rw [show nI l + 3 = nI (l + 3) from nI_add l 3]
            refine zq_ic hc hH (by rfl) (tg := 86) (by rfl) (fun h6 => ?_) (fun h6 => ?_)
            · have h6 : (decide ((nI (l + 3)) ≤ (nI l))) = true := decide_eq_true (cm_ge.mp h6)
              exact absurd (Eq.trans (Eq.symm (kn_nlf (by omega) (by omega) (by omega))) h6) (by decide)
            · have h6 : (decide ((nI (l + 3)) ≤ (nI l))) = false := decide_eq_false (cn_ge.mp h6)
              refine z_rcs hc hH 2 (pc' := 63) (lv' := [(3, .int (nI l)), (0, .ref 50), (1, .int (nI s)), (2, .int (nI l))]) (st' := [.ref 50, .int (nI l)]) (μ' := z_ui μ 50 0 0) (by rfl) ?_
              refine zq_gfi hc hH (by rfl) (ci := 6) (f := 49) (by rfl) (by decide +kernel) (by rfl) ?_
              refine zV1 (Z := Z) (ui_k (by first | decide | omega)) ?_
              rw [hc49]
              refine zq_ic hc hH (by rfl) (tg := 80) (by rfl) (fun h7 => ?_) (fun h7 => ?_)
              · have h7 : (decide ((nI l) = (nI (l + 2)))) = true := decide_eq_true (cm_eq9.mp h7)
                exact absurd (Eq.trans (Eq.symm (kn_ne (by omega) (by omega) (by omega))) h7) (by decide)
              · have h7 : (decide ((nI l) = (nI (l + 2)))) = false := decide_eq_false (cn_eq.mp h7)
                refine z_rcs hc hH 3 (pc' := 72) (lv' := [(3, .int (nI l)), (0, .ref 50), (1, .int (nI s)), (2, .int (nI l))]) (st' := [.int (nI l), .int (nI s), .ref 50]) (μ' := z_ui μ 50 0 0) (by rfl) ?_
                refine zq_call hc (z_cx_ok hH (by rfl)) (fc_X7_has_ d' (by omega) (z_ui μ 50 0 0) s l hs4 (by omega)) (by decide +kernel) (fun r9 μ9 hq => ?_)
                obtain ⟨hμ9, rfl⟩ := hq
                rw [hμ9]
                clear hμ9 μ9
                rw [ui_o (by first | decide | omega)]
                show Z 0 75 [(3, .int (nI l)), (0, .ref 50), (1, .int (nI s)), (2, .int (nI l))] [.int (μ.1 60 (34 * s + l))] (z_ui μ 50 0 0)
                refine zq_if hc hH (by rfl) (tg := 80) (by rfl) (fun h8 => ?_) (fun h8 => ?_)
                · have h8 : (decide ((μ.1 60 (34 * s + l)) = 0)) = false := decide_eq_false (cm_ne.mp h8)
                  refine z_rcs hc hH 3 (pc' := 55) (lv' := [(3, .int ((nI l) + 1)), (0, .ref 50), (1, .int (nI s)), (2, .int (nI l))]) (st' := [.int ((nI l) + 1)]) (μ' := z_ui μ 50 0 0) (by rfl) ?_
                  rw [nI_s1]
                  refine z_rcs hc hH 3 (pc' := 58) (lv' := [(3, .int (nI (l + 1))), (0, .ref 50), (1, .int (nI s)), (2, .int (nI l))]) (st' := [.int ((nI l) + 3), .int (nI (l + 1))]) (μ' := z_ui μ 50 0 0) (by rfl) ?_
                  rw [show nI l + 3 = nI (l + 3) from nI_add l 3]
                  refine zq_ic hc hH (by rfl) (tg := 86) (by rfl) (fun h9 => ?_) (fun h9 => ?_)
                  · have h9 : (decide ((nI (l + 3)) ≤ (nI (l + 1)))) = true := decide_eq_true (cm_ge.mp h9)
                    exact absurd (Eq.trans (Eq.symm (kn_nlf (by omega) (by omega) (by omega))) h9) (by decide)
                  · have h9 : (decide ((nI (l + 3)) ≤ (nI (l + 1)))) = false := decide_eq_false (cn_ge.mp h9)
                    refine z_rcs hc hH 2 (pc' := 63) (lv' := [(3, .int (nI (l + 1))), (0, .ref 50), (1, .int (nI s)), (2, .int (nI l))]) (st' := [.ref 50, .int (nI (l + 1))]) (μ' := z_ui μ 50 0 0) (by rfl) ?_
                    refine zq_gfi hc hH (by rfl) (ci := 6) (f := 49) (by rfl) (by decide +kernel) (by rfl) ?_
                    refine zV1 (Z := Z) (ui_k (by first | decide | omega)) ?_
                    rw [hc49]
                    refine zq_ic hc hH (by rfl) (tg := 80) (by rfl) (fun h10 => ?_) (fun h10 => ?_)
                    · have h10 : (decide ((nI (l + 1)) = (nI (l + 2)))) = true := decide_eq_true (cm_eq9.mp h10)
                      exact absurd (Eq.trans (Eq.symm (kn_ne (by omega) (by omega) (by omega))) h10) (by decide)
                    · have h10 : (decide ((nI (l + 1)) = (nI (l + 2)))) = false := decide_eq_false (cn_eq.mp h10)
                      refine z_rcs hc hH 3 (pc' := 72) (lv' := [(3, .int (nI (l + 1))), (0, .ref 50), (1, .int (nI s)), (2, .int (nI l))]) (st' := [.int (nI (l + 1)), .int (nI s), .ref 50]) (μ' := z_ui μ 50 0 0) (by rfl) ?_
                      refine zq_call hc (z_cx_ok hH (by rfl)) (fc_X7_has_ d' (by omega) (z_ui μ 50 0 0) s (l + 1) hs4 (by omega)) (by decide +kernel) (fun r9 μ9 hq => ?_)
                      obtain ⟨hμ9, rfl⟩ := hq
                      rw [hμ9]
                      clear hμ9 μ9
                      rw [ui_o (by first | decide | omega)]
                      show Z 0 75 [(3, .int (nI (l + 1))), (0, .ref 50), (1, .int (nI s)), (2, .int (nI l))] [.int (μ.1 60 (34 * s + (l + 1)))] (z_ui μ 50 0 0)
                      refine zq_if hc hH (by rfl) (tg := 80) (by rfl) (fun h11 => ?_) (fun h11 => ?_)
                      · have h11 : (decide ((μ.1 60 (34 * s + (l + 1))) = 0)) = false := decide_eq_false (cm_ne.mp h11)
                        refine z_rcs hc hH 3 (pc' := 55) (lv' := [(3, .int ((nI (l + 1)) + 1)), (0, .ref 50), (1, .int (nI s)), (2, .int (nI l))]) (st' := [.int ((nI (l + 1)) + 1)]) (μ' := z_ui μ 50 0 0) (by rfl) ?_
                        rw [show nI (l + 1) + 1 = nI (l + 2) from nI_s1 _]
                        refine z_rcs hc hH 3 (pc' := 58) (lv' := [(3, .int (nI (l + 2))), (0, .ref 50), (1, .int (nI s)), (2, .int (nI l))]) (st' := [.int ((nI l) + 3), .int (nI (l + 2))]) (μ' := z_ui μ 50 0 0) (by rfl) ?_
                        rw [show nI l + 3 = nI (l + 3) from nI_add l 3]
                        refine zq_ic hc hH (by rfl) (tg := 86) (by rfl) (fun h12 => ?_) (fun h12 => ?_)
                        · have h12 : (decide ((nI (l + 3)) ≤ (nI (l + 2)))) = true := decide_eq_true (cm_ge.mp h12)
                          exact absurd (Eq.trans (Eq.symm (kn_nlf (by omega) (by omega) (by omega))) h12) (by decide)
                        · have h12 : (decide ((nI (l + 3)) ≤ (nI (l + 2)))) = false := decide_eq_false (cn_ge.mp h12)
                          refine z_rcs hc hH 2 (pc' := 63) (lv' := [(3, .int (nI (l + 2))), (0, .ref 50), (1, .int (nI s)), (2, .int (nI l))]) (st' := [.ref 50, .int (nI (l + 2))]) (μ' := z_ui μ 50 0 0) (by rfl) ?_
                          refine zq_gfi hc hH (by rfl) (ci := 6) (f := 49) (by rfl) (by decide +kernel) (by rfl) ?_
                          refine zV1 (Z := Z) (ui_k (by first | decide | omega)) ?_
                          rw [hc49]
                          refine zq_ic hc hH (by rfl) (tg := 80) (by rfl) (fun h13 => ?_) (fun h13 => ?_)
                          · have h13 : (decide ((nI (l + 2)) = (nI (l + 2)))) = true := decide_eq_true (cm_eq9.mp h13)
                            refine z_rcs hc hH 3 (pc' := 55) (lv' := [(3, .int ((nI (l + 2)) + 1)), (0, .ref 50), (1, .int (nI s)), (2, .int (nI l))]) (st' := [.int ((nI (l + 2)) + 1)]) (μ' := z_ui μ 50 0 0) (by rfl) ?_
                            rw [show nI (l + 2) + 1 = nI (l + 3) from nI_s1 _]
                            refine z_rcs hc hH 3 (pc' := 58) (lv' := [(3, .int (nI (l + 3))), (0, .ref 50), (1, .int (nI s)), (2, .int (nI l))]) (st' := [.int ((nI l) + 3), .int (nI (l + 3))]) (μ' := z_ui μ 50 0 0) (by rfl) ?_
                            rw [show nI l + 3 = nI (l + 3) from nI_add l 3]
                            refine zq_ic hc hH (by rfl) (tg := 86) (by rfl) (fun h14 => ?_) (fun h14 => ?_)
                            · have h14 : (decide ((nI (l + 3)) ≤ (nI (l + 3)))) = true := decide_eq_true (cm_ge.mp h14)
                              refine z_rcs hc hH 2 (pc' := 88) (lv' := [(3, .int (nI (l + 3))), (0, .ref 50), (1, .int (nI s)), (2, .int (nI l))]) (st' := [.ref 50, .ref 50]) (μ' := z_ui μ 50 0 0) (by rfl) ?_
                              refine zq_gfi hc hH (by rfl) (ci := 6) (f := 49) (by rfl) (by decide +kernel) (by rfl) ?_
                              refine zV1 (Z := Z) (ui_k (by first | decide | omega)) ?_
                              rw [hc49]
                              refine zq_pfi hc hH (by rfl) (ci := 6) (f := 50) (by rfl) (by decide +kernel) (by rfl) ?_
                              show Z 0 94 [(3, .int (nI (l + 3))), (0, .ref 50), (1, .int (nI s)), (2, .int (nI l))] [] (z_ui (z_ui μ 50 0 0) 50 50 (nI (l + 2)))
                              refine z_rcs0 hc hH 2 (pc' := 96) (lv' := [(3, .int (nI (l + 3))), (0, .ref 50), (1, .int (nI s)), (2, .int (nI l))]) (st' := [.ref 50, .ref 50]) (by rfl) ?_
                              refine zq_gfi hc hH (by rfl) (ci := 6) (f := 49) (by rfl) (by decide +kernel) (by rfl) ?_
                              refine zV1 (Z := Z) (Eq.trans (ui_k (by first | decide | omega)) (ui_k (by first | decide | omega))) ?_
                              rw [hc49]
                              refine z_rcs0 hc hH 1 (pc' := 100) (lv' := [(3, .int (nI (l + 3))), (0, .ref 50), (1, .int (nI s)), (2, .int (nI l))]) (st' := [.int (nI l), .int (nI (l + 2)), .ref 50]) (by rfl) ?_
                              refine zq_ic hc hH (by rfl) (tg := 118) (by rfl) (fun h15 => ?_) (fun h15 => ?_)
                              · have h15 : (decide ((nI (l + 2)) = (nI l))) = false := decide_eq_false (cm_ne.mp h15)
                                refine z_rcs0 hc hH 1 (pc' := 119) (lv' := [(3, .int (nI (l + 3))), (0, .ref 50), (1, .int (nI s)), (2, .int (nI l))]) (st' := [.ref 50, .ref 50]) (by rfl) ?_
                                refine zq_gfi hc hH (by rfl) (ci := 6) (f := 49) (by rfl) (by decide +kernel) (by rfl) ?_
                                refine zV1 (Z := Z) (Eq.trans (ui_k (by first | decide | omega)) (ui_k (by first | decide | omega))) ?_
                                rw [hc49]
                                refine z_rcs0 hc hH 3 (pc' := 125) (lv' := [(3, .int (nI (l + 3))), (0, .ref 50), (1, .int (nI s)), (2, .int (nI l))]) (st' := [.int ((nI l) + 2), .int (nI (l + 2)), .ref 50]) (by rfl) ?_
                                rw [show nI l + 2 = nI (l + 2) from nI_add l 2]
                                refine zq_ic hc hH (by rfl) (tg := 141) (by rfl) (fun h16 => ?_) (fun h16 => ?_)
                                · have h16 : (decide ((nI (l + 2)) = (nI (l + 2)))) = false := decide_eq_false (cm_ne.mp h16)
                                  exact absurd (Eq.trans (Eq.symm (kn_eq rfl)) h16) (by decide)
                                · have h16 : (decide ((nI (l + 2)) = (nI (l + 2)))) = true := decide_eq_true (cn_ne.mp h16)
                                  refine z_rcs0 hc hH 3 (pc' := 132) (lv' := [(3, .int (nI (l + 3))), (0, .ref 50), (1, .int (nI s)), (2, .int (nI l))]) (st' := [.int ((nI l) - (nI l) / 9 * 9), .ref 50]) (by rfl) ?_
                                  have hJ17 : Z 0 142 [(3, .int (nI (l + 3))), (0, .ref 50), (1, .int (nI s)), (2, .int (nI l))] [.int (bif decide (((nI l) - (nI l) / 9 * 9) ≤ 0) then (-1 : Int32) else (nI l) - 1), .ref 50] (z_ui (z_ui μ 50 0 0) 50 50 (nI (l + 2))) := by
                                    refine zq_pfi hc hH (by rfl) (ci := 6) (f := 51) (by rfl) (by decide +kernel) (by rfl) ?_
                                    show Z 0 145 [(3, .int (nI (l + 3))), (0, .ref 50), (1, .int (nI s)), (2, .int (nI l))] [] (z_ui (z_ui (z_ui μ 50 0 0) 50 50 (nI (l + 2))) 50 51 (bif decide (((nI l) - (nI l) / 9 * 9) ≤ 0) then (-1 : Int32) else (nI l) - 1))
                                    refine z_rcs0 hc hH 6 (pc' := 151) (lv' := [(3, .int (nI l)), (0, .ref 50), (1, .int (nI s)), (2, .int (nI l))]) (st' := [.int ((nI l) + 3), .int (nI l)]) (by rfl) ?_
                                    rw [show nI l + 3 = nI (l + 3) from nI_add l 3]
                                    refine zq_ic hc hH (by rfl) (tg := 175) (by rfl) (fun h18 => ?_) (fun h18 => ?_)
                                    · have h18 : (decide ((nI (l + 3)) ≤ (nI l))) = true := decide_eq_true (cm_ge.mp h18)
                                      exact absurd (Eq.trans (Eq.symm (kn_nlf (by omega) (by omega) (by omega))) h18) (by decide)
                                    · have h18 : (decide ((nI (l + 3)) ≤ (nI l))) = false := decide_eq_false (cn_ge.mp h18)
                                      refine z_rcs0 hc hH 2 (pc' := 156) (lv' := [(3, .int (nI l)), (0, .ref 50), (1, .int (nI s)), (2, .int (nI l))]) (st' := [.ref 50, .int (nI l)]) (by rfl) ?_
                                      refine zq_gfi hc hH (by rfl) (ci := 6) (f := 49) (by rfl) (by decide +kernel) (by rfl) ?_
                                      refine zV1 (Z := Z) (Eq.trans (ui_k (by first | decide | omega)) (Eq.trans (ui_k (by first | decide | omega)) (ui_k (by first | decide | omega)))) ?_
                                      rw [hc49]
                                      refine zq_ic hc hH (by rfl) (tg := 169) (by rfl) (fun h19 => ?_) (fun h19 => ?_)
                                      · have h19 : (decide ((nI l) = (nI (l + 2)))) = true := decide_eq_true (cm_eq9.mp h19)
                                        exact absurd (Eq.trans (Eq.symm (kn_ne (by omega) (by omega) (by omega))) h19) (by decide)
                                      · have h19 : (decide ((nI l) = (nI (l + 2)))) = false := decide_eq_false (cn_eq.mp h19)
                                        refine z_rcs0 hc hH 4 (pc' := 166) (lv' := [(3, .int (nI l)), (0, .ref 50), (1, .int (nI s)), (2, .int (nI l))]) (st' := [.int (-1), .int (nI l), .int (nI s), .ref 50]) (by rfl) ?_
                                        refine zq_call hc (z_cx_ok hH (by rfl)) (fc_X7_gives d' (by omega) (z_ui (z_ui (z_ui μ 50 0 0) 50 50 (nI (l + 2))) 50 51 (bif decide (((nI l) - (nI l) / 9 * 9) ≤ 0) then (-1 : Int32) else (nI l) - 1)) s l (-1) hs4 (by omega)) (by decide +kernel) (fun r9 μ9 hq => ?_)
                                        obtain ⟨rfl, rfl⟩ := hq
                                        show Z 0 169 [(3, .int (nI l)), (0, .ref 50), (1, .int (nI s)), (2, .int (nI l))] [] (z_giv (z_ui (z_ui (z_ui μ 50 0 0) 50 50 (nI (l + 2))) 50 51 (bif decide (((nI l) - (nI l) / 9 * 9) ≤ 0) then (-1 : Int32) else (nI l) - 1)) s l (-1))
                                        refine z_rcs0 hc hH 3 (pc' := 148) (lv' := [(3, .int ((nI l) + 1)), (0, .ref 50), (1, .int (nI s)), (2, .int (nI l))]) (st' := [.int ((nI l) + 1)]) (by rfl) ?_
                                        rw [nI_s1]
                                        refine z_rcs0 hc hH 3 (pc' := 151) (lv' := [(3, .int (nI (l + 1))), (0, .ref 50), (1, .int (nI s)), (2, .int (nI l))]) (st' := [.int ((nI l) + 3), .int (nI (l + 1))]) (by rfl) ?_
                                        rw [show nI l + 3 = nI (l + 3) from nI_add l 3]
                                        refine zq_ic hc hH (by rfl) (tg := 175) (by rfl) (fun h20 => ?_) (fun h20 => ?_)
                                        · have h20 : (decide ((nI (l + 3)) ≤ (nI (l + 1)))) = true := decide_eq_true (cm_ge.mp h20)
                                          exact absurd (Eq.trans (Eq.symm (kn_nlf (by omega) (by omega) (by omega))) h20) (by decide)
                                        · have h20 : (decide ((nI (l + 3)) ≤ (nI (l + 1)))) = false := decide_eq_false (cn_ge.mp h20)
                                          refine z_rcs0 hc hH 2 (pc' := 156) (lv' := [(3, .int (nI (l + 1))), (0, .ref 50), (1, .int (nI s)), (2, .int (nI l))]) (st' := [.ref 50, .int (nI (l + 1))]) (by rfl) ?_
                                          refine zq_gfi hc hH (by rfl) (ci := 6) (f := 49) (by rfl) (by decide +kernel) (by rfl) ?_
                                          refine zV1 (Z := Z) (Eq.trans (giv_o (by first | decide | omega)) (Eq.trans (ui_k (by first | decide | omega)) (Eq.trans (ui_k (by first | decide | omega)) (ui_k (by first | decide | omega))))) ?_
                                          rw [hc49]
                                          refine zq_ic hc hH (by rfl) (tg := 169) (by rfl) (fun h21 => ?_) (fun h21 => ?_)
                                          · have h21 : (decide ((nI (l + 1)) = (nI (l + 2)))) = true := decide_eq_true (cm_eq9.mp h21)
                                            exact absurd (Eq.trans (Eq.symm (kn_ne (by omega) (by omega) (by omega))) h21) (by decide)
                                          · have h21 : (decide ((nI (l + 1)) = (nI (l + 2)))) = false := decide_eq_false (cn_eq.mp h21)
                                            refine z_rcs0 hc hH 4 (pc' := 166) (lv' := [(3, .int (nI (l + 1))), (0, .ref 50), (1, .int (nI s)), (2, .int (nI l))]) (st' := [.int (-1), .int (nI (l + 1)), .int (nI s), .ref 50]) (by rfl) ?_
                                            refine zq_call hc (z_cx_ok hH (by rfl)) (fc_X7_gives d' (by omega) (z_giv (z_ui (z_ui (z_ui μ 50 0 0) 50 50 (nI (l + 2))) 50 51 (bif decide (((nI l) - (nI l) / 9 * 9) ≤ 0) then (-1 : Int32) else (nI l) - 1)) s l (-1)) s (l + 1) (-1) hs4 (by omega)) (by decide +kernel) (fun r9 μ9 hq => ?_)
                                            obtain ⟨rfl, rfl⟩ := hq
                                            show Z 0 169 [(3, .int (nI (l + 1))), (0, .ref 50), (1, .int (nI s)), (2, .int (nI l))] [] (z_giv (z_giv (z_ui (z_ui (z_ui μ 50 0 0) 50 50 (nI (l + 2))) 50 51 (bif decide (((nI l) - (nI l) / 9 * 9) ≤ 0) then (-1 : Int32) else (nI l) - 1)) s l (-1)) s (l + 1) (-1))
                                            refine z_rcs0 hc hH 3 (pc' := 148) (lv' := [(3, .int ((nI (l + 1)) + 1)), (0, .ref 50), (1, .int (nI s)), (2, .int (nI l))]) (st' := [.int ((nI (l + 1)) + 1)]) (by rfl) ?_
                                            rw [show nI (l + 1) + 1 = nI (l + 2) from nI_s1 _]
                                            refine z_rcs0 hc hH 3 (pc' := 151) (lv' := [(3, .int (nI (l + 2))), (0, .ref 50), (1, .int (nI s)), (2, .int (nI l))]) (st' := [.int ((nI l) + 3), .int (nI (l + 2))]) (by rfl) ?_
                                            rw [show nI l + 3 = nI (l + 3) from nI_add l 3]
                                            refine zq_ic hc hH (by rfl) (tg := 175) (by rfl) (fun h22 => ?_) (fun h22 => ?_)
                                            · have h22 : (decide ((nI (l + 3)) ≤ (nI (l + 2)))) = true := decide_eq_true (cm_ge.mp h22)
                                              exact absurd (Eq.trans (Eq.symm (kn_nlf (by omega) (by omega) (by omega))) h22) (by decide)
                                            · have h22 : (decide ((nI (l + 3)) ≤ (nI (l + 2)))) = false := decide_eq_false (cn_ge.mp h22)
                                              refine z_rcs0 hc hH 2 (pc' := 156) (lv' := [(3, .int (nI (l + 2))), (0, .ref 50), (1, .int (nI s)), (2, .int (nI l))]) (st' := [.ref 50, .int (nI (l + 2))]) (by rfl) ?_
                                              refine zq_gfi hc hH (by rfl) (ci := 6) (f := 49) (by rfl) (by decide +kernel) (by rfl) ?_
                                              refine zV1 (Z := Z) (Eq.trans (giv_o (by first | decide | omega)) (Eq.trans (giv_o (by first | decide | omega)) (Eq.trans (ui_k (by first | decide | omega)) (Eq.trans (ui_k (by first | decide | omega)) (ui_k (by first | decide | omega)))))) ?_
                                              rw [hc49]
                                              refine zq_ic hc hH (by rfl) (tg := 169) (by rfl) (fun h23 => ?_) (fun h23 => ?_)
                                              · have h23 : (decide ((nI (l + 2)) = (nI (l + 2)))) = true := decide_eq_true (cm_eq9.mp h23)
                                                refine z_rcs0 hc hH 3 (pc' := 148) (lv' := [(3, .int ((nI (l + 2)) + 1)), (0, .ref 50), (1, .int (nI s)), (2, .int (nI l))]) (st' := [.int ((nI (l + 2)) + 1)]) (by rfl) ?_
                                                rw [show nI (l + 2) + 1 = nI (l + 3) from nI_s1 _]
                                                refine z_rcs0 hc hH 3 (pc' := 151) (lv' := [(3, .int (nI (l + 3))), (0, .ref 50), (1, .int (nI s)), (2, .int (nI l))]) (st' := [.int ((nI l) + 3), .int (nI (l + 3))]) (by rfl) ?_
                                                rw [show nI l + 3 = nI (l + 3) from nI_add l 3]
                                                refine zq_ic hc hH (by rfl) (tg := 175) (by rfl) (fun h24 => ?_) (fun h24 => ?_)
                                                · have h24 : (decide ((nI (l + 3)) ≤ (nI (l + 3)))) = true := decide_eq_true (cm_ge.mp h24)
                                                  refine z_rcs0 hc hH 2 (pc' := 177) (lv' := [(3, .int (nI (l + 3))), (0, .ref 50), (1, .int (nI s)), (2, .int (nI l))]) (st' := [.int (nI s), .ref 50]) (by rfl) ?_
                                                  refine zq_call hc (z_cx_ok hH (by rfl)) (hcd d' (by omega)) (by decide +kernel) (fun r9 μ9 hq => ?_)
                                                  obtain ⟨hμ9, rfl⟩ := hq
                                                  rw [hμ9]
                                                  clear hμ9 μ9
                                                  show Z 0 180 [(3, .int (nI (l + 3))), (0, .ref 50), (1, .int (nI s)), (2, .int (nI l))] [.int (nB cd)] _
                                                  refine z_rcs0 hc hH 7 (pc' := 189) (lv' := [(4, .int (nI l)), (3, .int (nB cd)), (0, .ref 50), (1, .int (nI s)), (2, .int (nI l))]) (st' := [.int ((nI l) + 3), .int (nI l)]) (by rfl) ?_
                                                  rw [show nI l + 3 = nI (l + 3) from nI_add l 3]
                                                  refine zq_ic hc hH (by rfl) (tg := 215) (by rfl) (fun h25 => ?_) (fun h25 => ?_)
                                                  · have h25 : (decide ((nI (l + 3)) ≤ (nI l))) = true := decide_eq_true (cm_ge.mp h25)
                                                    exact absurd (Eq.trans (Eq.symm (kn_nlf (by omega) (by omega) (by omega))) h25) (by decide)
                                                  · have h25 : (decide ((nI (l + 3)) ≤ (nI l))) = false := decide_eq_false (cn_ge.mp h25)
                                                    refine z_rcs0 hc hH 2 (pc' := 195) (lv' := [(4, .int (nI l)), (3, .int (nB cd)), (0, .ref 50), (1, .int (nI s)), (2, .int (nI l))]) (st' := [.ref 50, .int (nI l)]) (by rfl) ?_
                                                    refine zq_gfi hc hH (by rfl) (ci := 6) (f := 49) (by rfl) (by decide +kernel) (by rfl) ?_
                                                    refine zV1 (Z := Z) (Eq.trans (giv_o (by first | decide | omega)) (Eq.trans (giv_o (by first | decide | omega)) (Eq.trans (ui_k (by first | decide | omega)) (Eq.trans (ui_k (by first | decide | omega)) (ui_k (by first | decide | omega)))))) ?_
                                                    rw [hc49]
                                                    refine zq_ic hc hH (by rfl) (tg := 209) (by rfl) (fun h26 => ?_) (fun h26 => ?_)
                                                    · have h26 : (decide ((nI l) = (nI (l + 2)))) = true := decide_eq_true (cm_eq9.mp h26)
                                                      exact absurd (Eq.trans (Eq.symm (kn_ne (by omega) (by omega) (by omega))) h26) (by decide)
                                                    · have h26 : (decide ((nI l) = (nI (l + 2)))) = false := decide_eq_false (cn_eq.mp h26)
                                                      refine z_rcs0 hc hH 4 (pc' := 206) (lv' := [(4, .int (nI l)), (3, .int (nB cd)), (0, .ref 50), (1, .int (nI s)), (2, .int (nI l))]) (st' := [.int 1, .int (nI l), .int (nI s), .ref 50]) (by rfl) ?_
                                                      refine zq_call hc (z_cx_ok hH (by rfl)) (fc_X7_gives d' (by omega) (z_giv (z_giv (z_ui (z_ui (z_ui μ 50 0 0) 50 50 (nI (l + 2))) 50 51 (bif decide (((nI l) - (nI l) / 9 * 9) ≤ 0) then (-1 : Int32) else (nI l) - 1)) s l (-1)) s (l + 1) (-1)) s l 1 hs4 (by omega)) (by decide +kernel) (fun r9 μ9 hq => ?_)
                                                      obtain ⟨rfl, rfl⟩ := hq
                                                      show Z 0 209 [(4, .int (nI l)), (3, .int (nB cd)), (0, .ref 50), (1, .int (nI s)), (2, .int (nI l))] [] (z_giv (z_giv (z_giv (z_ui (z_ui (z_ui μ 50 0 0) 50 50 (nI (l + 2))) 50 51 (bif decide (((nI l) - (nI l) / 9 * 9) ≤ 0) then (-1 : Int32) else (nI l) - 1)) s l (-1)) s (l + 1) (-1)) s l 1)
                                                      refine z_rcs0 hc hH 3 (pc' := 186) (lv' := [(4, .int ((nI l) + 1)), (3, .int (nB cd)), (0, .ref 50), (1, .int (nI s)), (2, .int (nI l))]) (st' := [.int ((nI l) + 1)]) (by rfl) ?_
                                                      rw [nI_s1]
                                                      refine z_rcs0 hc hH 3 (pc' := 189) (lv' := [(4, .int (nI (l + 1))), (3, .int (nB cd)), (0, .ref 50), (1, .int (nI s)), (2, .int (nI l))]) (st' := [.int ((nI l) + 3), .int (nI (l + 1))]) (by rfl) ?_
                                                      rw [show nI l + 3 = nI (l + 3) from nI_add l 3]
                                                      refine zq_ic hc hH (by rfl) (tg := 215) (by rfl) (fun h27 => ?_) (fun h27 => ?_)
                                                      · have h27 : (decide ((nI (l + 3)) ≤ (nI (l + 1)))) = true := decide_eq_true (cm_ge.mp h27)
                                                        exact absurd (Eq.trans (Eq.symm (kn_nlf (by omega) (by omega) (by omega))) h27) (by decide)
                                                      · have h27 : (decide ((nI (l + 3)) ≤ (nI (l + 1)))) = false := decide_eq_false (cn_ge.mp h27)
                                                        refine z_rcs0 hc hH 2 (pc' := 195) (lv' := [(4, .int (nI (l + 1))), (3, .int (nB cd)), (0, .ref 50), (1, .int (nI s)), (2, .int (nI l))]) (st' := [.ref 50, .int (nI (l + 1))]) (by rfl) ?_
                                                        refine zq_gfi hc hH (by rfl) (ci := 6) (f := 49) (by rfl) (by decide +kernel) (by rfl) ?_
                                                        refine zV1 (Z := Z) (Eq.trans (giv_o (by first | decide | omega)) (Eq.trans (giv_o (by first | decide | omega)) (Eq.trans (giv_o (by first | decide | omega)) (Eq.trans (ui_k (by first | decide | omega)) (Eq.trans (ui_k (by first | decide | omega)) (ui_k (by first | decide | omega))))))) ?_
                                                        rw [hc49]
                                                        refine zq_ic hc hH (by rfl) (tg := 209) (by rfl) (fun h28 => ?_) (fun h28 => ?_)
                                                        · have h28 : (decide ((nI (l + 1)) = (nI (l + 2)))) = true := decide_eq_true (cm_eq9.mp h28)
                                                          exact absurd (Eq.trans (Eq.symm (kn_ne (by omega) (by omega) (by omega))) h28) (by decide)
                                                        · have h28 : (decide ((nI (l + 1)) = (nI (l + 2)))) = false := decide_eq_false (cn_eq.mp h28)
                                                          refine z_rcs0 hc hH 4 (pc' := 206) (lv' := [(4, .int (nI (l + 1))), (3, .int (nB cd)), (0, .ref 50), (1, .int (nI s)), (2, .int (nI l))]) (st' := [.int 1, .int (nI (l + 1)), .int (nI s), .ref 50]) (by rfl) ?_
                                                          refine zq_call hc (z_cx_ok hH (by rfl)) (fc_X7_gives d' (by omega) (z_giv (z_giv (z_giv (z_ui (z_ui (z_ui μ 50 0 0) 50 50 (nI (l + 2))) 50 51 (bif decide (((nI l) - (nI l) / 9 * 9) ≤ 0) then (-1 : Int32) else (nI l) - 1)) s l (-1)) s (l + 1) (-1)) s l 1) s (l + 1) 1 hs4 (by omega)) (by decide +kernel) (fun r9 μ9 hq => ?_)
                                                          obtain ⟨rfl, rfl⟩ := hq
                                                          show Z 0 209 [(4, .int (nI (l + 1))), (3, .int (nB cd)), (0, .ref 50), (1, .int (nI s)), (2, .int (nI l))] [] (z_giv (z_giv (z_giv (z_giv (z_ui (z_ui (z_ui μ 50 0 0) 50 50 (nI (l + 2))) 50 51 (bif decide (((nI l) - (nI l) / 9 * 9) ≤ 0) then (-1 : Int32) else (nI l) - 1)) s l (-1)) s (l + 1) (-1)) s l 1) s (l + 1) 1)
                                                          refine z_rcs0 hc hH 3 (pc' := 186) (lv' := [(4, .int ((nI (l + 1)) + 1)), (3, .int (nB cd)), (0, .ref 50), (1, .int (nI s)), (2, .int (nI l))]) (st' := [.int ((nI (l + 1)) + 1)]) (by rfl) ?_
                                                          rw [show nI (l + 1) + 1 = nI (l + 2) from nI_s1 _]
                                                          refine z_rcs0 hc hH 3 (pc' := 189) (lv' := [(4, .int (nI (l + 2))), (3, .int (nB cd)), (0, .ref 50), (1, .int (nI s)), (2, .int (nI l))]) (st' := [.int ((nI l) + 3), .int (nI (l + 2))]) (by rfl) ?_
                                                          rw [show nI l + 3 = nI (l + 3) from nI_add l 3]
                                                          refine zq_ic hc hH (by rfl) (tg := 215) (by rfl) (fun h29 => ?_) (fun h29 => ?_)
                                                          · have h29 : (decide ((nI (l + 3)) ≤ (nI (l + 2)))) = true := decide_eq_true (cm_ge.mp h29)
                                                            exact absurd (Eq.trans (Eq.symm (kn_nlf (by omega) (by omega) (by omega))) h29) (by decide)
                                                          · have h29 : (decide ((nI (l + 3)) ≤ (nI (l + 2)))) = false := decide_eq_false (cn_ge.mp h29)
                                                            refine z_rcs0 hc hH 2 (pc' := 195) (lv' := [(4, .int (nI (l + 2))), (3, .int (nB cd)), (0, .ref 50), (1, .int (nI s)), (2, .int (nI l))]) (st' := [.ref 50, .int (nI (l + 2))]) (by rfl) ?_
                                                            refine zq_gfi hc hH (by rfl) (ci := 6) (f := 49) (by rfl) (by decide +kernel) (by rfl) ?_
                                                            refine zV1 (Z := Z) (Eq.trans (giv_o (by first | decide | omega)) (Eq.trans (giv_o (by first | decide | omega)) (Eq.trans (giv_o (by first | decide | omega)) (Eq.trans (giv_o (by first | decide | omega)) (Eq.trans (ui_k (by first | decide | omega)) (Eq.trans (ui_k (by first | decide | omega)) (ui_k (by first | decide | omega)))))))) ?_
                                                            rw [hc49]
                                                            refine zq_ic hc hH (by rfl) (tg := 209) (by rfl) (fun h30 => ?_) (fun h30 => ?_)
                                                            · have h30 : (decide ((nI (l + 2)) = (nI (l + 2)))) = true := decide_eq_true (cm_eq9.mp h30)
                                                              refine z_rcs0 hc hH 3 (pc' := 186) (lv' := [(4, .int ((nI (l + 2)) + 1)), (3, .int (nB cd)), (0, .ref 50), (1, .int (nI s)), (2, .int (nI l))]) (st' := [.int ((nI (l + 2)) + 1)]) (by rfl) ?_
                                                              rw [show nI (l + 2) + 1 = nI (l + 3) from nI_s1 _]
                                                              refine z_rcs0 hc hH 3 (pc' := 189) (lv' := [(4, .int (nI (l + 3))), (3, .int (nB cd)), (0, .ref 50), (1, .int (nI s)), (2, .int (nI l))]) (st' := [.int ((nI l) + 3), .int (nI (l + 3))]) (by rfl) ?_
                                                              rw [show nI l + 3 = nI (l + 3) from nI_add l 3]
                                                              refine zq_ic hc hH (by rfl) (tg := 215) (by rfl) (fun h31 => ?_) (fun h31 => ?_)
                                                              · have h31 : (decide ((nI (l + 3)) ≤ (nI (l + 3)))) = true := decide_eq_true (cm_ge.mp h31)
                                                                refine z_rcs0 hc hH 1 (pc' := 216) (lv' := [(4, .int (nI (l + 3))), (3, .int (nB cd)), (0, .ref 50), (1, .int (nI s)), (2, .int (nI l))]) (st' := [.int (nB cd)]) (by rfl) ?_
                                                                refine zq_if hc hH (by rfl) (tg := 221) (by rfl) (fun h32 => ?_) (fun h32 => ?_)
                                                                · have h32 : (cd) = true := nB_n.mp (cm_ne.mp h32)
                                                                  refine z_rcs0 hc hH 1 (pc' := 222) (lv' := [(4, .int (nI (l + 3))), (3, .int (nB cd)), (0, .ref 50), (1, .int (nI s)), (2, .int (nI l))]) (st' := [.ref 50]) (by rfl) ?_
                                                                  refine zq_call hc (z_cx_ok hH (by rfl)) (hov d' (by omega)) (by decide +kernel) (fun r9 W hq => ?_)
                                                                  obtain ⟨rfl, hO, hAW⟩ := hq
                                                                  show Z 0 225 [(4, .int (nI (l + 3))), (3, .int (nB cd)), (0, .ref 50), (1, .int (nI s)), (2, .int (nI l))] [] W
                                                                  refine z_rcs hc hH 6 (pc' := 233) (lv' := [(4, .int (nI l)), (3, .int (nB cd)), (0, .ref 50), (1, .int (nI s)), (2, .int (nI l))]) (st' := [.int ((nI l) + 3), .int (nI l)]) (μ' := W) (by rfl) ?_
                                                                  rw [show nI l + 3 = nI (l + 3) from nI_add l 3]
                                                                  refine zq_ic hc hH (by rfl) (tg := 259) (by rfl) (fun h33 => ?_) (fun h33 => ?_)
                                                                  · have h33 : (decide ((nI (l + 3)) ≤ (nI l))) = true := decide_eq_true (cm_ge.mp h33)
                                                                    exact absurd (Eq.trans (Eq.symm (kn_nlf (by omega) (by omega) (by omega))) h33) (by decide)
                                                                  · have h33 : (decide ((nI (l + 3)) ≤ (nI l))) = false := decide_eq_false (cn_ge.mp h33)
                                                                    refine z_rcs hc hH 2 (pc' := 239) (lv' := [(4, .int (nI l)), (3, .int (nB cd)), (0, .ref 50), (1, .int (nI s)), (2, .int (nI l))]) (st' := [.ref 50, .int (nI l)]) (μ' := W) (by rfl) ?_
                                                                    refine zq_gfi hc hH (by rfl) (ci := 6) (f := 49) (by rfl) (by decide +kernel) (by rfl) ?_
                                                                    rw [(hO 50 49 (by omega)).1]
                                                                    rw [o49]
                                                                    refine zq_ic hc hH (by rfl) (tg := 253) (by rfl) (fun h34 => ?_) (fun h34 => ?_)
                                                                    · have h34 : (decide ((nI l) = (nI (l + 2)))) = true := decide_eq_true (cm_eq9.mp h34)
                                                                      exact absurd (Eq.trans (Eq.symm (kn_ne (by omega) (by omega) (by omega))) h34) (by decide)
                                                                    · have h34 : (decide ((nI l) = (nI (l + 2)))) = false := decide_eq_false (cn_eq.mp h34)
                                                                      refine z_rcs hc hH 4 (pc' := 250) (lv' := [(4, .int (nI l)), (3, .int (nB cd)), (0, .ref 50), (1, .int (nI s)), (2, .int (nI l))]) (st' := [.int (-1), .int (nI l), .int (nI s), .ref 50]) (μ' := W) (by rfl) ?_
                                                                      refine zq_call hc (z_cx_ok hH (by rfl)) (fc_X7_gives d' (by omega) W s l (-1) hs4 (by omega)) (by decide +kernel) (fun r9 μ9 hq => ?_)
                                                                      obtain ⟨rfl, rfl⟩ := hq
                                                                      show Z 0 253 [(4, .int (nI l)), (3, .int (nB cd)), (0, .ref 50), (1, .int (nI s)), (2, .int (nI l))] [] (z_giv W s l (-1))
                                                                      refine z_rcs hc hH 3 (pc' := 230) (lv' := [(4, .int ((nI l) + 1)), (3, .int (nB cd)), (0, .ref 50), (1, .int (nI s)), (2, .int (nI l))]) (st' := [.int ((nI l) + 1)]) (μ' := z_giv W s l (-1)) (by rfl) ?_
                                                                      rw [nI_s1]
                                                                      refine z_rcs hc hH 3 (pc' := 233) (lv' := [(4, .int (nI (l + 1))), (3, .int (nB cd)), (0, .ref 50), (1, .int (nI s)), (2, .int (nI l))]) (st' := [.int ((nI l) + 3), .int (nI (l + 1))]) (μ' := z_giv W s l (-1)) (by rfl) ?_
                                                                      rw [show nI l + 3 = nI (l + 3) from nI_add l 3]
                                                                      refine zq_ic hc hH (by rfl) (tg := 259) (by rfl) (fun h35 => ?_) (fun h35 => ?_)
                                                                      · have h35 : (decide ((nI (l + 3)) ≤ (nI (l + 1)))) = true := decide_eq_true (cm_ge.mp h35)
                                                                        exact absurd (Eq.trans (Eq.symm (kn_nlf (by omega) (by omega) (by omega))) h35) (by decide)
                                                                      · have h35 : (decide ((nI (l + 3)) ≤ (nI (l + 1)))) = false := decide_eq_false (cn_ge.mp h35)
                                                                        refine z_rcs hc hH 2 (pc' := 239) (lv' := [(4, .int (nI (l + 1))), (3, .int (nB cd)), (0, .ref 50), (1, .int (nI s)), (2, .int (nI l))]) (st' := [.ref 50, .int (nI (l + 1))]) (μ' := z_giv W s l (-1)) (by rfl) ?_
                                                                        refine zq_gfi hc hH (by rfl) (ci := 6) (f := 49) (by rfl) (by decide +kernel) (by rfl) ?_
                                                                        rw [giv_o (by first | decide | omega), (hO 50 49 (by omega)).1]
                                                                        rw [o49]
                                                                        refine zq_ic hc hH (by rfl) (tg := 253) (by rfl) (fun h36 => ?_) (fun h36 => ?_)
                                                                        · have h36 : (decide ((nI (l + 1)) = (nI (l + 2)))) = true := decide_eq_true (cm_eq9.mp h36)
                                                                          exact absurd (Eq.trans (Eq.symm (kn_ne (by omega) (by omega) (by omega))) h36) (by decide)
                                                                        · have h36 : (decide ((nI (l + 1)) = (nI (l + 2)))) = false := decide_eq_false (cn_eq.mp h36)
                                                                          refine z_rcs hc hH 4 (pc' := 250) (lv' := [(4, .int (nI (l + 1))), (3, .int (nB cd)), (0, .ref 50), (1, .int (nI s)), (2, .int (nI l))]) (st' := [.int (-1), .int (nI (l + 1)), .int (nI s), .ref 50]) (μ' := z_giv W s l (-1)) (by rfl) ?_
                                                                          refine zq_call hc (z_cx_ok hH (by rfl)) (fc_X7_gives d' (by omega) (z_giv W s l (-1)) s (l + 1) (-1) hs4 (by omega)) (by decide +kernel) (fun r9 μ9 hq => ?_)
                                                                          obtain ⟨rfl, rfl⟩ := hq
                                                                          show Z 0 253 [(4, .int (nI (l + 1))), (3, .int (nB cd)), (0, .ref 50), (1, .int (nI s)), (2, .int (nI l))] [] (z_giv (z_giv W s l (-1)) s (l + 1) (-1))
                                                                          refine z_rcs0 hc hH 3 (pc' := 230) (lv' := [(4, .int ((nI (l + 1)) + 1)), (3, .int (nB cd)), (0, .ref 50), (1, .int (nI s)), (2, .int (nI l))]) (st' := [.int ((nI (l + 1)) + 1)]) (by rfl) ?_
                                                                          rw [show nI (l + 1) + 1 = nI (l + 2) from nI_s1 _]
                                                                          refine z_rcs0 hc hH 3 (pc' := 233) (lv' := [(4, .int (nI (l + 2))), (3, .int (nB cd)), (0, .ref 50), (1, .int (nI s)), (2, .int (nI l))]) (st' := [.int ((nI l) + 3), .int (nI (l + 2))]) (by rfl) ?_
                                                                          rw [show nI l + 3 = nI (l + 3) from nI_add l 3]
                                                                          refine zq_ic hc hH (by rfl) (tg := 259) (by rfl) (fun h37 => ?_) (fun h37 => ?_)
                                                                          · have h37 : (decide ((nI (l + 3)) ≤ (nI (l + 2)))) = true := decide_eq_true (cm_ge.mp h37)
                                                                            exact absurd (Eq.trans (Eq.symm (kn_nlf (by omega) (by omega) (by omega))) h37) (by decide)
                                                                          · have h37 : (decide ((nI (l + 3)) ≤ (nI (l + 2)))) = false := decide_eq_false (cn_ge.mp h37)
                                                                            refine z_rcs0 hc hH 2 (pc' := 239) (lv' := [(4, .int (nI (l + 2))), (3, .int (nB cd)), (0, .ref 50), (1, .int (nI s)), (2, .int (nI l))]) (st' := [.ref 50, .int (nI (l + 2))]) (by rfl) ?_
                                                                            refine zq_gfi hc hH (by rfl) (ci := 6) (f := 49) (by rfl) (by decide +kernel) (by rfl) ?_
                                                                            rw [giv_o (by first | decide | omega), giv_o (by first | decide | omega), (hO 50 49 (by omega)).1]
                                                                            rw [o49]
                                                                            refine zq_ic hc hH (by rfl) (tg := 253) (by rfl) (fun h38 => ?_) (fun h38 => ?_)
                                                                            · have h38 : (decide ((nI (l + 2)) = (nI (l + 2)))) = true := decide_eq_true (cm_eq9.mp h38)
                                                                              refine z_rcs0 hc hH 3 (pc' := 230) (lv' := [(4, .int ((nI (l + 2)) + 1)), (3, .int (nB cd)), (0, .ref 50), (1, .int (nI s)), (2, .int (nI l))]) (st' := [.int ((nI (l + 2)) + 1)]) (by rfl) ?_
                                                                              rw [show nI (l + 2) + 1 = nI (l + 3) from nI_s1 _]
                                                                              refine z_rcs0 hc hH 3 (pc' := 233) (lv' := [(4, .int (nI (l + 3))), (3, .int (nB cd)), (0, .ref 50), (1, .int (nI s)), (2, .int (nI l))]) (st' := [.int ((nI l) + 3), .int (nI (l + 3))]) (by rfl) ?_
                                                                              rw [show nI l + 3 = nI (l + 3) from nI_add l 3]
                                                                              refine zq_ic hc hH (by rfl) (tg := 259) (by rfl) (fun h39 => ?_) (fun h39 => ?_)
                                                                              · have h39 : (decide ((nI (l + 3)) ≤ (nI (l + 3)))) = true := decide_eq_true (cm_ge.mp h39)
                                                                                refine z_rcs0 hc hH 4 (pc' := 263) (lv' := [(4, .int (nI (l + 3))), (3, .int (nB cd)), (0, .ref 50), (1, .int (nI s)), (2, .int (nI l))]) (st' := [.int (nI l), .int 0, .int (nI s), .ref 50]) (by rfl) ?_
                                                                                refine zq_call hc (z_cx_ok hH (by rfl)) (gm_claims d' (by omega) (z_giv (z_giv W s l (-1)) s (l + 1) (-1)) s q 0 (nI l) hs4 hq4 (by rw [giv_o (by first | decide | omega), giv_o (by first | decide | omega), (hO 64 s (by omega)).1]; exact o64)) (by decide +kernel) (fun r9 μ9 hq => ?_)
                                                                                obtain ⟨rfl, rfl⟩ := hq
                                                                                show Z 0 266 [(4, .int (nI (l + 3))), (3, .int (nB cd)), (0, .ref 50), (1, .int (nI s)), (2, .int (nI l))] [] (clM (z_giv (z_giv W s l (-1)) s (l + 1) (-1)) s q 0 (nI l))
                                                                                refine z_rcs0 hc hH 1 (pc' := 267) (lv' := [(4, .int (nI (l + 3))), (3, .int (nB cd)), (0, .ref 50), (1, .int (nI s)), (2, .int (nI l))]) (st' := [.int 1]) (by rfl) ?_
                                                                                exact hr 0 267 _ _ _ (some (.int 1)) (by decide +kernel) (z_rx_ok hH (by rfl)) (Or.inl ⟨by simp only [ruC2, h1, h2, h3, h8, h11, h32, Bool.true_or, Bool.true_and, Bool.and_true, Bool.false_and, Bool.and_false, Bool.not_true, Bool.not_false, Bool.or_true, Bool.or_false, Bool.false_or, cond_true, cond_false], rfl, by unfold ruO2; exact SM_cl (SM_giv (SM_giv (hO)))⟩)
                                                                              · have h39 : (decide ((nI (l + 3)) ≤ (nI (l + 3)))) = false := decide_eq_false (cn_ge.mp h39)
                                                                                exact absurd (Eq.trans (Eq.symm (kn_nle (by omega) (by omega) (by omega))) h39) (by decide)
                                                                            · have h38 : (decide ((nI (l + 2)) = (nI (l + 2)))) = false := decide_eq_false (cn_eq.mp h38)
                                                                              exact absurd (Eq.trans (Eq.symm (kn_eq rfl)) h38) (by decide)
                                                                · have h32 : (cd) = false := nB_z.mp (cn_ne.mp h32)
                                                                  refine z_rcs hc hH 1 (pc' := 220) (lv' := [(4, .int (nI (l + 3))), (3, .int (nB cd)), (0, .ref 50), (1, .int (nI s)), (2, .int (nI l))]) (st' := [.int 0]) (μ' := z_giv (z_giv (z_giv (z_giv (z_ui (z_ui (z_ui μ 50 0 0) 50 50 (nI (l + 2))) 50 51 (bif decide (((nI l) - (nI l) / 9 * 9) ≤ 0) then (-1 : Int32) else (nI l) - 1)) s l (-1)) s (l + 1) (-1)) s l 1) s (l + 1) 1) (by rfl) ?_
                                                                  exact hr 0 220 _ _ _ (some (.int 0)) (by decide +kernel) (z_rx_ok hH (by rfl)) (Or.inr ⟨by simp only [ruC2, h1, h2, h3, h8, h11, h32, Bool.true_or, Bool.true_and, Bool.and_true, Bool.false_and, Bool.and_false, Bool.not_true, Bool.not_false, Bool.or_true, Bool.or_false, Bool.false_or, cond_true, cond_false], rfl, Or.inr rfl⟩)
                                                              · have h31 : (decide ((nI (l + 3)) ≤ (nI (l + 3)))) = false := decide_eq_false (cn_ge.mp h31)
                                                                exact absurd (Eq.trans (Eq.symm (kn_nle (by omega) (by omega) (by omega))) h31) (by decide)
                                                            · have h30 : (decide ((nI (l + 2)) = (nI (l + 2)))) = false := decide_eq_false (cn_eq.mp h30)
                                                              exact absurd (Eq.trans (Eq.symm (kn_eq rfl)) h30) (by decide)
                                                · have h24 : (decide ((nI (l + 3)) ≤ (nI (l + 3)))) = false := decide_eq_false (cn_ge.mp h24)
                                                  exact absurd (Eq.trans (Eq.symm (kn_nle (by omega) (by omega) (by omega))) h24) (by decide)
                                              · have h23 : (decide ((nI (l + 2)) = (nI (l + 2)))) = false := decide_eq_false (cn_eq.mp h23)
                                                exact absurd (Eq.trans (Eq.symm (kn_eq rfl)) h23) (by decide)
                                  refine zq_if hc hH (by rfl) (tg := 141) (by rfl) (fun h40 => ?_) (fun h40 => ?_)
                                  · have h40 : (decide (((nI l) - (nI l) / 9 * 9) ≤ 0)) = true := decide_eq_true (cm_le.mp h40)
                                    refine z_rcs hc hH 1 (pc' := 142) (lv' := [(3, .int (nI (l + 3))), (0, .ref 50), (1, .int (nI s)), (2, .int (nI l))]) (st' := [.int (-1), .ref 50]) (μ' := z_ui (z_ui μ 50 0 0) 50 50 (nI (l + 2))) (by rfl) ?_
                                    exact zJ hJ17 rfl (by first | with_reducible rfl | (simp only [h40, lb_f, Int64.or_zero, Int32.add_zero, nB_t, nB_f, Bool.not_true, Bool.not_false, Bool.and_true, Bool.true_and, Bool.false_and, Bool.and_false, Bool.or_true, Bool.true_or, Bool.false_or, Bool.or_false, cond_true, cond_false]; done) | rfl) rfl
                                  · have h40 : (decide (((nI l) - (nI l) / 9 * 9) ≤ 0)) = false := decide_eq_false (cn_le.mp h40)
                                    refine z_rcs0 hc hH 4 (pc' := 142) (lv' := [(3, .int (nI (l + 3))), (0, .ref 50), (1, .int (nI s)), (2, .int (nI l))]) (st' := [.int ((nI l) - 1), .ref 50]) (by rfl) ?_
                                    exact zJ hJ17 rfl (by first | with_reducible rfl | (simp only [h40, lb_f, Int64.or_zero, Int32.add_zero, nB_t, nB_f, Bool.not_true, Bool.not_false, Bool.and_true, Bool.true_and, Bool.false_and, Bool.and_false, Bool.or_true, Bool.true_or, Bool.false_or, Bool.or_false, cond_true, cond_false]; done) | rfl) rfl
                              · have h15 : (decide ((nI (l + 2)) = (nI l))) = true := decide_eq_true (cn_ne.mp h15)
                                exact absurd (Eq.trans (Eq.symm (kn_ne (by omega) (by omega) (by omega))) h15) (by decide)
                            · have h14 : (decide ((nI (l + 3)) ≤ (nI (l + 3)))) = false := decide_eq_false (cn_ge.mp h14)
                              exact absurd (Eq.trans (Eq.symm (kn_nle (by omega) (by omega) (by omega))) h14) (by decide)
                          · have h13 : (decide ((nI (l + 2)) = (nI (l + 2)))) = false := decide_eq_false (cn_eq.mp h13)
                            exact absurd (Eq.trans (Eq.symm (kn_eq rfl)) h13) (by decide)
                      · have h11 : (decide ((μ.1 60 (34 * s + (l + 1))) = 0)) = true := decide_eq_true (cn_ne.mp h11)
                        refine z_rcs hc hH 1 (pc' := 79) (lv' := [(3, .int (nI (l + 1))), (0, .ref 50), (1, .int (nI s)), (2, .int (nI l))]) (st' := [.int 0]) (μ' := z_ui μ 50 0 0) (by rfl) ?_
                        exact hr 0 79 _ _ _ (some (.int 0)) (by decide +kernel) (z_rx_ok hH (by rfl)) (Or.inr ⟨by simp only [ruC2, h1, h2, h3, h8, h11, Bool.true_or, Bool.true_and, Bool.and_true, Bool.false_and, Bool.and_false, Bool.not_true, Bool.not_false, Bool.or_true, Bool.or_false, Bool.false_or, cond_true, cond_false], rfl, Or.inl rfl⟩)
                · have h8 : (decide ((μ.1 60 (34 * s + l)) = 0)) = true := decide_eq_true (cn_ne.mp h8)
                  refine z_rcs hc hH 1 (pc' := 79) (lv' := [(3, .int (nI l)), (0, .ref 50), (1, .int (nI s)), (2, .int (nI l))]) (st' := [.int 0]) (μ' := z_ui μ 50 0 0) (by rfl) ?_
                  exact hr 0 79 _ _ _ (some (.int 0)) (by decide +kernel) (z_rx_ok hH (by rfl)) (Or.inr ⟨by simp only [ruC2, h1, h2, h3, h8, Bool.true_or, Bool.true_and, Bool.and_true, Bool.false_and, Bool.and_false, Bool.not_true, Bool.not_false, Bool.or_true, Bool.or_false, Bool.false_or, cond_true, cond_false], rfl, Or.inl rfl⟩)
          · have h5 : (decide ((nI (l + 2)) ≤ (nI (l + 2)))) = false := decide_eq_false (cn_le.mp h5)
            exact absurd (Eq.trans (Eq.symm (kn_nle (by omega) (by omega) (by omega))) h5) (by decide)
/-! the wall by a number, of both sides -/
set_option maxRecDepth 8000
noncomputable def jE (x : Int64) (i : Nat) : Int32 := ((x.toUInt64 >>> ((33 : Int32).toInt64.toUInt64 &&& Int64.toUInt64 63)).toInt64 - (x.toUInt64 >>> ((33 : Int32).toInt64.toUInt64 &&& Int64.toUInt64 63)).toInt64 / (nI (i + 1) + 1).toInt64 * (nI (i + 1) + 1).toInt64).toInt32
noncomputable def jN (x : Int64) (i : Nat) : Nat := (jE x i).toNatClampNeg
theorem jE_n (x : Int64) (i : Nat) (hi : i < 135) : ¬ (nI (i + 1) + 1).toInt64 = 0 ∧ jN x i < 136 ∧ jE x i = nI (jN x i) := by
  obtain ⟨h1, j, h2, h3⟩ := dl_j x i hi
  have h3 : jE x i = nI j := h3
  have e : jN x i = j := by unfold jN; rw [h3, nI_clamp (by omega)]
  exact ⟨h1, by rw [e]; exact h2, by rw [e]; exact h3⟩
noncomputable abbrev nxL (x : Int64) : Int64 := x * 6364136223846793005 + 1442695040888963407
noncomputable def swW (f : Nat → Int32) (a b k : Nat) : Int32 := if k = b then f a else if k = a then f b else f k
noncomputable def wsh : Nat → Int64 → (Nat → Int32) → Nat → Int32
  | 0, _, f => f
  | i + 1, x, f => wsh i (nxL x) (swW f (i + 1) (jN (nxL x) i))
noncomputable def wlF (sd : Int64) : Nat → Int32 := wsh 135 sd (fun k => nI (k / 4))
noncomputable def WR1 (r i : Nat) (μ0 μ1 : zM) : Prop := (∀ k, k < i → μ1.1 r k = nI (k / 4)) ∧ (∀ r' k, r' ≠ r → μ1.1 r' k = μ0.1 r' k) ∧ μ1.2 = μ0.2
theorem WR1.nx {r i : Nat} {μ0 μ1 : zM} (h : WR1 r i μ0 μ1) : WR1 r (i + 1) μ0 (z_ui μ1 r i (nI (i / 4))) := by
  refine ⟨fun k hk => ?_, fun r' k hr => by rw [ui_o hr]; exact h.2.1 r' k hr, h.2.2⟩
  by_cases e : k = i
  · rw [e, ui_s]
  · rw [ui_k e]; exact h.1 k (by omega)
noncomputable def WRl (r : Nat) (f : Nat → Int32) (μ0 μ1 : zM) : Prop := (∀ k, k < 136 → μ1.1 r k = f k) ∧ (∀ r' k, r' ≠ r → μ1.1 r' k = μ0.1 r' k) ∧ μ1.2 = μ0.2
theorem WRl.nx {r i j : Nat} {f : Nat → Int32} {μ0 μ1 : zM} (h : WRl r f μ0 μ1) (hi : i < 136) (hj : j < 136) : WRl r (swW f i j) μ0 (z_ui (z_ui μ1 r i (μ1.1 r j)) r j (μ1.1 r i)) := by
  refine ⟨fun k hk => ?_, fun r' k hr => by rw [ui_o hr, ui_o hr]; exact h.2.1 r' k hr, h.2.2⟩
  unfold swW
  by_cases e : k = j
  · rw [if_pos e, e, ui_s]; exact h.1 i hi
  · rw [if_neg e, ui_k e]
    by_cases e2 : k = i
    · rw [if_pos e2, e2, ui_s]; exact h.1 j hj
    · rw [if_neg e2, ui_k e2]; exact h.1 k hk
theorem zh_X4_build : zH mi_X4_build zt_X4_build 79 4 8 := hh_X4_build
theorem wc1 (d' : Nat) (Z : zK) (hc : z_clo z_x0 mi_X4_build (z_C d') Z) (sd : Int64) (μ0 : zM) (K : ∀ μ1, WR1 3 136 μ0 μ1 → Z 0 24 [(3, .int (nI 136)), (0, .ref 2), (1, .long sd)] [] μ1) : ∀ n i, i + n = 136 → ∀ μ1, WR1 3 i μ0 μ1 → Z 0 2 [(3, .int (nI i)), (0, .ref 2), (1, .long sd)] [] μ1 := by
  have hH := zh_X4_build
  intro n
  induction n with
  | zero =>
    intro i hi μ1 g1
    have hi : i = 136 := by omega
    subst hi
    refine z_rcs hc hH 2 (pc' := 6) (lv' := [(3, .int (nI 136)), (0, .ref 2), (1, .long sd)]) (st' := [.int 136, .int (nI 136)]) (μ' := μ1) (by rfl) ?_
    refine zq_ic hc hH (by rfl) (tg := 24) (by rfl) (fun _ => ?_) (fun h9 => (zb_t (ge_nIt (n := 136) (i := 136) (by decide) (by decide)) h9).elim)
    exact K μ1 g1
  | succ n ih =>
    intro i hi μ1 g1
    refine z_rcs hc hH 2 (pc' := 6) (lv' := [(3, .int (nI i)), (0, .ref 2), (1, .long sd)]) (st' := [.int 136, .int (nI i)]) (μ' := μ1) (by rfl) ?_
    refine zq_ic hc hH (by rfl) (tg := 24) (by rfl) (fun h9 => (zb_t h9 (ge_nI (n := 136) (i := i) (by omega) (by decide))).elim) (fun _ => ?_)
    refine z_rcs hc hH 6 (pc' := 17) (lv' := [(3, .int (nI i)), (0, .ref 2), (1, .long sd)]) (st' := [.int ((nI i) / 4), .int (nI i), .ref 3]) (μ' := μ1) (by rfl) ?_
    rw [nI_d4 i (by omega)]
    refine zq_iast hc hH (by rfl) 136 (by decide +kernel) (vp_in_nI (by omega) (by decide)) ?_
    refine z_rcs hc hH 2 (pc' := 2) (lv' := [(3, .int ((nI i) + 1)), (0, .ref 2), (1, .long sd)]) (st' := []) (μ' := z_ui μ1 3 ((nI i).toNatClampNeg) (nI (i / 4))) (by rfl) ?_
    rw [nI_1, nI_clamp (by omega)]
    exact ih (i + 1) (by omega) _ g1.nx
theorem wc2 (d' : Nat) (Z : zK) (hc : z_clo z_x0 mi_X4_build (z_C d') Z) (sd : Int64) (μ0 : zM) (fz : Nat → Int32) (K : ∀ (x : Int64) (kv jv : Int32) μ1, WRl 3 fz μ0 μ1 → Z 0 97 [(5, .int (nI 0)), (7, .int kv), (6, .int jv), (3, .long x), (0, .ref 2), (1, .long sd)] [] μ1) : ∀ i, i < 135 → ∀ (x : Int64) (f : Nat → Int32), wsh i x f = fz → ∀ (kv jv : Int32) μ1, WRl 3 f μ0 μ1 → Z 0 31 [(5, .int (nI i)), (7, .int kv), (6, .int jv), (3, .long x), (0, .ref 2), (1, .long sd)] [] μ1 := by
  have hH := zh_X4_build
  intro i
  induction i with
  | zero =>
    intro hi x f hf kv jv μ1 g1
    have hf : f = fz := hf
    subst hf
    refine z_rcs hc hH 1 (pc' := 33) (lv' := [(5, .int (nI 0)), (7, .int kv), (6, .int jv), (3, .long x), (0, .ref 2), (1, .long sd)]) (st' := [.int (nI 0)]) (μ' := μ1) (by rfl) ?_
    refine zq_if hc hH (by rfl) (tg := 97) (by rfl) (fun _ => ?_) (fun h9 => (zb_t (by decide) h9).elim)
    exact K x kv jv μ1 g1
  | succ i ih =>
    intro hi x f hf kv jv μ1 g1
    refine z_rcs hc hH 1 (pc' := 33) (lv' := [(5, .int (nI (i + 1))), (7, .int kv), (6, .int jv), (3, .long x), (0, .ref 2), (1, .long sd)]) (st' := [.int (nI (i + 1))]) (μ' := μ1) (by rfl) ?_
    refine zq_if hc hH (by rfl) (tg := 97) (by rfl) (fun h9 => (zb_t h9 (le_nI0 (by omega))).elim) (fun _ => ?_)
    refine z_rcs hc hH 6 (pc' := 46) (lv' := [(3, .long ((x * 6364136223846793005) + 1442695040888963407)), (5, .int (nI (i + 1))), (7, .int kv), (6, .int jv), (0, .ref 2), (1, .long sd)]) (st' := []) (μ' := μ1) (by rfl) ?_
    generalize hx1 : (x * 6364136223846793005) + 1442695040888963407 = x1
    have hx1 : x1 = nxL x := hx1.symm
    refine z_rcs hc hH 7 (pc' := 55) (lv' := [(3, .long x1), (5, .int (nI (i + 1))), (7, .int kv), (6, .int jv), (0, .ref 2), (1, .long sd)]) (st' := [.long (((nI (i + 1)) + 1).toInt64), .long ((x1.toUInt64 >>> ((33 : Int32).toInt64.toUInt64 &&& Int64.toUInt64 63)).toInt64)]) (μ' := μ1) (by rfl) ?_
    obtain ⟨hne, hj, ej⟩ := jE_n x1 i (by omega)
    refine zq_lrem hc hH (by rfl) hne ?_
    refine z_rcs hc hH 1 (pc' := 57) (lv' := [(3, .long x1), (5, .int (nI (i + 1))), (7, .int kv), (6, .int jv), (0, .ref 2), (1, .long sd)]) (st' := [.int ((((x1.toUInt64 >>> ((33 : Int32).toInt64.toUInt64 &&& Int64.toUInt64 63)).toInt64) - ((x1.toUInt64 >>> ((33 : Int32).toInt64.toUInt64 &&& Int64.toUInt64 63)).toInt64) / (((nI (i + 1)) + 1).toInt64) * (((nI (i + 1)) + 1).toInt64)).toInt32)]) (μ' := μ1) (by rfl) ?_
    show Z 0 57 [(3, .long x1), (5, .int (nI (i + 1))), (7, .int kv), (6, .int jv), (0, .ref 2), (1, .long sd)] [.int (jE x1 i)] μ1
    rw [ej]
    refine z_rcs hc hH 4 (pc' := 65) (lv' := [(6, .int (nI (jN x1 i))), (3, .long x1), (5, .int (nI (i + 1))), (7, .int kv), (0, .ref 2), (1, .long sd)]) (st' := [.int (nI (i + 1)), .ref 3]) (μ' := μ1) (by rfl) ?_
    refine zq_iald hc hH (by rfl) 136 (by decide +kernel) (vp_in_nI (by omega) (by decide)) ?_
    refine z_rcs hc hH 7 (pc' := 80) (lv' := [(7, .int (μ1.1 3 (nI (i + 1)).toNatClampNeg)), (6, .int (nI (jN x1 i))), (3, .long x1), (5, .int (nI (i + 1))), (0, .ref 2), (1, .long sd)]) (st' := [.int (nI (jN x1 i)), .ref 3, .int (nI (i + 1)), .ref 3]) (μ' := μ1) (by rfl) ?_
    refine zq_iald hc hH (by rfl) 136 (by decide +kernel) (vp_in_nI (by omega) (by decide)) ?_
    refine zq_iast hc hH (by rfl) 136 (by decide +kernel) (vp_in_nI (by omega) (by decide)) ?_
    refine z_rcs hc hH 4 (pc' := 90) (lv' := [(7, .int (μ1.1 3 (nI (i + 1)).toNatClampNeg)), (6, .int (nI (jN x1 i))), (3, .long x1), (5, .int (nI (i + 1))), (0, .ref 2), (1, .long sd)]) (st' := [.int (μ1.1 3 (nI (i + 1)).toNatClampNeg), .int (nI (jN x1 i)), .ref 3]) (μ' := z_ui μ1 3 ((nI (i + 1)).toNatClampNeg) (μ1.1 3 (nI (jN x1 i)).toNatClampNeg)) (by rfl) ?_
    refine zq_iast hc hH (by rfl) 136 (by decide +kernel) (vp_in_nI (by omega) (by decide)) ?_
    refine z_rcs hc hH 2 (pc' := 31) (lv' := [(5, .int ((nI (i + 1)) + (-1))), (7, .int (μ1.1 3 (nI (i + 1)).toNatClampNeg)), (6, .int (nI (jN x1 i))), (3, .long x1), (0, .ref 2), (1, .long sd)]) (st' := []) (μ' := z_ui (z_ui μ1 3 ((nI (i + 1)).toNatClampNeg) (μ1.1 3 (nI (jN x1 i)).toNatClampNeg)) 3 ((nI (jN x1 i)).toNatClampNeg) (μ1.1 3 (nI (i + 1)).toNatClampNeg)) (by rfl) ?_
    rw [nI_m1, nI_clamp (by omega), nI_clamp (by omega)]
    refine ih (by omega) x1 (swW f (i + 1) (jN x1 i)) (by rw [hx1]; exact hf) _ _ _ (by
      have e := g1.nx (i := i + 1) (by omega) hj
      exact e)
theorem wc3 (d' : Nat) (Z : zK) (hc : z_clo z_x0 mi_X4_build (z_C d') Z) (sd : Int64) (μ0 : zM) (K : ∀ (x : Int64) (kv jv : Int32) μ1, WRl 3 (wlF sd) μ0 μ1 → Z 0 97 [(5, .int (nI 0)), (7, .int kv), (6, .int jv), (3, .long x), (0, .ref 2), (1, .long sd)] [] μ1) (μ1 : zM) (g1 : WR1 3 136 μ0 μ1) : Z 0 24 [(3, .int (nI 136)), (0, .ref 2), (1, .long sd)] [] μ1 := by
  have hH := zh_X4_build
  have g1 : WRl 3 (fun k => nI (k / 4)) μ0 μ1 := g1
  refine z_rcs hc hH 4 (pc' := 31) (lv' := [(5, .int 135), (3, .long sd), (0, .ref 2), (1, .long sd)]) (st' := []) (μ' := μ1) (by rfl) ?_
  show Z 0 31 [(5, .int (nI (134 + 1))), (3, .long sd), (0, .ref 2), (1, .long sd)] [] μ1
  refine z_rcs hc hH 1 (pc' := 33) (lv' := [(5, .int (nI (134 + 1))), (3, .long sd), (0, .ref 2), (1, .long sd)]) (st' := [.int (nI (134 + 1))]) (μ' := μ1) (by rfl) ?_
  refine zq_if hc hH (by rfl) (tg := 97) (by rfl) (fun h9 => (zb_t h9 (le_nI0 (i := 134) (by omega))).elim) (fun _ => ?_)
  refine z_rcs hc hH 6 (pc' := 46) (lv' := [(3, .long ((sd * 6364136223846793005) + 1442695040888963407)), (5, .int (nI (134 + 1))), (0, .ref 2), (1, .long sd)]) (st' := []) (μ' := μ1) (by rfl) ?_
  generalize hx1 : (sd * 6364136223846793005) + 1442695040888963407 = x1
  have hx1 : x1 = nxL sd := hx1.symm
  refine z_rcs hc hH 7 (pc' := 55) (lv' := [(3, .long x1), (5, .int (nI (134 + 1))), (0, .ref 2), (1, .long sd)]) (st' := [.long (((nI (134 + 1)) + 1).toInt64), .long ((x1.toUInt64 >>> ((33 : Int32).toInt64.toUInt64 &&& Int64.toUInt64 63)).toInt64)]) (μ' := μ1) (by rfl) ?_
  obtain ⟨hne, hj, ej⟩ := jE_n x1 134 (by omega)
  refine zq_lrem hc hH (by rfl) hne ?_
  refine z_rcs hc hH 1 (pc' := 57) (lv' := [(3, .long x1), (5, .int (nI (134 + 1))), (0, .ref 2), (1, .long sd)]) (st' := [.int ((((x1.toUInt64 >>> ((33 : Int32).toInt64.toUInt64 &&& Int64.toUInt64 63)).toInt64) - ((x1.toUInt64 >>> ((33 : Int32).toInt64.toUInt64 &&& Int64.toUInt64 63)).toInt64) / (((nI (134 + 1)) + 1).toInt64) * (((nI (134 + 1)) + 1).toInt64)).toInt32)]) (μ' := μ1) (by rfl) ?_
  show Z 0 57 [(3, .long x1), (5, .int (nI (134 + 1))), (0, .ref 2), (1, .long sd)] [.int (jE x1 134)] μ1
  rw [ej]
  refine z_rcs hc hH 4 (pc' := 65) (lv' := [(6, .int (nI (jN x1 134))), (3, .long x1), (5, .int (nI (134 + 1))), (0, .ref 2), (1, .long sd)]) (st' := [.int (nI (134 + 1)), .ref 3]) (μ' := μ1) (by rfl) ?_
  refine zq_iald hc hH (by rfl) 136 (by decide +kernel) (vp_in_nI (by omega) (by decide)) ?_
  refine z_rcs hc hH 7 (pc' := 80) (lv' := [(7, .int (μ1.1 3 (nI (134 + 1)).toNatClampNeg)), (6, .int (nI (jN x1 134))), (3, .long x1), (5, .int (nI (134 + 1))), (0, .ref 2), (1, .long sd)]) (st' := [.int (nI (jN x1 134)), .ref 3, .int (nI (134 + 1)), .ref 3]) (μ' := μ1) (by rfl) ?_
  refine zq_iald hc hH (by rfl) 136 (by decide +kernel) (vp_in_nI (by omega) (by decide)) ?_
  refine zq_iast hc hH (by rfl) 136 (by decide +kernel) (vp_in_nI (by omega) (by decide)) ?_
  refine z_rcs hc hH 4 (pc' := 90) (lv' := [(7, .int (μ1.1 3 (nI (134 + 1)).toNatClampNeg)), (6, .int (nI (jN x1 134))), (3, .long x1), (5, .int (nI (134 + 1))), (0, .ref 2), (1, .long sd)]) (st' := [.int (μ1.1 3 (nI (134 + 1)).toNatClampNeg), .int (nI (jN x1 134)), .ref 3]) (μ' := z_ui μ1 3 ((nI (134 + 1)).toNatClampNeg) (μ1.1 3 (nI (jN x1 134)).toNatClampNeg)) (by rfl) ?_
  refine zq_iast hc hH (by rfl) 136 (by decide +kernel) (vp_in_nI (by omega) (by decide)) ?_
  refine z_rcs hc hH 2 (pc' := 31) (lv' := [(5, .int ((nI (134 + 1)) + (-1))), (7, .int (μ1.1 3 (nI (134 + 1)).toNatClampNeg)), (6, .int (nI (jN x1 134))), (3, .long x1), (0, .ref 2), (1, .long sd)]) (st' := []) (μ' := z_ui (z_ui μ1 3 ((nI (134 + 1)).toNatClampNeg) (μ1.1 3 (nI (jN x1 134)).toNatClampNeg)) 3 ((nI (jN x1 134)).toNatClampNeg) (μ1.1 3 (nI (134 + 1)).toNatClampNeg)) (by rfl) ?_
  rw [nI_m1, nI_clamp (by omega), nI_clamp (by omega)]
  refine wc2 d' Z hc sd μ0 (wlF sd) K 134 (by omega) x1 (swW (fun k => nI (k / 4)) (134 + 1) (jN x1 134)) (by rw [hx1]; rfl) _ _ _ (by
    have e := g1.nx (i := 134 + 1) (by omega) hj
    exact e)
theorem wm1 (d' : Nat) (Z : zK) (hc : z_clo z_x0 mi_X7_deal (z_C d') Z) (sd : Int64) (μ0 : zM) (K : ∀ μ1, WR1 59 136 μ0 μ1 → Z 0 51 [(5, .int (nI 136)), (3, .long sd), (0, .ref 50), (1, .long sd)] [] μ1) : ∀ n i, i + n = 136 → ∀ μ1, WR1 59 i μ0 μ1 → Z 0 26 [(5, .int (nI i)), (3, .long sd), (0, .ref 50), (1, .long sd)] [] μ1 := by
  have hH := zh_X7_deal
  intro n
  induction n with
  | zero =>
    intro i hi μ1 g1
    have hi : i = 136 := by omega
    subst hi
    refine z_rcs hc hH 2 (pc' := 31) (lv' := [(5, .int (nI 136)), (3, .long sd), (0, .ref 50), (1, .long sd)]) (st' := [.int 136, .int (nI 136)]) (μ' := μ1) (by rfl) ?_
    refine zq_ic hc hH (by rfl) (tg := 51) (by rfl) (fun _ => ?_) (fun h9 => (zb_t (ge_nIt (n := 136) (i := 136) (by decide) (by decide)) h9).elim)
    exact K μ1 g1
  | succ n ih =>
    intro i hi μ1 g1
    refine z_rcs hc hH 2 (pc' := 31) (lv' := [(5, .int (nI i)), (3, .long sd), (0, .ref 50), (1, .long sd)]) (st' := [.int 136, .int (nI i)]) (μ' := μ1) (by rfl) ?_
    refine zq_ic hc hH (by rfl) (tg := 51) (by rfl) (fun h9 => (zb_t h9 (ge_nI (n := 136) (i := i) (by omega) (by decide))).elim) (fun _ => ?_)
    refine z_rcs hc hH 6 (pc' := 44) (lv' := [(5, .int (nI i)), (3, .long sd), (0, .ref 50), (1, .long sd)]) (st' := [.int ((nI i) / 4), .int (nI i), .ref 59]) (μ' := μ1) (by rfl) ?_
    rw [nI_d4 i (by omega)]
    refine zq_iast hc hH (by rfl) 136 (by decide +kernel) (vp_in_nI (by omega) (by decide)) ?_
    refine z_rcs hc hH 2 (pc' := 26) (lv' := [(5, .int ((nI i) + 1)), (3, .long sd), (0, .ref 50), (1, .long sd)]) (st' := []) (μ' := z_ui μ1 59 ((nI i).toNatClampNeg) (nI (i / 4))) (by rfl) ?_
    rw [nI_1, nI_clamp (by omega)]
    exact ih (i + 1) (by omega) _ g1.nx
theorem wm2 (d' : Nat) (Z : zK) (hc : z_clo z_x0 mi_X7_deal (z_C d') Z) (sd : Int64) (μ0 : zM) (fz : Nat → Int32) (K : ∀ (x : Int64) (kv jv : Int32) μ1, WRl 59 fz μ0 μ1 → Z 0 122 [(5, .int (nI 0)), (7, .int kv), (6, .int jv), (3, .long x), (0, .ref 50), (1, .long sd)] [] μ1) : ∀ i, i < 135 → ∀ (x : Int64) (f : Nat → Int32), wsh i x f = fz → ∀ (kv jv : Int32) μ1, WRl 59 f μ0 μ1 → Z 0 56 [(5, .int (nI i)), (7, .int kv), (6, .int jv), (3, .long x), (0, .ref 50), (1, .long sd)] [] μ1 := by
  have hH := zh_X7_deal
  intro i
  induction i with
  | zero =>
    intro hi x f hf kv jv μ1 g1
    have hf : f = fz := hf
    subst hf
    refine z_rcs hc hH 1 (pc' := 58) (lv' := [(5, .int (nI 0)), (7, .int kv), (6, .int jv), (3, .long x), (0, .ref 50), (1, .long sd)]) (st' := [.int (nI 0)]) (μ' := μ1) (by rfl) ?_
    refine zq_if hc hH (by rfl) (tg := 122) (by rfl) (fun _ => ?_) (fun h9 => (zb_t (by decide) h9).elim)
    exact K x kv jv μ1 g1
  | succ i ih =>
    intro hi x f hf kv jv μ1 g1
    refine z_rcs hc hH 1 (pc' := 58) (lv' := [(5, .int (nI (i + 1))), (7, .int kv), (6, .int jv), (3, .long x), (0, .ref 50), (1, .long sd)]) (st' := [.int (nI (i + 1))]) (μ' := μ1) (by rfl) ?_
    refine zq_if hc hH (by rfl) (tg := 122) (by rfl) (fun h9 => (zb_t h9 (le_nI0 (by omega))).elim) (fun _ => ?_)
    refine z_rcs hc hH 6 (pc' := 71) (lv' := [(3, .long ((x * 6364136223846793005) + 1442695040888963407)), (5, .int (nI (i + 1))), (7, .int kv), (6, .int jv), (0, .ref 50), (1, .long sd)]) (st' := []) (μ' := μ1) (by rfl) ?_
    generalize hx1 : (x * 6364136223846793005) + 1442695040888963407 = x1
    have hx1 : x1 = nxL x := hx1.symm
    refine z_rcs hc hH 7 (pc' := 80) (lv' := [(3, .long x1), (5, .int (nI (i + 1))), (7, .int kv), (6, .int jv), (0, .ref 50), (1, .long sd)]) (st' := [.long (((nI (i + 1)) + 1).toInt64), .long ((x1.toUInt64 >>> ((33 : Int32).toInt64.toUInt64 &&& Int64.toUInt64 63)).toInt64)]) (μ' := μ1) (by rfl) ?_
    obtain ⟨hne, hj, ej⟩ := jE_n x1 i (by omega)
    refine zq_lrem hc hH (by rfl) hne ?_
    refine z_rcs hc hH 1 (pc' := 82) (lv' := [(3, .long x1), (5, .int (nI (i + 1))), (7, .int kv), (6, .int jv), (0, .ref 50), (1, .long sd)]) (st' := [.int ((((x1.toUInt64 >>> ((33 : Int32).toInt64.toUInt64 &&& Int64.toUInt64 63)).toInt64) - ((x1.toUInt64 >>> ((33 : Int32).toInt64.toUInt64 &&& Int64.toUInt64 63)).toInt64) / (((nI (i + 1)) + 1).toInt64) * (((nI (i + 1)) + 1).toInt64)).toInt32)]) (μ' := μ1) (by rfl) ?_
    show Z 0 82 [(3, .long x1), (5, .int (nI (i + 1))), (7, .int kv), (6, .int jv), (0, .ref 50), (1, .long sd)] [.int (jE x1 i)] μ1
    rw [ej]
    refine z_rcs hc hH 4 (pc' := 90) (lv' := [(6, .int (nI (jN x1 i))), (3, .long x1), (5, .int (nI (i + 1))), (7, .int kv), (0, .ref 50), (1, .long sd)]) (st' := [.int (nI (i + 1)), .ref 59]) (μ' := μ1) (by rfl) ?_
    refine zq_iald hc hH (by rfl) 136 (by decide +kernel) (vp_in_nI (by omega) (by decide)) ?_
    refine z_rcs hc hH 7 (pc' := 105) (lv' := [(7, .int (μ1.1 59 (nI (i + 1)).toNatClampNeg)), (6, .int (nI (jN x1 i))), (3, .long x1), (5, .int (nI (i + 1))), (0, .ref 50), (1, .long sd)]) (st' := [.int (nI (jN x1 i)), .ref 59, .int (nI (i + 1)), .ref 59]) (μ' := μ1) (by rfl) ?_
    refine zq_iald hc hH (by rfl) 136 (by decide +kernel) (vp_in_nI (by omega) (by decide)) ?_
    refine zq_iast hc hH (by rfl) 136 (by decide +kernel) (vp_in_nI (by omega) (by decide)) ?_
    refine z_rcs hc hH 4 (pc' := 115) (lv' := [(7, .int (μ1.1 59 (nI (i + 1)).toNatClampNeg)), (6, .int (nI (jN x1 i))), (3, .long x1), (5, .int (nI (i + 1))), (0, .ref 50), (1, .long sd)]) (st' := [.int (μ1.1 59 (nI (i + 1)).toNatClampNeg), .int (nI (jN x1 i)), .ref 59]) (μ' := z_ui μ1 59 ((nI (i + 1)).toNatClampNeg) (μ1.1 59 (nI (jN x1 i)).toNatClampNeg)) (by rfl) ?_
    refine zq_iast hc hH (by rfl) 136 (by decide +kernel) (vp_in_nI (by omega) (by decide)) ?_
    refine z_rcs hc hH 2 (pc' := 56) (lv' := [(5, .int ((nI (i + 1)) + (-1))), (7, .int (μ1.1 59 (nI (i + 1)).toNatClampNeg)), (6, .int (nI (jN x1 i))), (3, .long x1), (0, .ref 50), (1, .long sd)]) (st' := []) (μ' := z_ui (z_ui μ1 59 ((nI (i + 1)).toNatClampNeg) (μ1.1 59 (nI (jN x1 i)).toNatClampNeg)) 59 ((nI (jN x1 i)).toNatClampNeg) (μ1.1 59 (nI (i + 1)).toNatClampNeg)) (by rfl) ?_
    rw [nI_m1, nI_clamp (by omega), nI_clamp (by omega)]
    refine ih (by omega) x1 (swW f (i + 1) (jN x1 i)) (by rw [hx1]; exact hf) _ _ _ (by
      have e := g1.nx (i := i + 1) (by omega) hj
      exact e)
theorem wm3 (d' : Nat) (Z : zK) (hc : z_clo z_x0 mi_X7_deal (z_C d') Z) (sd : Int64) (μ0 : zM) (K : ∀ (x : Int64) (kv jv : Int32) μ1, WRl 59 (wlF sd) μ0 μ1 → Z 0 122 [(5, .int (nI 0)), (7, .int kv), (6, .int jv), (3, .long x), (0, .ref 50), (1, .long sd)] [] μ1) (μ1 : zM) (g1 : WR1 59 136 μ0 μ1) : Z 0 51 [(5, .int (nI 136)), (3, .long sd), (0, .ref 50), (1, .long sd)] [] μ1 := by
  have hH := zh_X7_deal
  have g1 : WRl 59 (fun k => nI (k / 4)) μ0 μ1 := g1
  refine z_rcs hc hH 2 (pc' := 56) (lv' := [(5, .int 135), (3, .long sd), (0, .ref 50), (1, .long sd)]) (st' := []) (μ' := μ1) (by rfl) ?_
  show Z 0 56 [(5, .int (nI (134 + 1))), (3, .long sd), (0, .ref 50), (1, .long sd)] [] μ1
  refine z_rcs hc hH 1 (pc' := 58) (lv' := [(5, .int (nI (134 + 1))), (3, .long sd), (0, .ref 50), (1, .long sd)]) (st' := [.int (nI (134 + 1))]) (μ' := μ1) (by rfl) ?_
  refine zq_if hc hH (by rfl) (tg := 122) (by rfl) (fun h9 => (zb_t h9 (le_nI0 (i := 134) (by omega))).elim) (fun _ => ?_)
  refine z_rcs hc hH 6 (pc' := 71) (lv' := [(3, .long ((sd * 6364136223846793005) + 1442695040888963407)), (5, .int (nI (134 + 1))), (0, .ref 50), (1, .long sd)]) (st' := []) (μ' := μ1) (by rfl) ?_
  generalize hx1 : (sd * 6364136223846793005) + 1442695040888963407 = x1
  have hx1 : x1 = nxL sd := hx1.symm
  refine z_rcs hc hH 7 (pc' := 80) (lv' := [(3, .long x1), (5, .int (nI (134 + 1))), (0, .ref 50), (1, .long sd)]) (st' := [.long (((nI (134 + 1)) + 1).toInt64), .long ((x1.toUInt64 >>> ((33 : Int32).toInt64.toUInt64 &&& Int64.toUInt64 63)).toInt64)]) (μ' := μ1) (by rfl) ?_
  obtain ⟨hne, hj, ej⟩ := jE_n x1 134 (by omega)
  refine zq_lrem hc hH (by rfl) hne ?_
  refine z_rcs hc hH 1 (pc' := 82) (lv' := [(3, .long x1), (5, .int (nI (134 + 1))), (0, .ref 50), (1, .long sd)]) (st' := [.int ((((x1.toUInt64 >>> ((33 : Int32).toInt64.toUInt64 &&& Int64.toUInt64 63)).toInt64) - ((x1.toUInt64 >>> ((33 : Int32).toInt64.toUInt64 &&& Int64.toUInt64 63)).toInt64) / (((nI (134 + 1)) + 1).toInt64) * (((nI (134 + 1)) + 1).toInt64)).toInt32)]) (μ' := μ1) (by rfl) ?_
  show Z 0 82 [(3, .long x1), (5, .int (nI (134 + 1))), (0, .ref 50), (1, .long sd)] [.int (jE x1 134)] μ1
  rw [ej]
  refine z_rcs hc hH 4 (pc' := 90) (lv' := [(6, .int (nI (jN x1 134))), (3, .long x1), (5, .int (nI (134 + 1))), (0, .ref 50), (1, .long sd)]) (st' := [.int (nI (134 + 1)), .ref 59]) (μ' := μ1) (by rfl) ?_
  refine zq_iald hc hH (by rfl) 136 (by decide +kernel) (vp_in_nI (by omega) (by decide)) ?_
  refine z_rcs hc hH 7 (pc' := 105) (lv' := [(7, .int (μ1.1 59 (nI (134 + 1)).toNatClampNeg)), (6, .int (nI (jN x1 134))), (3, .long x1), (5, .int (nI (134 + 1))), (0, .ref 50), (1, .long sd)]) (st' := [.int (nI (jN x1 134)), .ref 59, .int (nI (134 + 1)), .ref 59]) (μ' := μ1) (by rfl) ?_
  refine zq_iald hc hH (by rfl) 136 (by decide +kernel) (vp_in_nI (by omega) (by decide)) ?_
  refine zq_iast hc hH (by rfl) 136 (by decide +kernel) (vp_in_nI (by omega) (by decide)) ?_
  refine z_rcs hc hH 4 (pc' := 115) (lv' := [(7, .int (μ1.1 59 (nI (134 + 1)).toNatClampNeg)), (6, .int (nI (jN x1 134))), (3, .long x1), (5, .int (nI (134 + 1))), (0, .ref 50), (1, .long sd)]) (st' := [.int (μ1.1 59 (nI (134 + 1)).toNatClampNeg), .int (nI (jN x1 134)), .ref 59]) (μ' := z_ui μ1 59 ((nI (134 + 1)).toNatClampNeg) (μ1.1 59 (nI (jN x1 134)).toNatClampNeg)) (by rfl) ?_
  refine zq_iast hc hH (by rfl) 136 (by decide +kernel) (vp_in_nI (by omega) (by decide)) ?_
  refine z_rcs hc hH 2 (pc' := 56) (lv' := [(5, .int ((nI (134 + 1)) + (-1))), (7, .int (μ1.1 59 (nI (134 + 1)).toNatClampNeg)), (6, .int (nI (jN x1 134))), (3, .long x1), (0, .ref 50), (1, .long sd)]) (st' := []) (μ' := z_ui (z_ui μ1 59 ((nI (134 + 1)).toNatClampNeg) (μ1.1 59 (nI (jN x1 134)).toNatClampNeg)) 59 ((nI (jN x1 134)).toNatClampNeg) (μ1.1 59 (nI (134 + 1)).toNatClampNeg)) (by rfl) ?_
  rw [nI_m1, nI_clamp (by omega), nI_clamp (by omega)]
  refine wm2 d' Z hc sd μ0 (wlF sd) K 134 (by omega) x1 (swW (fun k => nI (k / 4)) (134 + 1) (jN x1 134)) (by rw [hx1]; rfl) _ _ _ (by
    have e := g1.nx (i := 134 + 1) (by omega) hj
    exact e)
theorem gc_build (d : Nat) (hd : 1 ≤ d) (μ : zM) (sd : Int64) : z_C d mi_X4_build [.ref 2, .long sd] μ (fun r μ' => r = none ∧ ∃ μ1, WRl 3 (wlF sd) μ μ1 ∧ μ' = z_ui (z_ui (z_ui μ1 2 1 1) 2 2 52) 2 3 0) := by
  refine z_C_in (by decide) (by omega) (fun d' Z ed hc hr => ?_)
  have hH := zh_X4_build
  refine z_rcs hc hH 2 (pc' := 2) (lv' := [(3, .int (nI 0)), (0, .ref 2), (1, .long sd)]) (st' := []) (μ' := μ) (by rfl) ?_
  refine wc1 d' Z hc sd μ (fun μ1 g1 => wc3 d' Z hc sd μ (fun x kv jv μ2 g2 => ?_) μ1 g1) 136 0 (by omega) μ ⟨fun k hk => absurd hk (by omega), fun _ _ _ => rfl, rfl⟩
  refine z_rcs hc hH 9 (pc' := 113) (lv' := [(5, .int (nI 0)), (7, .int kv), (6, .int jv), (3, .long x), (0, .ref 2), (1, .long sd)]) (st' := []) (μ' := z_ui (z_ui (z_ui μ2 2 1 1) 2 2 52) 2 3 0) (by rfl) ?_
  exact hr 0 113 _ _ _ none (by decide +kernel) (by rfl) (⟨rfl, μ2, g2, rfl⟩)

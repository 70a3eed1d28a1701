/-! the game: add, run of the reference -/
set_option maxRecDepth 8000
noncomputable def adF (μ : zM) (t k j : Nat) : Bool := decide (μ.1 62 (4 * t + j) = 1) && decide (μ.1 63 (4 * t + j) = nI k)
theorem gm_addF (d : Nat) (hd : 3 ≤ d) (μ : zM) (t : Nat) (ht4 : t < 4) (ht : μ.1 50 45 = nI t) (k q i : Nat) (hk : k < 34) (hq : q ≤ 4) (e64 : μ.1 64 t = nI q) (mm : Bool) (hmm : ∀ d, 2 ≤ d → z_C d mi_X7_mayMake [.ref 50] (z_ui μ 50 0 0) (zR (z_ui μ 50 0 0) (.int (nB mm)))) (hi : i < q) (hfi : adF μ t k i = true) (hfj : ∀ j, j < i → adF μ t k j = false) : z_C d mi_X7_add [.ref 50, .int (nI k)] μ (fun r μ' => ((mm && !decide (μ.1 60 (34 * t + k) = 0)) = true ∧ r = some (.int 1) ∧ μ' = z_ui (z_ui (z_giv (z_ui (z_ui μ 50 0 0) 62 (4 * t + i) 2) t k (-1)) 50 49 (nI k)) 50 44 3) ∨ ((mm && !decide (μ.1 60 (34 * t + k) = 0)) = false ∧ r = some (.int 0) ∧ μ' = z_ui μ 50 0 0)) := by
  refine z_C_in (by decide) (by omega) (fun d' Z ed hc hr => ?_)
  have hH : zH mi_X7_add zt_X7_add 79 7 3 := hh_X7_add
  refine z_rcs hc hH 2 (pc' := 2) (lv' := [(0, .ref 50), (1, .int (nI k))]) (st' := [.int 0, .ref 50]) (μ' := μ) (by rfl) ?_
  refine zq_pfi hc hH (by rfl) (ci := 6) (f := 0) (by rfl) (by decide +kernel) (by rfl) ?_
  show Z 0 5 [(0, .ref 50), (1, .int (nI k))] [] (z_ui μ 50 0 0)
  refine z_rcs hc hH 1 (pc' := 6) (lv' := [(0, .ref 50), (1, .int (nI k))]) (st' := [.ref 50]) (μ' := z_ui μ 50 0 0) (by rfl) ?_
  refine zq_call hc (z_cx_ok hH (by rfl)) (hmm d' (by omega)) (by decide +kernel) (fun r9 μ9 hq => ?_)
  obtain ⟨hμ9, rfl⟩ := hq
  rw [hμ9]
  clear hμ9 μ9
  show Z 0 9 [(0, .ref 50), (1, .int (nI k))] [.int (nB mm)] (z_ui μ 50 0 0)
  refine zq_if hc hH (by rfl) (tg := 31) (by rfl) (fun h1 => ?_) (fun h1 => ?_)
  · have h1 : (mm) = false := nB_z.mp (cm_eq9.mp h1)
    refine z_rcs hc hH 1 (pc' := 32) (lv' := [(0, .ref 50), (1, .int (nI k))]) (st' := [.int 0]) (μ' := z_ui μ 50 0 0) (by rfl) ?_
    exact hr 0 32 _ _ _ (some (.int 0)) (by decide +kernel) (z_rx_ok hH (by rfl)) (Or.inr ⟨by simp only [h1, Bool.true_or, Bool.true_and, Bool.and_true, Bool.false_and, Bool.and_false, Bool.not_true, Bool.not_false, Bool.or_true, Bool.or_false, Bool.false_or, cond_true, cond_false], rfl, rfl⟩)
  · have h1 : (mm) = true := nB_n.mp (cn_eq.mp h1)
    refine z_rcs hc hH 1 (pc' := 13) (lv' := [(0, .ref 50), (1, .int (nI k))]) (st' := [.int (nI k)]) (μ' := z_ui μ 50 0 0) (by rfl) ?_
    refine zq_call hc (z_cx_ok hH (by rfl)) (gm_isKindN d' (by omega) (z_ui μ 50 0 0) k hk) (by decide +kernel) (fun r9 μ9 hq => ?_)
    obtain ⟨hμ9, rfl⟩ := hq
    rw [hμ9]
    clear hμ9 μ9
    show Z 0 16 [(0, .ref 50), (1, .int (nI k))] [.int 1] (z_ui μ 50 0 0)
    refine z_rcs hc hH 3 (pc' := 21) (lv' := [(0, .ref 50), (1, .int (nI k))]) (st' := [.ref 50, .ref 50]) (μ' := z_ui μ 50 0 0) (by rfl) ?_
    refine zq_gfi hc hH (by rfl) (ci := 6) (f := 45) (by rfl) (by decide +kernel) (by rfl) ?_
    refine zV1 (Z := Z) (ui_k (by first | decide | omega)) ?_
    rw [ht]
    refine z_rcs hc hH 1 (pc' := 25) (lv' := [(0, .ref 50), (1, .int (nI k))]) (st' := [.int (nI k), .int (nI t), .ref 50]) (μ' := z_ui μ 50 0 0) (by rfl) ?_
    refine zq_call hc (z_cx_ok hH (by rfl)) (fc_X7_has_ d' (by omega) (z_ui μ 50 0 0) t k ht4 hk) (by decide +kernel) (fun r9 μ9 hq => ?_)
    obtain ⟨hμ9, rfl⟩ := hq
    rw [hμ9]
    clear hμ9 μ9
    rw [ui_o (by first | decide | omega)]
    show Z 0 28 [(0, .ref 50), (1, .int (nI k))] [.int (μ.1 60 (34 * t + k))] (z_ui μ 50 0 0)
    refine zq_if hc hH (by rfl) (tg := 33) (by rfl) (fun h2 => ?_) (fun h2 => ?_)
    · have h2 : (decide ((μ.1 60 (34 * t + k)) = 0)) = false := decide_eq_false (cm_ne.mp h2)
      refine z_rcs hc hH 2 (pc' := 35) (lv' := [(2, .int 0), (0, .ref 50), (1, .int (nI k))]) (st' := []) (μ' := z_ui μ 50 0 0) (by rfl) ?_
      have hL : ∀ n j, j + n = i → Z 0 35 [(2, .int (nI j)), (0, .ref 50), (1, .int (nI k))] [] (z_ui μ 50 0 0) := by
        intro n
        induction n with
        | zero =>
          intro j hj
          have hj : j = i := by omega
          refine z_rcs hc hH 2 (pc' := 37) (lv' := [(2, .int (nI j)), (0, .ref 50), (1, .int (nI k))]) (st' := [.ref 50, .int (nI j)]) (μ' := z_ui μ 50 0 0) (by rfl) ?_
          refine zq_gfr hc hH (by rfl) (ci := 6) (f := 32) (q := 64) (by rfl) (by decide +kernel) (by rfl) (by decide +kernel) ?_
          refine z_rcs hc hH 1 (pc' := 41) (lv' := [(2, .int (nI j)), (0, .ref 50), (1, .int (nI k))]) (st' := [.ref 50, .ref 64, .int (nI j)]) (μ' := z_ui μ 50 0 0) (by rfl) ?_
          refine zq_gfi hc hH (by rfl) (ci := 6) (f := 45) (by rfl) (by decide +kernel) (by rfl) ?_
          refine zV1 (Z := Z) (ui_k (by first | decide | omega)) ?_
          rw [ht]
          refine zq_iald hc hH (by rfl) 4 (oka_i (by decide +kernel)) (vp_in_nI (by omega) (by decide)) ?_
          rw [nI_clamp (by omega)]
          refine zV1 (Z := Z) (ui_o (by first | decide | omega)) ?_
          rw [e64]
          refine zq_ic hc hH (by rfl) (tg := 127) (by rfl) (fun h3 => ?_) (fun h3 => ?_)
          · have h3 : (decide ((nI q) ≤ (nI j))) = true := decide_eq_true (cm_ge.mp h3)
            exact absurd (Eq.trans (Eq.symm (kn_nlf (by omega) (by omega) (by omega))) h3) (by decide)
          · have h3 : (decide ((nI q) ≤ (nI j))) = false := decide_eq_false (cn_ge.mp h3)
            refine z_rcs hc hH 1 (pc' := 49) (lv' := [(2, .int (nI j)), (0, .ref 50), (1, .int (nI k))]) (st' := [.ref 50]) (μ' := z_ui μ 50 0 0) (by rfl) ?_
            refine zq_gfr hc hH (by rfl) (ci := 6) (f := 30) (q := 62) (by rfl) (by decide +kernel) (by rfl) (by decide +kernel) ?_
            refine z_rcs hc hH 2 (pc' := 54) (lv' := [(2, .int (nI j)), (0, .ref 50), (1, .int (nI k))]) (st' := [.ref 50, .int 4, .ref 62]) (μ' := z_ui μ 50 0 0) (by rfl) ?_
            refine zq_gfi hc hH (by rfl) (ci := 6) (f := 45) (by rfl) (by decide +kernel) (by rfl) ?_
            refine zV1 (Z := Z) (ui_k (by first | decide | omega)) ?_
            rw [ht]
            refine z_rcs hc hH 3 (pc' := 60) (lv' := [(2, .int (nI j)), (0, .ref 50), (1, .int (nI k))]) (st' := [.int ((4 * (nI t)) + (nI j)), .ref 62]) (μ' := z_ui μ 50 0 0) (by rfl) ?_
            rw [nI_k4]
            refine zq_iald hc hH (by rfl) 16 (oka_i (by decide +kernel)) (vp_in_nI (by omega) (by decide)) ?_
            rw [nI_clamp (by omega)]
            refine zV1 (Z := Z) (ui_o (by first | decide | omega)) ?_
            refine z_rcs hc hH 1 (pc' := 62) (lv' := [(2, .int (nI j)), (0, .ref 50), (1, .int (nI k))]) (st' := [.int 1, .int (μ.1 62 (4 * t + j))]) (μ' := z_ui μ 50 0 0) (by rfl) ?_
            refine zq_ic hc hH (by rfl) (tg := 121) (by rfl) (fun h4 => ?_) (fun h4 => ?_)
            · have h4 : (decide ((μ.1 62 (4 * t + j)) = 1)) = false := decide_eq_false (cm_ne.mp h4)
              exact absurd (show adF μ t k j = false from by simp only [adF, h4, Bool.true_or, Bool.true_and, Bool.and_true, Bool.false_and, Bool.and_false, Bool.not_true, Bool.not_false, Bool.or_true, Bool.or_false, Bool.false_or, cond_true, cond_false]) (by rw [(hj ▸ hfi : adF μ t k j = true)]; decide)
            · have h4 : (decide ((μ.1 62 (4 * t + j)) = 1)) = true := decide_eq_true (cn_ne.mp h4)
              refine z_rcs hc hH 1 (pc' := 66) (lv' := [(2, .int (nI j)), (0, .ref 50), (1, .int (nI k))]) (st' := [.ref 50]) (μ' := z_ui μ 50 0 0) (by rfl) ?_
              refine zq_gfr hc hH (by rfl) (ci := 6) (f := 31) (q := 63) (by rfl) (by decide +kernel) (by rfl) (by decide +kernel) ?_
              refine z_rcs hc hH 2 (pc' := 71) (lv' := [(2, .int (nI j)), (0, .ref 50), (1, .int (nI k))]) (st' := [.ref 50, .int 4, .ref 63]) (μ' := z_ui μ 50 0 0) (by rfl) ?_
              refine zq_gfi hc hH (by rfl) (ci := 6) (f := 45) (by rfl) (by decide +kernel) (by rfl) ?_
              refine zV1 (Z := Z) (ui_k (by first | decide | omega)) ?_
              rw [ht]
              refine z_rcs hc hH 3 (pc' := 77) (lv' := [(2, .int (nI j)), (0, .ref 50), (1, .int (nI k))]) (st' := [.int ((4 * (nI t)) + (nI j)), .ref 63]) (μ' := z_ui μ 50 0 0) (by rfl) ?_
              rw [nI_k4]
              refine zq_iald hc hH (by rfl) 16 (oka_i (by decide +kernel)) (vp_in_nI (by omega) (by decide)) ?_
              rw [nI_clamp (by omega)]
              refine zV1 (Z := Z) (ui_o (by first | decide | omega)) ?_
              refine z_rcs hc hH 1 (pc' := 79) (lv' := [(2, .int (nI j)), (0, .ref 50), (1, .int (nI k))]) (st' := [.int (nI k), .int (μ.1 63 (4 * t + j))]) (μ' := z_ui μ 50 0 0) (by rfl) ?_
              refine zq_ic hc hH (by rfl) (tg := 85) (by rfl) (fun h5 => ?_) (fun h5 => ?_)
              · have h5 : (decide ((μ.1 63 (4 * t + j)) = (nI k))) = true := decide_eq_true (cm_eq9.mp h5)
                refine z_rcs hc hH 1 (pc' := 86) (lv' := [(2, .int (nI j)), (0, .ref 50), (1, .int (nI k))]) (st' := [.ref 50]) (μ' := z_ui μ 50 0 0) (by rfl) ?_
                refine zq_gfr hc hH (by rfl) (ci := 6) (f := 30) (q := 62) (by rfl) (by decide +kernel) (by rfl) (by decide +kernel) ?_
                refine z_rcs hc hH 2 (pc' := 91) (lv' := [(2, .int (nI j)), (0, .ref 50), (1, .int (nI k))]) (st' := [.ref 50, .int 4, .ref 62]) (μ' := z_ui μ 50 0 0) (by rfl) ?_
                refine zq_gfi hc hH (by rfl) (ci := 6) (f := 45) (by rfl) (by decide +kernel) (by rfl) ?_
                refine zV1 (Z := Z) (ui_k (by first | decide | omega)) ?_
                rw [ht]
                refine z_rcs hc hH 3 (pc' := 97) (lv' := [(2, .int (nI j)), (0, .ref 50), (1, .int (nI k))]) (st' := [.int ((4 * (nI t)) + (nI j)), .ref 62]) (μ' := z_ui μ 50 0 0) (by rfl) ?_
                rw [nI_k4]
                refine z_rcs hc hH 1 (pc' := 98) (lv' := [(2, .int (nI j)), (0, .ref 50), (1, .int (nI k))]) (st' := [.int 2, .int (nI (4 * t + j)), .ref 62]) (μ' := z_ui μ 50 0 0) (by rfl) ?_
                refine zq_iast hc hH (by rfl) 16 (oka_i (by decide +kernel)).2 (vp_in_nI (by omega) (by decide)) ?_
                rw [nI_clamp (by omega)]
                show Z 0 99 [(2, .int (nI j)), (0, .ref 50), (1, .int (nI k))] [] (z_ui (z_ui μ 50 0 0) 62 (4 * t + j) 2)
                refine z_rcs0 hc hH 2 (pc' := 101) (lv' := [(2, .int (nI j)), (0, .ref 50), (1, .int (nI k))]) (st' := [.ref 50, .ref 50]) (by rfl) ?_
                refine zq_gfi hc hH (by rfl) (ci := 6) (f := 45) (by rfl) (by decide +kernel) (by rfl) ?_
                refine zV1 (Z := Z) (Eq.trans (ui_o (by first | decide | omega)) (ui_k (by first | decide | omega))) ?_
                rw [ht]
                refine z_rcs0 hc hH 2 (pc' := 106) (lv' := [(2, .int (nI j)), (0, .ref 50), (1, .int (nI k))]) (st' := [.int (-1), .int (nI k), .int (nI t), .ref 50]) (by rfl) ?_
                refine zq_call hc (z_cx_ok hH (by rfl)) (fc_X7_gives d' (by omega) (z_ui (z_ui μ 50 0 0) 62 (4 * t + j) 2) t k (-1) ht4 hk) (by decide +kernel) (fun r9 μ9 hq => ?_)
                obtain ⟨rfl, rfl⟩ := hq
                show Z 0 109 [(2, .int (nI j)), (0, .ref 50), (1, .int (nI k))] [] (z_giv (z_ui (z_ui μ 50 0 0) 62 (4 * t + j) 2) t k (-1))
                refine z_rcs0 hc hH 2 (pc' := 111) (lv' := [(2, .int (nI j)), (0, .ref 50), (1, .int (nI k))]) (st' := [.int (nI k), .ref 50]) (by rfl) ?_
                refine zq_pfi hc hH (by rfl) (ci := 6) (f := 49) (by rfl) (by decide +kernel) (by rfl) ?_
                show Z 0 114 [(2, .int (nI j)), (0, .ref 50), (1, .int (nI k))] [] (z_ui (z_giv (z_ui (z_ui μ 50 0 0) 62 (4 * t + j) 2) t k (-1)) 50 49 (nI k))
                refine z_rcs0 hc hH 2 (pc' := 116) (lv' := [(2, .int (nI j)), (0, .ref 50), (1, .int (nI k))]) (st' := [.int 3, .ref 50]) (by rfl) ?_
                refine zq_pfi hc hH (by rfl) (ci := 6) (f := 44) (by rfl) (by decide +kernel) (by rfl) ?_
                show Z 0 119 [(2, .int (nI j)), (0, .ref 50), (1, .int (nI k))] [] (z_ui (z_ui (z_giv (z_ui (z_ui μ 50 0 0) 62 (4 * t + j) 2) t k (-1)) 50 49 (nI k)) 50 44 3)
                refine z_rcs0 hc hH 1 (pc' := 120) (lv' := [(2, .int (nI j)), (0, .ref 50), (1, .int (nI k))]) (st' := [.int 1]) (by rfl) ?_
                exact hr 0 120 _ _ _ (some (.int 1)) (by decide +kernel) (z_rx_ok hH (by rfl)) (by rw [← hj]; exact Or.inl ⟨by simp only [h1, h2, Bool.true_or, Bool.true_and, Bool.and_true, Bool.false_and, Bool.and_false, Bool.not_true, Bool.not_false, Bool.or_true, Bool.or_false, Bool.false_or, cond_true, cond_false], rfl, rfl⟩)
              · have h5 : (decide ((μ.1 63 (4 * t + j)) = (nI k))) = false := decide_eq_false (cn_eq.mp h5)
                refine z_rcs hc hH 1 (pc' := 121) (lv' := [(2, .int (nI j)), (0, .ref 50), (1, .int (nI k))]) (st' := []) (μ' := z_ui μ 50 0 0) (by rfl) ?_
                exact absurd (show adF μ t k j = false from by simp only [adF, h4, h5, Bool.true_or, Bool.true_and, Bool.and_true, Bool.false_and, Bool.and_false, Bool.not_true, Bool.not_false, Bool.or_true, Bool.or_false, Bool.false_or, cond_true, cond_false]) (by rw [(hj ▸ hfi : adF μ t k j = true)]; decide)
        | succ n ih =>
          intro j hj
          refine z_rcs hc hH 2 (pc' := 37) (lv' := [(2, .int (nI j)), (0, .ref 50), (1, .int (nI k))]) (st' := [.ref 50, .int (nI j)]) (μ' := z_ui μ 50 0 0) (by rfl) ?_
          refine zq_gfr hc hH (by rfl) (ci := 6) (f := 32) (q := 64) (by rfl) (by decide +kernel) (by rfl) (by decide +kernel) ?_
          refine z_rcs hc hH 1 (pc' := 41) (lv' := [(2, .int (nI j)), (0, .ref 50), (1, .int (nI k))]) (st' := [.ref 50, .ref 64, .int (nI j)]) (μ' := z_ui μ 50 0 0) (by rfl) ?_
          refine zq_gfi hc hH (by rfl) (ci := 6) (f := 45) (by rfl) (by decide +kernel) (by rfl) ?_
          refine zV1 (Z := Z) (ui_k (by first | decide | omega)) ?_
          rw [ht]
          refine zq_iald hc hH (by rfl) 4 (oka_i (by decide +kernel)) (vp_in_nI (by omega) (by decide)) ?_
          rw [nI_clamp (by omega)]
          refine zV1 (Z := Z) (ui_o (by first | decide | omega)) ?_
          rw [e64]
          refine zq_ic hc hH (by rfl) (tg := 127) (by rfl) (fun h6 => ?_) (fun h6 => ?_)
          · have h6 : (decide ((nI q) ≤ (nI j))) = true := decide_eq_true (cm_ge.mp h6)
            exact absurd (Eq.trans (Eq.symm (kn_nlf (by omega) (by omega) (by omega))) h6) (by decide)
          · have h6 : (decide ((nI q) ≤ (nI j))) = false := decide_eq_false (cn_ge.mp h6)
            refine z_rcs hc hH 1 (pc' := 49) (lv' := [(2, .int (nI j)), (0, .ref 50), (1, .int (nI k))]) (st' := [.ref 50]) (μ' := z_ui μ 50 0 0) (by rfl) ?_
            refine zq_gfr hc hH (by rfl) (ci := 6) (f := 30) (q := 62) (by rfl) (by decide +kernel) (by rfl) (by decide +kernel) ?_
            refine z_rcs hc hH 2 (pc' := 54) (lv' := [(2, .int (nI j)), (0, .ref 50), (1, .int (nI k))]) (st' := [.ref 50, .int 4, .ref 62]) (μ' := z_ui μ 50 0 0) (by rfl) ?_
            refine zq_gfi hc hH (by rfl) (ci := 6) (f := 45) (by rfl) (by decide +kernel) (by rfl) ?_
            refine zV1 (Z := Z) (ui_k (by first | decide | omega)) ?_
            rw [ht]
            refine z_rcs hc hH 3 (pc' := 60) (lv' := [(2, .int (nI j)), (0, .ref 50), (1, .int (nI k))]) (st' := [.int ((4 * (nI t)) + (nI j)), .ref 62]) (μ' := z_ui μ 50 0 0) (by rfl) ?_
            rw [nI_k4]
            refine zq_iald hc hH (by rfl) 16 (oka_i (by decide +kernel)) (vp_in_nI (by omega) (by decide)) ?_
            rw [nI_clamp (by omega)]
            refine zV1 (Z := Z) (ui_o (by first | decide | omega)) ?_
            refine z_rcs hc hH 1 (pc' := 62) (lv' := [(2, .int (nI j)), (0, .ref 50), (1, .int (nI k))]) (st' := [.int 1, .int (μ.1 62 (4 * t + j))]) (μ' := z_ui μ 50 0 0) (by rfl) ?_
            refine zq_ic hc hH (by rfl) (tg := 121) (by rfl) (fun h7 => ?_) (fun h7 => ?_)
            · have h7 : (decide ((μ.1 62 (4 * t + j)) = 1)) = false := decide_eq_false (cm_ne.mp h7)
              refine z_rcs hc hH 2 (pc' := 35) (lv' := [(2, .int ((nI j) + 1)), (0, .ref 50), (1, .int (nI k))]) (st' := []) (μ' := z_ui μ 50 0 0) (by rfl) ?_
              have e9 := ih (j + 1) (by omega)
              rw [nI_s1]
              exact e9
            · have h7 : (decide ((μ.1 62 (4 * t + j)) = 1)) = true := decide_eq_true (cn_ne.mp h7)
              refine z_rcs hc hH 1 (pc' := 66) (lv' := [(2, .int (nI j)), (0, .ref 50), (1, .int (nI k))]) (st' := [.ref 50]) (μ' := z_ui μ 50 0 0) (by rfl) ?_
              refine zq_gfr hc hH (by rfl) (ci := 6) (f := 31) (q := 63) (by rfl) (by decide +kernel) (by rfl) (by decide +kernel) ?_
              refine z_rcs hc hH 2 (pc' := 71) (lv' := [(2, .int (nI j)), (0, .ref 50), (1, .int (nI k))]) (st' := [.ref 50, .int 4, .ref 63]) (μ' := z_ui μ 50 0 0) (by rfl) ?_
              refine zq_gfi hc hH (by rfl) (ci := 6) (f := 45) (by rfl) (by decide +kernel) (by rfl) ?_
              refine zV1 (Z := Z) (ui_k (by first | decide | omega)) ?_
              rw [ht]
              refine z_rcs hc hH 3 (pc' := 77) (lv' := [(2, .int (nI j)), (0, .ref 50), (1, .int (nI k))]) (st' := [.int ((4 * (nI t)) + (nI j)), .ref 63]) (μ' := z_ui μ 50 0 0) (by rfl) ?_
              rw [nI_k4]
              refine zq_iald hc hH (by rfl) 16 (oka_i (by decide +kernel)) (vp_in_nI (by omega) (by decide)) ?_
              rw [nI_clamp (by omega)]
              refine zV1 (Z := Z) (ui_o (by first | decide | omega)) ?_
              refine z_rcs hc hH 1 (pc' := 79) (lv' := [(2, .int (nI j)), (0, .ref 50), (1, .int (nI k))]) (st' := [.int (nI k), .int (μ.1 63 (4 * t + j))]) (μ' := z_ui μ 50 0 0) (by rfl) ?_
              refine zq_ic hc hH (by rfl) (tg := 85) (by rfl) (fun h8 => ?_) (fun h8 => ?_)
              · have h8 : (decide ((μ.1 63 (4 * t + j)) = (nI k))) = true := decide_eq_true (cm_eq9.mp h8)
                exact absurd (show adF μ t k j = true from by simp only [adF, h7, h8, Bool.true_or, Bool.true_and, Bool.and_true, Bool.false_and, Bool.and_false, Bool.not_true, Bool.not_false, Bool.or_true, Bool.or_false, Bool.false_or, cond_true, cond_false]) (by rw [hfj j (by omega)]; decide)
              · have h8 : (decide ((μ.1 63 (4 * t + j)) = (nI k))) = false := decide_eq_false (cn_eq.mp h8)
                refine z_rcs hc hH 3 (pc' := 35) (lv' := [(2, .int ((nI j) + 1)), (0, .ref 50), (1, .int (nI k))]) (st' := []) (μ' := z_ui μ 50 0 0) (by rfl) ?_
                have e9 := ih (j + 1) (by omega)
                rw [nI_s1]
                exact e9
      exact hL i 0 (by omega)
    · have h2 : (decide ((μ.1 60 (34 * t + k)) = 0)) = true := decide_eq_true (cn_ne.mp h2)
      refine z_rcs hc hH 1 (pc' := 32) (lv' := [(0, .ref 50), (1, .int (nI k))]) (st' := [.int 0]) (μ' := z_ui μ 50 0 0) (by rfl) ?_
      exact hr 0 32 _ _ _ (some (.int 0)) (by decide +kernel) (z_rx_ok hH (by rfl)) (Or.inr ⟨by simp only [h1, h2, Bool.true_or, Bool.true_and, Bool.and_true, Bool.false_and, Bool.and_false, Bool.not_true, Bool.not_false, Bool.or_true, Bool.or_false, Bool.false_or, cond_true, cond_false], rfl, rfl⟩)
theorem gm_addN (d : Nat) (hd : 3 ≤ d) (μ : zM) (t : Nat) (ht4 : t < 4) (ht : μ.1 50 45 = nI t) (k q : Nat) (hk : k < 34) (hq : q ≤ 4) (e64 : μ.1 64 t = nI q) (mm : Bool) (hmm : ∀ d, 2 ≤ d → z_C d mi_X7_mayMake [.ref 50] (z_ui μ 50 0 0) (zR (z_ui μ 50 0 0) (.int (nB mm)))) (hfj : ∀ j, j < q → adF μ t k j = false) : z_C d mi_X7_add [.ref 50, .int (nI k)] μ (fun r μ' => r = some (.int 0) ∧ μ' = z_ui μ 50 0 0) := by
  refine z_C_in (by decide) (by omega) (fun d' Z ed hc hr => ?_)
  have hH : zH mi_X7_add zt_X7_add 79 7 3 := hh_X7_add
  refine z_rcs hc hH 2 (pc' := 2) (lv' := [(0, .ref 50), (1, .int (nI k))]) (st' := [.int 0, .ref 50]) (μ' := μ) (by rfl) ?_
  refine zq_pfi hc hH (by rfl) (ci := 6) (f := 0) (by rfl) (by decide +kernel) (by rfl) ?_
  show Z 0 5 [(0, .ref 50), (1, .int (nI k))] [] (z_ui μ 50 0 0)
  refine z_rcs hc hH 1 (pc' := 6) (lv' := [(0, .ref 50), (1, .int (nI k))]) (st' := [.ref 50]) (μ' := z_ui μ 50 0 0) (by rfl) ?_
  refine zq_call hc (z_cx_ok hH (by rfl)) (hmm d' (by omega)) (by decide +kernel) (fun r9 μ9 hq => ?_)
  obtain ⟨hμ9, rfl⟩ := hq
  rw [hμ9]
  clear hμ9 μ9
  show Z 0 9 [(0, .ref 50), (1, .int (nI k))] [.int (nB mm)] (z_ui μ 50 0 0)
  refine zq_if hc hH (by rfl) (tg := 31) (by rfl) (fun h1 => ?_) (fun h1 => ?_)
  · have h1 : (mm) = false := nB_z.mp (cm_eq9.mp h1)
    refine z_rcs hc hH 1 (pc' := 32) (lv' := [(0, .ref 50), (1, .int (nI k))]) (st' := [.int 0]) (μ' := z_ui μ 50 0 0) (by rfl) ?_
    exact hr 0 32 _ _ _ (some (.int 0)) (by decide +kernel) (z_rx_ok hH (by rfl)) (⟨rfl, rfl⟩)
  · have h1 : (mm) = true := nB_n.mp (cn_eq.mp h1)
    refine z_rcs hc hH 1 (pc' := 13) (lv' := [(0, .ref 50), (1, .int (nI k))]) (st' := [.int (nI k)]) (μ' := z_ui μ 50 0 0) (by rfl) ?_
    refine zq_call hc (z_cx_ok hH (by rfl)) (gm_isKindN d' (by omega) (z_ui μ 50 0 0) k hk) (by decide +kernel) (fun r9 μ9 hq => ?_)
    obtain ⟨hμ9, rfl⟩ := hq
    rw [hμ9]
    clear hμ9 μ9
    show Z 0 16 [(0, .ref 50), (1, .int (nI k))] [.int 1] (z_ui μ 50 0 0)
    refine z_rcs hc hH 3 (pc' := 21) (lv' := [(0, .ref 50), (1, .int (nI k))]) (st' := [.ref 50, .ref 50]) (μ' := z_ui μ 50 0 0) (by rfl) ?_
    refine zq_gfi hc hH (by rfl) (ci := 6) (f := 45) (by rfl) (by decide +kernel) (by rfl) ?_
    refine zV1 (Z := Z) (ui_k (by first | decide | omega)) ?_
    rw [ht]
    refine z_rcs hc hH 1 (pc' := 25) (lv' := [(0, .ref 50), (1, .int (nI k))]) (st' := [.int (nI k), .int (nI t), .ref 50]) (μ' := z_ui μ 50 0 0) (by rfl) ?_
    refine zq_call hc (z_cx_ok hH (by rfl)) (fc_X7_has_ d' (by omega) (z_ui μ 50 0 0) t k ht4 hk) (by decide +kernel) (fun r9 μ9 hq => ?_)
    obtain ⟨hμ9, rfl⟩ := hq
    rw [hμ9]
    clear hμ9 μ9
    rw [ui_o (by first | decide | omega)]
    show Z 0 28 [(0, .ref 50), (1, .int (nI k))] [.int (μ.1 60 (34 * t + k))] (z_ui μ 50 0 0)
    refine zq_if hc hH (by rfl) (tg := 33) (by rfl) (fun h2 => ?_) (fun h2 => ?_)
    · have h2 : (decide ((μ.1 60 (34 * t + k)) = 0)) = false := decide_eq_false (cm_ne.mp h2)
      refine z_rcs hc hH 2 (pc' := 35) (lv' := [(2, .int 0), (0, .ref 50), (1, .int (nI k))]) (st' := []) (μ' := z_ui μ 50 0 0) (by rfl) ?_
      have hL : ∀ n j, j + n = q → Z 0 35 [(2, .int (nI j)), (0, .ref 50), (1, .int (nI k))] [] (z_ui μ 50 0 0) := by
        intro n
        induction n with
        | zero =>
          intro j hj
          have hj : j = q := by omega
          refine z_rcs hc hH 2 (pc' := 37) (lv' := [(2, .int (nI j)), (0, .ref 50), (1, .int (nI k))]) (st' := [.ref 50, .int (nI j)]) (μ' := z_ui μ 50 0 0) (by rfl) ?_
          refine zq_gfr hc hH (by rfl) (ci := 6) (f := 32) (q := 64) (by rfl) (by decide +kernel) (by rfl) (by decide +kernel) ?_
          refine z_rcs hc hH 1 (pc' := 41) (lv' := [(2, .int (nI j)), (0, .ref 50), (1, .int (nI k))]) (st' := [.ref 50, .ref 64, .int (nI j)]) (μ' := z_ui μ 50 0 0) (by rfl) ?_
          refine zq_gfi hc hH (by rfl) (ci := 6) (f := 45) (by rfl) (by decide +kernel) (by rfl) ?_
          refine zV1 (Z := Z) (ui_k (by first | decide | omega)) ?_
          rw [ht]
          refine zq_iald hc hH (by rfl) 4 (oka_i (by decide +kernel)) (vp_in_nI (by omega) (by decide)) ?_
          rw [nI_clamp (by omega)]
          refine zV1 (Z := Z) (ui_o (by first | decide | omega)) ?_
          rw [e64]
          refine zq_ic hc hH (by rfl) (tg := 127) (by rfl) (fun h3 => ?_) (fun h3 => ?_)
          · have h3 : (decide ((nI q) ≤ (nI j))) = true := decide_eq_true (cm_ge.mp h3)
            refine z_rcs hc hH 1 (pc' := 128) (lv' := [(2, .int (nI j)), (0, .ref 50), (1, .int (nI k))]) (st' := [.int 0]) (μ' := z_ui μ 50 0 0) (by rfl) ?_
            exact hr 0 128 _ _ _ (some (.int 0)) (by decide +kernel) (z_rx_ok hH (by rfl)) (⟨rfl, rfl⟩)
          · have h3 : (decide ((nI q) ≤ (nI j))) = false := decide_eq_false (cn_ge.mp h3)
            exact absurd (Eq.trans (Eq.symm (kn_nle (by omega) (by omega) (by omega))) h3) (by decide)
        | succ n ih =>
          intro j hj
          refine z_rcs hc hH 2 (pc' := 37) (lv' := [(2, .int (nI j)), (0, .ref 50), (1, .int (nI k))]) (st' := [.ref 50, .int (nI j)]) (μ' := z_ui μ 50 0 0) (by rfl) ?_
          refine zq_gfr hc hH (by rfl) (ci := 6) (f := 32) (q := 64) (by rfl) (by decide +kernel) (by rfl) (by decide +kernel) ?_
          refine z_rcs hc hH 1 (pc' := 41) (lv' := [(2, .int (nI j)), (0, .ref 50), (1, .int (nI k))]) (st' := [.ref 50, .ref 64, .int (nI j)]) (μ' := z_ui μ 50 0 0) (by rfl) ?_
          refine zq_gfi hc hH (by rfl) (ci := 6) (f := 45) (by rfl) (by decide +kernel) (by rfl) ?_
          refine zV1 (Z := Z) (ui_k (by first | decide | omega)) ?_
          rw [ht]
          refine zq_iald hc hH (by rfl) 4 (oka_i (by decide +kernel)) (vp_in_nI (by omega) (by decide)) ?_
          rw [nI_clamp (by omega)]
          refine zV1 (Z := Z) (ui_o (by first | decide | omega)) ?_
          rw [e64]
          refine zq_ic hc hH (by rfl) (tg := 127) (by rfl) (fun h4 => ?_) (fun h4 => ?_)
          · have h4 : (decide ((nI q) ≤ (nI j))) = true := decide_eq_true (cm_ge.mp h4)
            exact absurd (Eq.trans (Eq.symm (kn_nlf (by omega) (by omega) (by omega))) h4) (by decide)
          · have h4 : (decide ((nI q) ≤ (nI j))) = false := decide_eq_false (cn_ge.mp h4)
            refine z_rcs hc hH 1 (pc' := 49) (lv' := [(2, .int (nI j)), (0, .ref 50), (1, .int (nI k))]) (st' := [.ref 50]) (μ' := z_ui μ 50 0 0) (by rfl) ?_
            refine zq_gfr hc hH (by rfl) (ci := 6) (f := 30) (q := 62) (by rfl) (by decide +kernel) (by rfl) (by decide +kernel) ?_
            refine z_rcs hc hH 2 (pc' := 54) (lv' := [(2, .int (nI j)), (0, .ref 50), (1, .int (nI k))]) (st' := [.ref 50, .int 4, .ref 62]) (μ' := z_ui μ 50 0 0) (by rfl) ?_
            refine zq_gfi hc hH (by rfl) (ci := 6) (f := 45) (by rfl) (by decide +kernel) (by rfl) ?_
            refine zV1 (Z := Z) (ui_k (by first | decide | omega)) ?_
            rw [ht]
            refine z_rcs hc hH 3 (pc' := 60) (lv' := [(2, .int (nI j)), (0, .ref 50), (1, .int (nI k))]) (st' := [.int ((4 * (nI t)) + (nI j)), .ref 62]) (μ' := z_ui μ 50 0 0) (by rfl) ?_
            rw [nI_k4]
            refine zq_iald hc hH (by rfl) 16 (oka_i (by decide +kernel)) (vp_in_nI (by omega) (by decide)) ?_
            rw [nI_clamp (by omega)]
            refine zV1 (Z := Z) (ui_o (by first | decide | omega)) ?_
            refine z_rcs hc hH 1 (pc' := 62) (lv' := [(2, .int (nI j)), (0, .ref 50), (1, .int (nI k))]) (st' := [.int 1, .int (μ.1 62 (4 * t + j))]) (μ' := z_ui μ 50 0 0) (by rfl) ?_
            refine zq_ic hc hH (by rfl) (tg := 121) (by rfl) (fun h5 => ?_) (fun h5 => ?_)
            · have h5 : (decide ((μ.1 62 (4 * t + j)) = 1)) = false := decide_eq_false (cm_ne.mp h5)
              refine z_rcs hc hH 2 (pc' := 35) (lv' := [(2, .int ((nI j) + 1)), (0, .ref 50), (1, .int (nI k))]) (st' := []) (μ' := z_ui μ 50 0 0) (by rfl) ?_
              have e9 := ih (j + 1) (by omega)
              rw [nI_s1]
              exact e9
            · have h5 : (decide ((μ.1 62 (4 * t + j)) = 1)) = true := decide_eq_true (cn_ne.mp h5)
              refine z_rcs hc hH 1 (pc' := 66) (lv' := [(2, .int (nI j)), (0, .ref 50), (1, .int (nI k))]) (st' := [.ref 50]) (μ' := z_ui μ 50 0 0) (by rfl) ?_
              refine zq_gfr hc hH (by rfl) (ci := 6) (f := 31) (q := 63) (by rfl) (by decide +kernel) (by rfl) (by decide +kernel) ?_
              refine z_rcs hc hH 2 (pc' := 71) (lv' := [(2, .int (nI j)), (0, .ref 50), (1, .int (nI k))]) (st' := [.ref 50, .int 4, .ref 63]) (μ' := z_ui μ 50 0 0) (by rfl) ?_
              refine zq_gfi hc hH (by rfl) (ci := 6) (f := 45) (by rfl) (by decide +kernel) (by rfl) ?_
              refine zV1 (Z := Z) (ui_k (by first | decide | omega)) ?_
              rw [ht]
              refine z_rcs hc hH 3 (pc' := 77) (lv' := [(2, .int (nI j)), (0, .ref 50), (1, .int (nI k))]) (st' := [.int ((4 * (nI t)) + (nI j)), .ref 63]) (μ' := z_ui μ 50 0 0) (by rfl) ?_
              rw [nI_k4]
              refine zq_iald hc hH (by rfl) 16 (oka_i (by decide +kernel)) (vp_in_nI (by omega) (by decide)) ?_
              rw [nI_clamp (by omega)]
              refine zV1 (Z := Z) (ui_o (by first | decide | omega)) ?_
              refine z_rcs hc hH 1 (pc' := 79) (lv' := [(2, .int (nI j)), (0, .ref 50), (1, .int (nI k))]) (st' := [.int (nI k), .int (μ.1 63 (4 * t + j))]) (μ' := z_ui μ 50 0 0) (by rfl) ?_
              refine zq_ic hc hH (by rfl) (tg := 85) (by rfl) (fun h6 => ?_) (fun h6 => ?_)
              · have h6 : (decide ((μ.1 63 (4 * t + j)) = (nI k))) = true := decide_eq_true (cm_eq9.mp h6)
                exact absurd (show adF μ t k j = true from by simp only [adF, h5, h6, Bool.true_or, Bool.true_and, Bool.and_true, Bool.false_and, Bool.and_false, Bool.not_true, Bool.not_false, Bool.or_true, Bool.or_false, Bool.false_or, cond_true, cond_false]) (by rw [hfj j (by omega)]; decide)
              · have h6 : (decide ((μ.1 63 (4 * t + j)) = (nI k))) = false := decide_eq_false (cn_eq.mp h6)
                refine z_rcs hc hH 3 (pc' := 35) (lv' := [(2, .int ((nI j) + 1)), (0, .ref 50), (1, .int (nI k))]) (st' := []) (μ' := z_ui μ 50 0 0) (by rfl) ?_
                have e9 := ih (j + 1) (by omega)
                rw [nI_s1]
                exact e9
      exact hL q 0 (by omega)
    · have h2 : (decide ((μ.1 60 (34 * t + k)) = 0)) = true := decide_eq_true (cn_ne.mp h2)
      refine z_rcs hc hH 1 (pc' := 32) (lv' := [(0, .ref 50), (1, .int (nI k))]) (st' := [.int 0]) (μ' := z_ui μ 50 0 0) (by rfl) ?_
      exact hr 0 32 _ _ _ (some (.int 0)) (by decide +kernel) (z_rx_ok hH (by rfl)) (⟨rfl, rfl⟩)
noncomputable abbrev ruC0 (μ : zM) (s l u1 : Nat) (mc ir cd : Bool) : Bool := (mc) && ((decide ((nI s) = (nI u1)))) && (ir) && (!(decide ((μ.1 60 (34 * s + (l + 1))) = 0))) && (!(decide ((μ.1 60 (34 * s + (l + 2))) = 0))) && (cd)
noncomputable def ruM0 (μ : zM) (s l : Nat) : zM := z_giv (z_giv (z_giv (z_giv (z_ui (z_ui (z_ui μ 50 0 0) 50 50 (nI l)) 50 51 (bif decide (6 ≤ ((nI l) - (nI l) / 9 * 9)) then (-1 : Int32) else nI (l + 3))) s (l + 1) (-1)) s (l + 2) (-1)) s (l + 1) 1) s (l + 2) 1
noncomputable def ruO0 (O : zM) (s l q : Nat) : zM := clM (z_giv (z_giv O s (l + 1) (-1)) s (l + 2) (-1)) s q 0 (nI l)
theorem gm_run0 (d : Nat) (hd : 702 ≤ d) (μ : zM) (s q l t u1 : Nat) (hs4 : s < 4) (hq4 : q < 4) (hl : l + 2 ≤ 33) (ht4 : t < 4) (ht : μ.1 50 45 = nI t) (hu1 : (t + 1) % 4 = u1) (hu14 : u1 < 4) (hc49 : μ.1 50 49 = nI l) (mc : Bool) (hmc : ∀ d, 2 ≤ d → z_C d mi_X7_mayClaim [.ref 50, .int (nI s)] (z_ui μ 50 0 0) (zR (z_ui μ 50 0 0) (.int (nB mc)))) (ir : Bool) (hir : ∀ d, 1 ≤ d → z_C d mi_X7_isRun [.int (nI l)] (z_ui μ 50 0 0) (zR (z_ui μ 50 0 0) (.int (nB ir)))) (cd : Bool) (hcd : ∀ d, 2 ≤ d → z_C d mi_X7_canDiscard [.ref 50, .int (nI s)] (z_giv (z_giv (z_ui (z_ui (z_ui μ 50 0 0) 50 50 (nI l)) 50 51 (bif decide (6 ≤ ((nI l) - (nI l) / 9 * 9)) then (-1 : Int32) else nI (l + 3))) s (l + 1) (-1)) s (l + 2) (-1)) (zR (z_giv (z_giv (z_ui (z_ui (z_ui μ 50 0 0) 50 50 (nI l)) 50 51 (bif decide (6 ≤ ((nI l) - (nI l) / 9 * 9)) then (-1 : Int32) else nI (l + 3))) s (l + 1) (-1)) s (l + 2) (-1)) (.int (nB cd)))) (O : zM) (hov : ∀ d, 701 ≤ d → z_C d mi_X7_over [.ref 50] (ruM0 μ s l) (fun r W => r = none ∧ SMj O W ∧ a_H W)) (o49 : O.1 50 49 = nI l) (o64 : O.1 64 s = nI q) : z_C d mi_X7_run [.ref 50, .int (nI s), .int (nI l)] μ (fun r μ' => (ruC0 μ s l u1 mc ir cd = true ∧ r = some (.int 1) ∧ SMj (ruO0 O s l q) μ') ∨ (ruC0 μ s l u1 mc ir cd = false ∧ r = some (.int 0) ∧ (μ' = z_ui μ 50 0 0 ∨ μ' = ruM0 μ s l))) := by
  refine z_C_in (by decide) (by omega) (fun d' Z ed hc hr => ?_)
  have hH : zH mi_X7_run zt_X7_run 79 7 5 := hh_X7_run
  refine z_rcs hc hH 2 (pc' := 2) (lv' := [(0, .ref 50), (1, .int (nI s)), (2, .int (nI l))]) (st' := [.int 0, .ref 50]) (μ' := μ) (by rfl) ?_
  refine zq_pfi hc hH (by rfl) (ci := 6) (f := 0) (by rfl) (by decide +kernel) (by rfl) ?_
  show Z 0 5 [(0, .ref 50), (1, .int (nI s)), (2, .int (nI l))] [] (z_ui μ 50 0 0)
  refine z_rcs hc hH 2 (pc' := 7) (lv' := [(0, .ref 50), (1, .int (nI s)), (2, .int (nI l))]) (st' := [.int (nI s), .ref 50]) (μ' := z_ui μ 50 0 0) (by rfl) ?_
  refine zq_call hc (z_cx_ok hH (by rfl)) (hmc d' (by omega)) (by decide +kernel) (fun r9 μ9 hq => ?_)
  obtain ⟨hμ9, rfl⟩ := hq
  rw [hμ9]
  clear hμ9 μ9
  show Z 0 10 [(0, .ref 50), (1, .int (nI s)), (2, .int (nI l))] [.int (nB mc)] (z_ui μ 50 0 0)
  refine zq_if hc hH (by rfl) (tg := 50) (by rfl) (fun h1 => ?_) (fun h1 => ?_)
  · have h1 : (mc) = false := nB_z.mp (cm_eq9.mp h1)
    refine z_rcs hc hH 1 (pc' := 51) (lv' := [(0, .ref 50), (1, .int (nI s)), (2, .int (nI l))]) (st' := [.int 0]) (μ' := z_ui μ 50 0 0) (by rfl) ?_
    exact hr 0 51 _ _ _ (some (.int 0)) (by decide +kernel) (z_rx_ok hH (by rfl)) (Or.inr ⟨by simp only [ruC0, h1, Bool.true_or, Bool.true_and, Bool.and_true, Bool.false_and, Bool.and_false, Bool.not_true, Bool.not_false, Bool.or_true, Bool.or_false, Bool.false_or, cond_true, cond_false], rfl, Or.inl rfl⟩)
  · have h1 : (mc) = true := nB_n.mp (cn_eq.mp h1)
    refine z_rcs hc hH 2 (pc' := 15) (lv' := [(0, .ref 50), (1, .int (nI s)), (2, .int (nI l))]) (st' := [.ref 50, .int (nI s)]) (μ' := z_ui μ 50 0 0) (by rfl) ?_
    refine zq_gfi hc hH (by rfl) (ci := 6) (f := 45) (by rfl) (by decide +kernel) (by rfl) ?_
    refine zV1 (Z := Z) (ui_k (by first | decide | omega)) ?_
    rw [ht]
    refine z_rcs hc hH 2 (pc' := 20) (lv' := [(0, .ref 50), (1, .int (nI s)), (2, .int (nI l))]) (st' := [.int ((nI t) + 1), .int (nI s)]) (μ' := z_ui μ 50 0 0) (by rfl) ?_
    rw [nI_s1]
    refine z_rcs hc hH 2 (pc' := 22) (lv' := [(0, .ref 50), (1, .int (nI s)), (2, .int (nI l))]) (st' := [.int ((nI (t + 1)) - (nI (t + 1)) / 4 * 4), .int (nI s)]) (μ' := z_ui μ 50 0 0) (by rfl) ?_
    rw [show nI (t + 1) - nI (t + 1) / 4 * 4 = nI u1 from by rw [rm4 _ (by omega), hu1]]
    refine zq_ic hc hH (by rfl) (tg := 50) (by rfl) (fun h2 => ?_) (fun h2 => ?_)
    · have h2 : (decide ((nI s) = (nI u1))) = false := decide_eq_false (cm_ne.mp h2)
      refine z_rcs hc hH 1 (pc' := 51) (lv' := [(0, .ref 50), (1, .int (nI s)), (2, .int (nI l))]) (st' := [.int 0]) (μ' := z_ui μ 50 0 0) (by rfl) ?_
      exact hr 0 51 _ _ _ (some (.int 0)) (by decide +kernel) (z_rx_ok hH (by rfl)) (Or.inr ⟨by simp only [ruC0, h1, h2, Bool.true_or, Bool.true_and, Bool.and_true, Bool.false_and, Bool.and_false, Bool.not_true, Bool.not_false, Bool.or_true, Bool.or_false, Bool.false_or, cond_true, cond_false], rfl, Or.inl rfl⟩)
    · have h2 : (decide ((nI s) = (nI u1))) = true := decide_eq_true (cn_ne.mp h2)
      refine z_rcs hc hH 1 (pc' := 26) (lv' := [(0, .ref 50), (1, .int (nI s)), (2, .int (nI l))]) (st' := [.int (nI l)]) (μ' := z_ui μ 50 0 0) (by rfl) ?_
      refine zq_call hc (z_cx_ok hH (by rfl)) (hir d' (by omega)) (by decide +kernel) (fun r9 μ9 hq => ?_)
      obtain ⟨hμ9, rfl⟩ := hq
      rw [hμ9]
      clear hμ9 μ9
      show Z 0 29 [(0, .ref 50), (1, .int (nI s)), (2, .int (nI l))] [.int (nB ir)] (z_ui μ 50 0 0)
      refine zq_if hc hH (by rfl) (tg := 50) (by rfl) (fun h3 => ?_) (fun h3 => ?_)
      · have h3 : (ir) = false := nB_z.mp (cm_eq9.mp h3)
        refine z_rcs hc hH 1 (pc' := 51) (lv' := [(0, .ref 50), (1, .int (nI s)), (2, .int (nI l))]) (st' := [.int 0]) (μ' := z_ui μ 50 0 0) (by rfl) ?_
        exact hr 0 51 _ _ _ (some (.int 0)) (by decide +kernel) (z_rx_ok hH (by rfl)) (Or.inr ⟨by simp only [ruC0, h1, h2, h3, Bool.true_or, Bool.true_and, Bool.and_true, Bool.false_and, Bool.and_false, Bool.not_true, Bool.not_false, Bool.or_true, Bool.or_false, Bool.false_or, cond_true, cond_false], rfl, Or.inl rfl⟩)
      · have h3 : (ir) = true := nB_n.mp (cn_eq.mp h3)
        refine z_rcs hc hH 1 (pc' := 33) (lv' := [(0, .ref 50), (1, .int (nI s)), (2, .int (nI l))]) (st' := [.ref 50]) (μ' := z_ui μ 50 0 0) (by rfl) ?_
        refine zq_gfi hc hH (by rfl) (ci := 6) (f := 49) (by rfl) (by decide +kernel) (by rfl) ?_
        refine zV1 (Z := Z) (ui_k (by first | decide | omega)) ?_
        rw [hc49]
        refine z_rcs hc hH 1 (pc' := 37) (lv' := [(0, .ref 50), (1, .int (nI s)), (2, .int (nI l))]) (st' := [.int (nI l), .int (nI l)]) (μ' := z_ui μ 50 0 0) (by rfl) ?_
        refine zq_ic hc hH (by rfl) (tg := 50) (by rfl) (fun h4 => ?_) (fun h4 => ?_)
        · have h4 : (decide ((nI l) < (nI l))) = true := decide_eq_true (cm_lt.mp h4)
          exact absurd (Eq.trans (Eq.symm (kn_nlg (by omega) (by omega) (by omega))) h4) (by decide)
        · have h4 : (decide ((nI l) < (nI l))) = false := decide_eq_false (cn_lt.mp h4)
          refine z_rcs hc hH 1 (pc' := 41) (lv' := [(0, .ref 50), (1, .int (nI s)), (2, .int (nI l))]) (st' := [.ref 50]) (μ' := z_ui μ 50 0 0) (by rfl) ?_
          refine zq_gfi hc hH (by rfl) (ci := 6) (f := 49) (by rfl) (by decide +kernel) (by rfl) ?_
          refine zV1 (Z := Z) (ui_k (by first | decide | omega)) ?_
          rw [hc49]
          refine z_rcs hc hH 3 (pc' := 47) (lv' := [(0, .ref 50), (1, .int (nI s)), (2, .int (nI l))]) (st' := [.int ((nI l) + 2), .int (nI l)]) (μ' := z_ui μ 50 0 0) (by rfl) ?_
          rw [show nI l + 2 = nI (l + 2) from nI_add l 2]
          refine zq_ic hc hH (by rfl) (tg := 52) (by rfl) (fun h5 => ?_) (fun h5 => ?_)
          · have h5 : (decide ((nI l) ≤ (nI (l + 2)))) = true := decide_eq_true (cm_le.mp h5)
            refine z_rcs hc hH 6 (pc' := 58) (lv' := [(3, .int (nI l)), (0, .ref 50), (1, .int (nI s)), (2, .int (nI l))]) (st' := [.int ((nI l) + 3), .int (nI l)]) (μ' := z_ui μ 50 0 0) (by rfl) ?_
            rw [show nI l + 3 = nI (l + 3) from nI_add l 3]
            refine zq_ic hc hH (by rfl) (tg := 86) (by rfl) (fun h6 => ?_) (fun h6 => ?_)
            · have h6 : (decide ((nI (l + 3)) ≤ (nI l))) = true := decide_eq_true (cm_ge.mp h6)
              exact absurd (Eq.trans (Eq.symm (kn_nlf (by omega) (by omega) (by omega))) h6) (by decide)
            · have h6 : (decide ((nI (l + 3)) ≤ (nI l))) = false := decide_eq_false (cn_ge.mp h6)
              refine z_rcs hc hH 2 (pc' := 63) (lv' := [(3, .int (nI l)), (0, .ref 50), (1, .int (nI s)), (2, .int (nI l))]) (st' := [.ref 50, .int (nI l)]) (μ' := z_ui μ 50 0 0) (by rfl) ?_
              refine zq_gfi hc hH (by rfl) (ci := 6) (f := 49) (by rfl) (by decide +kernel) (by rfl) ?_
              refine zV1 (Z := Z) (ui_k (by first | decide | omega)) ?_
              rw [hc49]
              refine zq_ic hc hH (by rfl) (tg := 80) (by rfl) (fun h7 => ?_) (fun h7 => ?_)
              · have h7 : (decide ((nI l) = (nI l))) = true := decide_eq_true (cm_eq9.mp h7)
                refine z_rcs hc hH 3 (pc' := 55) (lv' := [(3, .int ((nI l) + 1)), (0, .ref 50), (1, .int (nI s)), (2, .int (nI l))]) (st' := [.int ((nI l) + 1)]) (μ' := z_ui μ 50 0 0) (by rfl) ?_
                rw [nI_s1]
                refine z_rcs hc hH 3 (pc' := 58) (lv' := [(3, .int (nI (l + 1))), (0, .ref 50), (1, .int (nI s)), (2, .int (nI l))]) (st' := [.int ((nI l) + 3), .int (nI (l + 1))]) (μ' := z_ui μ 50 0 0) (by rfl) ?_
                rw [show nI l + 3 = nI (l + 3) from nI_add l 3]
                refine zq_ic hc hH (by rfl) (tg := 86) (by rfl) (fun h8 => ?_) (fun h8 => ?_)
                · have h8 : (decide ((nI (l + 3)) ≤ (nI (l + 1)))) = true := decide_eq_true (cm_ge.mp h8)
                  exact absurd (Eq.trans (Eq.symm (kn_nlf (by omega) (by omega) (by omega))) h8) (by decide)
                · have h8 : (decide ((nI (l + 3)) ≤ (nI (l + 1)))) = false := decide_eq_false (cn_ge.mp h8)
                  refine z_rcs hc hH 2 (pc' := 63) (lv' := [(3, .int (nI (l + 1))), (0, .ref 50), (1, .int (nI s)), (2, .int (nI l))]) (st' := [.ref 50, .int (nI (l + 1))]) (μ' := z_ui μ 50 0 0) (by rfl) ?_
                  refine zq_gfi hc hH (by rfl) (ci := 6) (f := 49) (by rfl) (by decide +kernel) (by rfl) ?_
                  refine zV1 (Z := Z) (ui_k (by first | decide | omega)) ?_
                  rw [hc49]
                  refine zq_ic hc hH (by rfl) (tg := 80) (by rfl) (fun h9 => ?_) (fun h9 => ?_)
                  · have h9 : (decide ((nI (l + 1)) = (nI l))) = true := decide_eq_true (cm_eq9.mp h9)
                    exact absurd (Eq.trans (Eq.symm (kn_ne (by omega) (by omega) (by omega))) h9) (by decide)
                  · have h9 : (decide ((nI (l + 1)) = (nI l))) = false := decide_eq_false (cn_eq.mp h9)
                    refine z_rcs hc hH 3 (pc' := 72) (lv' := [(3, .int (nI (l + 1))), (0, .ref 50), (1, .int (nI s)), (2, .int (nI l))]) (st' := [.int (nI (l + 1)), .int (nI s), .ref 50]) (μ' := z_ui μ 50 0 0) (by rfl) ?_
                    refine zq_call hc (z_cx_ok hH (by rfl)) (fc_X7_has_ d' (by omega) (z_ui μ 50 0 0) s (l + 1) hs4 (by omega)) (by decide +kernel) (fun r9 μ9 hq => ?_)
                    obtain ⟨hμ9, rfl⟩ := hq
                    rw [hμ9]
                    clear hμ9 μ9
                    rw [ui_o (by first | decide | omega)]
                    show Z 0 75 [(3, .int (nI (l + 1))), (0, .ref 50), (1, .int (nI s)), (2, .int (nI l))] [.int (μ.1 60 (34 * s + (l + 1)))] (z_ui μ 50 0 0)
                    refine zq_if hc hH (by rfl) (tg := 80) (by rfl) (fun h10 => ?_) (fun h10 => ?_)
                    · have h10 : (decide ((μ.1 60 (34 * s + (l + 1))) = 0)) = false := decide_eq_false (cm_ne.mp h10)
                      refine z_rcs hc hH 3 (pc' := 55) (lv' := [(3, .int ((nI (l + 1)) + 1)), (0, .ref 50), (1, .int (nI s)), (2, .int (nI l))]) (st' := [.int ((nI (l + 1)) + 1)]) (μ' := z_ui μ 50 0 0) (by rfl) ?_
                      rw [show nI (l + 1) + 1 = nI (l + 2) from nI_s1 _]
                      refine z_rcs hc hH 3 (pc' := 58) (lv' := [(3, .int (nI (l + 2))), (0, .ref 50), (1, .int (nI s)), (2, .int (nI l))]) (st' := [.int ((nI l) + 3), .int (nI (l + 2))]) (μ' := z_ui μ 50 0 0) (by rfl) ?_
                      rw [show nI l + 3 = nI (l + 3) from nI_add l 3]
                      refine zq_ic hc hH (by rfl) (tg := 86) (by rfl) (fun h11 => ?_) (fun h11 => ?_)
                      · have h11 : (decide ((nI (l + 3)) ≤ (nI (l + 2)))) = true := decide_eq_true (cm_ge.mp h11)
                        exact absurd (Eq.trans (Eq.symm (kn_nlf (by omega) (by omega) (by omega))) h11) (by decide)
                      · have h11 : (decide ((nI (l + 3)) ≤ (nI (l + 2)))) = false := decide_eq_false (cn_ge.mp h11)
                        refine z_rcs hc hH 2 (pc' := 63) (lv' := [(3, .int (nI (l + 2))), (0, .ref 50), (1, .int (nI s)), (2, .int (nI l))]) (st' := [.ref 50, .int (nI (l + 2))]) (μ' := z_ui μ 50 0 0) (by rfl) ?_
                        refine zq_gfi hc hH (by rfl) (ci := 6) (f := 49) (by rfl) (by decide +kernel) (by rfl) ?_
                        refine zV1 (Z := Z) (ui_k (by first | decide | omega)) ?_
                        rw [hc49]
                        refine zq_ic hc hH (by rfl) (tg := 80) (by rfl) (fun h12 => ?_) (fun h12 => ?_)
                        · have h12 : (decide ((nI (l + 2)) = (nI l))) = true := decide_eq_true (cm_eq9.mp h12)
                          exact absurd (Eq.trans (Eq.symm (kn_ne (by omega) (by omega) (by omega))) h12) (by decide)
                        · have h12 : (decide ((nI (l + 2)) = (nI l))) = false := decide_eq_false (cn_eq.mp h12)
                          refine z_rcs hc hH 3 (pc' := 72) (lv' := [(3, .int (nI (l + 2))), (0, .ref 50), (1, .int (nI s)), (2, .int (nI l))]) (st' := [.int (nI (l + 2)), .int (nI s), .ref 50]) (μ' := z_ui μ 50 0 0) (by rfl) ?_
                          refine zq_call hc (z_cx_ok hH (by rfl)) (fc_X7_has_ d' (by omega) (z_ui μ 50 0 0) s (l + 2) hs4 (by omega)) (by decide +kernel) (fun r9 μ9 hq => ?_)
                          obtain ⟨hμ9, rfl⟩ := hq
                          rw [hμ9]
                          clear hμ9 μ9
                          rw [ui_o (by first | decide | omega)]
                          show Z 0 75 [(3, .int (nI (l + 2))), (0, .ref 50), (1, .int (nI s)), (2, .int (nI l))] [.int (μ.1 60 (34 * s + (l + 2)))] (z_ui μ 50 0 0)
                          refine zq_if hc hH (by rfl) (tg := 80) (by rfl) (fun h13 => ?_) (fun h13 => ?_)
                          · have h13 : (decide ((μ.1 60 (34 * s + (l + 2))) = 0)) = false := decide_eq_false (cm_ne.mp h13)
                            refine z_rcs hc hH 3 (pc' := 55) (lv' := [(3, .int ((nI (l + 2)) + 1)), (0, .ref 50), (1, .int (nI s)), (2, .int (nI l))]) (st' := [.int ((nI (l + 2)) + 1)]) (μ' := z_ui μ 50 0 0) (by rfl) ?_
                            rw [show nI (l + 2) + 1 = nI (l + 3) from nI_s1 _]
                            refine z_rcs hc hH 3 (pc' := 58) (lv' := [(3, .int (nI (l + 3))), (0, .ref 50), (1, .int (nI s)), (2, .int (nI l))]) (st' := [.int ((nI l) + 3), .int (nI (l + 3))]) (μ' := z_ui μ 50 0 0) (by rfl) ?_
                            rw [show nI l + 3 = nI (l + 3) from nI_add l 3]
                            refine zq_ic hc hH (by rfl) (tg := 86) (by rfl) (fun h14 => ?_) (fun h14 => ?_)
                            · have h14 : (decide ((nI (l + 3)) ≤ (nI (l + 3)))) = true := decide_eq_true (cm_ge.mp h14)
                              refine z_rcs hc hH 2 (pc' := 88) (lv' := [(3, .int (nI (l + 3))), (0, .ref 50), (1, .int (nI s)), (2, .int (nI l))]) (st' := [.ref 50, .ref 50]) (μ' := z_ui μ 50 0 0) (by rfl) ?_
                              refine zq_gfi hc hH (by rfl) (ci := 6) (f := 49) (by rfl) (by decide +kernel) (by rfl) ?_
                              refine zV1 (Z := Z) (ui_k (by first | decide | omega)) ?_
                              rw [hc49]
                              refine zq_pfi hc hH (by rfl) (ci := 6) (f := 50) (by rfl) (by decide +kernel) (by rfl) ?_
                              show Z 0 94 [(3, .int (nI (l + 3))), (0, .ref 50), (1, .int (nI s)), (2, .int (nI l))] [] (z_ui (z_ui μ 50 0 0) 50 50 (nI l))
                              refine z_rcs0 hc hH 2 (pc' := 96) (lv' := [(3, .int (nI (l + 3))), (0, .ref 50), (1, .int (nI s)), (2, .int (nI l))]) (st' := [.ref 50, .ref 50]) (by rfl) ?_
                              refine zq_gfi hc hH (by rfl) (ci := 6) (f := 49) (by rfl) (by decide +kernel) (by rfl) ?_
                              refine zV1 (Z := Z) (Eq.trans (ui_k (by first | decide | omega)) (ui_k (by first | decide | omega))) ?_
                              rw [hc49]
                              refine z_rcs0 hc hH 1 (pc' := 100) (lv' := [(3, .int (nI (l + 3))), (0, .ref 50), (1, .int (nI s)), (2, .int (nI l))]) (st' := [.int (nI l), .int (nI l), .ref 50]) (by rfl) ?_
                              refine zq_ic hc hH (by rfl) (tg := 118) (by rfl) (fun h15 => ?_) (fun h15 => ?_)
                              · have h15 : (decide ((nI l) = (nI l))) = false := decide_eq_false (cm_ne.mp h15)
                                exact absurd (Eq.trans (Eq.symm (kn_eq rfl)) h15) (by decide)
                              · have h15 : (decide ((nI l) = (nI l))) = true := decide_eq_true (cn_ne.mp h15)
                                refine z_rcs0 hc hH 4 (pc' := 109) (lv' := [(3, .int (nI (l + 3))), (0, .ref 50), (1, .int (nI s)), (2, .int (nI l))]) (st' := [.int 6, .int ((nI l) - (nI l) / 9 * 9), .ref 50]) (by rfl) ?_
                                have hJ16 : Z 0 142 [(3, .int (nI (l + 3))), (0, .ref 50), (1, .int (nI s)), (2, .int (nI l))] [.int (bif decide (6 ≤ ((nI l) - (nI l) / 9 * 9)) then (-1 : Int32) else nI (l + 3)), .ref 50] (z_ui (z_ui μ 50 0 0) 50 50 (nI l)) := by
                                  refine zq_pfi hc hH (by rfl) (ci := 6) (f := 51) (by rfl) (by decide +kernel) (by rfl) ?_
                                  show Z 0 145 [(3, .int (nI (l + 3))), (0, .ref 50), (1, .int (nI s)), (2, .int (nI l))] [] (z_ui (z_ui (z_ui μ 50 0 0) 50 50 (nI l)) 50 51 (bif decide (6 ≤ ((nI l) - (nI l) / 9 * 9)) then (-1 : Int32) else nI (l + 3)))
                                  refine z_rcs0 hc hH 6 (pc' := 151) (lv' := [(3, .int (nI l)), (0, .ref 50), (1, .int (nI s)), (2, .int (nI l))]) (st' := [.int ((nI l) + 3), .int (nI l)]) (by rfl) ?_
                                  rw [show nI l + 3 = nI (l + 3) from nI_add l 3]
                                  refine zq_ic hc hH (by rfl) (tg := 175) (by rfl) (fun h17 => ?_) (fun h17 => ?_)
                                  · have h17 : (decide ((nI (l + 3)) ≤ (nI l))) = true := decide_eq_true (cm_ge.mp h17)
                                    exact absurd (Eq.trans (Eq.symm (kn_nlf (by omega) (by omega) (by omega))) h17) (by decide)
                                  · have h17 : (decide ((nI (l + 3)) ≤ (nI l))) = false := decide_eq_false (cn_ge.mp h17)
                                    refine z_rcs0 hc hH 2 (pc' := 156) (lv' := [(3, .int (nI l)), (0, .ref 50), (1, .int (nI s)), (2, .int (nI l))]) (st' := [.ref 50, .int (nI l)]) (by rfl) ?_
                                    refine zq_gfi hc hH (by rfl) (ci := 6) (f := 49) (by rfl) (by decide +kernel) (by rfl) ?_
                                    refine zV1 (Z := Z) (Eq.trans (ui_k (by first | decide | omega)) (Eq.trans (ui_k (by first | decide | omega)) (ui_k (by first | decide | omega)))) ?_
                                    rw [hc49]
                                    refine zq_ic hc hH (by rfl) (tg := 169) (by rfl) (fun h18 => ?_) (fun h18 => ?_)
                                    · have h18 : (decide ((nI l) = (nI l))) = true := decide_eq_true (cm_eq9.mp h18)
                                      refine z_rcs0 hc hH 3 (pc' := 148) (lv' := [(3, .int ((nI l) + 1)), (0, .ref 50), (1, .int (nI s)), (2, .int (nI l))]) (st' := [.int ((nI l) + 1)]) (by rfl) ?_
                                      rw [nI_s1]
                                      refine z_rcs0 hc hH 3 (pc' := 151) (lv' := [(3, .int (nI (l + 1))), (0, .ref 50), (1, .int (nI s)), (2, .int (nI l))]) (st' := [.int ((nI l) + 3), .int (nI (l + 1))]) (by rfl) ?_
                                      rw [show nI l + 3 = nI (l + 3) from nI_add l 3]
                                      refine zq_ic hc hH (by rfl) (tg := 175) (by rfl) (fun h19 => ?_) (fun h19 => ?_)
                                      · have h19 : (decide ((nI (l + 3)) ≤ (nI (l + 1)))) = true := decide_eq_true (cm_ge.mp h19)
                                        exact absurd (Eq.trans (Eq.symm (kn_nlf (by omega) (by omega) (by omega))) h19) (by decide)
                                      · have h19 : (decide ((nI (l + 3)) ≤ (nI (l + 1)))) = false := decide_eq_false (cn_ge.mp h19)
                                        refine z_rcs0 hc hH 2 (pc' := 156) (lv' := [(3, .int (nI (l + 1))), (0, .ref 50), (1, .int (nI s)), (2, .int (nI l))]) (st' := [.ref 50, .int (nI (l + 1))]) (by rfl) ?_
                                        refine zq_gfi hc hH (by rfl) (ci := 6) (f := 49) (by rfl) (by decide +kernel) (by rfl) ?_
                                        refine zV1 (Z := Z) (Eq.trans (ui_k (by first | decide | omega)) (Eq.trans (ui_k (by first | decide | omega)) (ui_k (by first | decide | omega)))) ?_
                                        rw [hc49]
                                        refine zq_ic hc hH (by rfl) (tg := 169) (by rfl) (fun h20 => ?_) (fun h20 => ?_)
                                        · have h20 : (decide ((nI (l + 1)) = (nI l))) = true := decide_eq_true (cm_eq9.mp h20)
                                          exact absurd (Eq.trans (Eq.symm (kn_ne (by omega) (by omega) (by omega))) h20) (by decide)
                                        · have h20 : (decide ((nI (l + 1)) = (nI l))) = false := decide_eq_false (cn_eq.mp h20)
                                          refine z_rcs0 hc hH 4 (pc' := 166) (lv' := [(3, .int (nI (l + 1))), (0, .ref 50), (1, .int (nI s)), (2, .int (nI l))]) (st' := [.int (-1), .int (nI (l + 1)), .int (nI s), .ref 50]) (by rfl) ?_
                                          refine zq_call hc (z_cx_ok hH (by rfl)) (fc_X7_gives d' (by omega) (z_ui (z_ui (z_ui μ 50 0 0) 50 50 (nI l)) 50 51 (bif decide (6 ≤ ((nI l) - (nI l) / 9 * 9)) then (-1 : Int32) else nI (l + 3))) s (l + 1) (-1) hs4 (by omega)) (by decide +kernel) (fun r9 μ9 hq => ?_)
                                          obtain ⟨rfl, rfl⟩ := hq
                                          show Z 0 169 [(3, .int (nI (l + 1))), (0, .ref 50), (1, .int (nI s)), (2, .int (nI l))] [] (z_giv (z_ui (z_ui (z_ui μ 50 0 0) 50 50 (nI l)) 50 51 (bif decide (6 ≤ ((nI l) - (nI l) / 9 * 9)) then (-1 : Int32) else nI (l + 3))) s (l + 1) (-1))
                                          refine z_rcs0 hc hH 3 (pc' := 148) (lv' := [(3, .int ((nI (l + 1)) + 1)), (0, .ref 50), (1, .int (nI s)), (2, .int (nI l))]) (st' := [.int ((nI (l + 1)) + 1)]) (by rfl) ?_
                                          rw [show nI (l + 1) + 1 = nI (l + 2) from nI_s1 _]
                                          refine z_rcs0 hc hH 3 (pc' := 151) (lv' := [(3, .int (nI (l + 2))), (0, .ref 50), (1, .int (nI s)), (2, .int (nI l))]) (st' := [.int ((nI l) + 3), .int (nI (l + 2))]) (by rfl) ?_
                                          rw [show nI l + 3 = nI (l + 3) from nI_add l 3]
                                          refine zq_ic hc hH (by rfl) (tg := 175) (by rfl) (fun h21 => ?_) (fun h21 => ?_)
                                          · have h21 : (decide ((nI (l + 3)) ≤ (nI (l + 2)))) = true := decide_eq_true (cm_ge.mp h21)
                                            exact absurd (Eq.trans (Eq.symm (kn_nlf (by omega) (by omega) (by omega))) h21) (by decide)
                                          · have h21 : (decide ((nI (l + 3)) ≤ (nI (l + 2)))) = false := decide_eq_false (cn_ge.mp h21)
                                            refine z_rcs0 hc hH 2 (pc' := 156) (lv' := [(3, .int (nI (l + 2))), (0, .ref 50), (1, .int (nI s)), (2, .int (nI l))]) (st' := [.ref 50, .int (nI (l + 2))]) (by rfl) ?_
                                            refine zq_gfi hc hH (by rfl) (ci := 6) (f := 49) (by rfl) (by decide +kernel) (by rfl) ?_
                                            refine zV1 (Z := Z) (Eq.trans (giv_o (by first | decide | omega)) (Eq.trans (ui_k (by first | decide | omega)) (Eq.trans (ui_k (by first | decide | omega)) (ui_k (by first | decide | omega))))) ?_
                                            rw [hc49]
                                            refine zq_ic hc hH (by rfl) (tg := 169) (by rfl) (fun h22 => ?_) (fun h22 => ?_)
                                            · have h22 : (decide ((nI (l + 2)) = (nI l))) = true := decide_eq_true (cm_eq9.mp h22)
                                              exact absurd (Eq.trans (Eq.symm (kn_ne (by omega) (by omega) (by omega))) h22) (by decide)
                                            · have h22 : (decide ((nI (l + 2)) = (nI l))) = false := decide_eq_false (cn_eq.mp h22)
                                              refine z_rcs0 hc hH 4 (pc' := 166) (lv' := [(3, .int (nI (l + 2))), (0, .ref 50), (1, .int (nI s)), (2, .int (nI l))]) (st' := [.int (-1), .int (nI (l + 2)), .int (nI s), .ref 50]) (by rfl) ?_
                                              refine zq_call hc (z_cx_ok hH (by rfl)) (fc_X7_gives d' (by omega) (z_giv (z_ui (z_ui (z_ui μ 50 0 0) 50 50 (nI l)) 50 51 (bif decide (6 ≤ ((nI l) - (nI l) / 9 * 9)) then (-1 : Int32) else nI (l + 3))) s (l + 1) (-1)) s (l + 2) (-1) hs4 (by omega)) (by decide +kernel) (fun r9 μ9 hq => ?_)
                                              obtain ⟨rfl, rfl⟩ := hq
                                              show Z 0 169 [(3, .int (nI (l + 2))), (0, .ref 50), (1, .int (nI s)), (2, .int (nI l))] [] (z_giv (z_giv (z_ui (z_ui (z_ui μ 50 0 0) 50 50 (nI l)) 50 51 (bif decide (6 ≤ ((nI l) - (nI l) / 9 * 9)) then (-1 : Int32) else nI (l + 3))) s (l + 1) (-1)) s (l + 2) (-1))
                                              refine z_rcs0 hc hH 3 (pc' := 148) (lv' := [(3, .int ((nI (l + 2)) + 1)), (0, .ref 50), (1, .int (nI s)), (2, .int (nI l))]) (st' := [.int ((nI (l + 2)) + 1)]) (by rfl) ?_
                                              rw [show nI (l + 2) + 1 = nI (l + 3) from nI_s1 _]
                                              refine z_rcs0 hc hH 3 (pc' := 151) (lv' := [(3, .int (nI (l + 3))), (0, .ref 50), (1, .int (nI s)), (2, .int (nI l))]) (st' := [.int ((nI l) + 3), .int (nI (l + 3))]) (by rfl) ?_
                                              rw [show nI l + 3 = nI (l + 3) from nI_add l 3]
                                              refine zq_ic hc hH (by rfl) (tg := 175) (by rfl) (fun h23 => ?_) (fun h23 => ?_)
                                              · have h23 : (decide ((nI (l + 3)) ≤ (nI (l + 3)))) = true := decide_eq_true (cm_ge.mp h23)
                                                refine z_rcs0 hc hH 2 (pc' := 177) (lv' := [(3, .int (nI (l + 3))), (0, .ref 50), (1, .int (nI s)), (2, .int (nI l))]) (st' := [.int (nI s), .ref 50]) (by rfl) ?_
                                                refine zq_call hc (z_cx_ok hH (by rfl)) (hcd d' (by omega)) (by decide +kernel) (fun r9 μ9 hq => ?_)
                                                obtain ⟨hμ9, rfl⟩ := hq
                                                rw [hμ9]
                                                clear hμ9 μ9
                                                show Z 0 180 [(3, .int (nI (l + 3))), (0, .ref 50), (1, .int (nI s)), (2, .int (nI l))] [.int (nB cd)] _
                                                refine z_rcs0 hc hH 7 (pc' := 189) (lv' := [(4, .int (nI l)), (3, .int (nB cd)), (0, .ref 50), (1, .int (nI s)), (2, .int (nI l))]) (st' := [.int ((nI l) + 3), .int (nI l)]) (by rfl) ?_
                                                rw [show nI l + 3 = nI (l + 3) from nI_add l 3]
                                                refine zq_ic hc hH (by rfl) (tg := 215) (by rfl) (fun h24 => ?_) (fun h24 => ?_)
                                                · have h24 : (decide ((nI (l + 3)) ≤ (nI l))) = true := decide_eq_true (cm_ge.mp h24)
                                                  exact absurd (Eq.trans (Eq.symm (kn_nlf (by omega) (by omega) (by omega))) h24) (by decide)
                                                · have h24 : (decide ((nI (l + 3)) ≤ (nI l))) = false := decide_eq_false (cn_ge.mp h24)
                                                  refine z_rcs0 hc hH 2 (pc' := 195) (lv' := [(4, .int (nI l)), (3, .int (nB cd)), (0, .ref 50), (1, .int (nI s)), (2, .int (nI l))]) (st' := [.ref 50, .int (nI l)]) (by rfl) ?_
                                                  refine zq_gfi hc hH (by rfl) (ci := 6) (f := 49) (by rfl) (by decide +kernel) (by rfl) ?_
                                                  refine zV1 (Z := Z) (Eq.trans (giv_o (by first | decide | omega)) (Eq.trans (giv_o (by first | decide | omega)) (Eq.trans (ui_k (by first | decide | omega)) (Eq.trans (ui_k (by first | decide | omega)) (ui_k (by first | decide | omega)))))) ?_
                                                  rw [hc49]
                                                  refine zq_ic hc hH (by rfl) (tg := 209) (by rfl) (fun h25 => ?_) (fun h25 => ?_)
                                                  · have h25 : (decide ((nI l) = (nI l))) = true := decide_eq_true (cm_eq9.mp h25)
                                                    refine z_rcs0 hc hH 3 (pc' := 186) (lv' := [(4, .int ((nI l) + 1)), (3, .int (nB cd)), (0, .ref 50), (1, .int (nI s)), (2, .int (nI l))]) (st' := [.int ((nI l) + 1)]) (by rfl) ?_
                                                    rw [nI_s1]
                                                    refine z_rcs0 hc hH 3 (pc' := 189) (lv' := [(4, .int (nI (l + 1))), (3, .int (nB cd)), (0, .ref 50), (1, .int (nI s)), (2, .int (nI l))]) (st' := [.int ((nI l) + 3), .int (nI (l + 1))]) (by rfl) ?_
                                                    rw [show nI l + 3 = nI (l + 3) from nI_add l 3]
                                                    refine zq_ic hc hH (by rfl) (tg := 215) (by rfl) (fun h26 => ?_) (fun h26 => ?_)
                                                    · have h26 : (decide ((nI (l + 3)) ≤ (nI (l + 1)))) = true := decide_eq_true (cm_ge.mp h26)
                                                      exact absurd (Eq.trans (Eq.symm (kn_nlf (by omega) (by omega) (by omega))) h26) (by decide)
                                                    · have h26 : (decide ((nI (l + 3)) ≤ (nI (l + 1)))) = false := decide_eq_false (cn_ge.mp h26)
                                                      refine z_rcs0 hc hH 2 (pc' := 195) (lv' := [(4, .int (nI (l + 1))), (3, .int (nB cd)), (0, .ref 50), (1, .int (nI s)), (2, .int (nI l))]) (st' := [.ref 50, .int (nI (l + 1))]) (by rfl) ?_
                                                      refine zq_gfi hc hH (by rfl) (ci := 6) (f := 49) (by rfl) (by decide +kernel) (by rfl) ?_
                                                      refine zV1 (Z := Z) (Eq.trans (giv_o (by first | decide | omega)) (Eq.trans (giv_o (by first | decide | omega)) (Eq.trans (ui_k (by first | decide | omega)) (Eq.trans (ui_k (by first | decide | omega)) (ui_k (by first | decide | omega)))))) ?_
                                                      rw [hc49]
                                                      refine zq_ic hc hH (by rfl) (tg := 209) (by rfl) (fun h27 => ?_) (fun h27 => ?_)
                                                      · have h27 : (decide ((nI (l + 1)) = (nI l))) = true := decide_eq_true (cm_eq9.mp h27)
                                                        exact absurd (Eq.trans (Eq.symm (kn_ne (by omega) (by omega) (by omega))) h27) (by decide)
                                                      · have h27 : (decide ((nI (l + 1)) = (nI l))) = false := decide_eq_false (cn_eq.mp h27)
                                                        refine z_rcs0 hc hH 4 (pc' := 206) (lv' := [(4, .int (nI (l + 1))), (3, .int (nB cd)), (0, .ref 50), (1, .int (nI s)), (2, .int (nI l))]) (st' := [.int 1, .int (nI (l + 1)), .int (nI s), .ref 50]) (by rfl) ?_
                                                        refine zq_call hc (z_cx_ok hH (by rfl)) (fc_X7_gives d' (by omega) (z_giv (z_giv (z_ui (z_ui (z_ui μ 50 0 0) 50 50 (nI l)) 50 51 (bif decide (6 ≤ ((nI l) - (nI l) / 9 * 9)) then (-1 : Int32) else nI (l + 3))) s (l + 1) (-1)) s (l + 2) (-1)) s (l + 1) 1 hs4 (by omega)) (by decide +kernel) (fun r9 μ9 hq => ?_)
                                                        obtain ⟨rfl, rfl⟩ := hq
                                                        show Z 0 209 [(4, .int (nI (l + 1))), (3, .int (nB cd)), (0, .ref 50), (1, .int (nI s)), (2, .int (nI l))] [] (z_giv (z_giv (z_giv (z_ui (z_ui (z_ui μ 50 0 0) 50 50 (nI l)) 50 51 (bif decide (6 ≤ ((nI l) - (nI l) / 9 * 9)) then (-1 : Int32) else nI (l + 3))) s (l + 1) (-1)) s (l + 2) (-1)) s (l + 1) 1)
                                                        refine z_rcs0 hc hH 3 (pc' := 186) (lv' := [(4, .int ((nI (l + 1)) + 1)), (3, .int (nB cd)), (0, .ref 50), (1, .int (nI s)), (2, .int (nI l))]) (st' := [.int ((nI (l + 1)) + 1)]) (by rfl) ?_
                                                        rw [show nI (l + 1) + 1 = nI (l + 2) from nI_s1 _]
                                                        refine z_rcs0 hc hH 3 (pc' := 189) (lv' := [(4, .int (nI (l + 2))), (3, .int (nB cd)), (0, .ref 50), (1, .int (nI s)), (2, .int (nI l))]) (st' := [.int ((nI l) + 3), .int (nI (l + 2))]) (by rfl) ?_
                                                        rw [show nI l + 3 = nI (l + 3) from nI_add l 3]
                                                        refine zq_ic hc hH (by rfl) (tg := 215) (by rfl) (fun h28 => ?_) (fun h28 => ?_)
                                                        · have h28 : (decide ((nI (l + 3)) ≤ (nI (l + 2)))) = true := decide_eq_true (cm_ge.mp h28)
                                                          exact absurd (Eq.trans (Eq.symm (kn_nlf (by omega) (by omega) (by omega))) h28) (by decide)
                                                        · have h28 : (decide ((nI (l + 3)) ≤ (nI (l + 2)))) = false := decide_eq_false (cn_ge.mp h28)
                                                          refine z_rcs0 hc hH 2 (pc' := 195) (lv' := [(4, .int (nI (l + 2))), (3, .int (nB cd)), (0, .ref 50), (1, .int (nI s)), (2, .int (nI l))]) (st' := [.ref 50, .int (nI (l + 2))]) (by rfl) ?_
                                                          refine zq_gfi hc hH (by rfl) (ci := 6) (f := 49) (by rfl) (by decide +kernel) (by rfl) ?_
                                                          refine zV1 (Z := Z) (Eq.trans (giv_o (by first | decide | omega)) (Eq.trans (giv_o (by first | decide | omega)) (Eq.trans (giv_o (by first | decide | omega)) (Eq.trans (ui_k (by first | decide | omega)) (Eq.trans (ui_k (by first | decide | omega)) (ui_k (by first | decide | omega))))))) ?_
                                                          rw [hc49]
                                                          refine zq_ic hc hH (by rfl) (tg := 209) (by rfl) (fun h29 => ?_) (fun h29 => ?_)
                                                          · have h29 : (decide ((nI (l + 2)) = (nI l))) = true := decide_eq_true (cm_eq9.mp h29)
                                                            exact absurd (Eq.trans (Eq.symm (kn_ne (by omega) (by omega) (by omega))) h29) (by decide)
                                                          · have h29 : (decide ((nI (l + 2)) = (nI l))) = false := decide_eq_false (cn_eq.mp h29)
                                                            refine z_rcs0 hc hH 4 (pc' := 206) (lv' := [(4, .int (nI (l + 2))), (3, .int (nB cd)), (0, .ref 50), (1, .int (nI s)), (2, .int (nI l))]) (st' := [.int 1, .int (nI (l + 2)), .int (nI s), .ref 50]) (by rfl) ?_
                                                            refine zq_call hc (z_cx_ok hH (by rfl)) (fc_X7_gives d' (by omega) (z_giv (z_giv (z_giv (z_ui (z_ui (z_ui μ 50 0 0) 50 50 (nI l)) 50 51 (bif decide (6 ≤ ((nI l) - (nI l) / 9 * 9)) then (-1 : Int32) else nI (l + 3))) s (l + 1) (-1)) s (l + 2) (-1)) s (l + 1) 1) s (l + 2) 1 hs4 (by omega)) (by decide +kernel) (fun r9 μ9 hq => ?_)
                                                            obtain ⟨rfl, rfl⟩ := hq
                                                            show Z 0 209 [(4, .int (nI (l + 2))), (3, .int (nB cd)), (0, .ref 50), (1, .int (nI s)), (2, .int (nI l))] [] (z_giv (z_giv (z_giv (z_giv (z_ui (z_ui (z_ui μ 50 0 0) 50 50 (nI l)) 50 51 (bif decide (6 ≤ ((nI l) - (nI l) / 9 * 9)) then (-1 : Int32) else nI (l + 3))) s (l + 1) (-1)) s (l + 2) (-1)) s (l + 1) 1) s (l + 2) 1)
                                                            refine z_rcs0 hc hH 3 (pc' := 186) (lv' := [(4, .int ((nI (l + 2)) + 1)), (3, .int (nB cd)), (0, .ref 50), (1, .int (nI s)), (2, .int (nI l))]) (st' := [.int ((nI (l + 2)) + 1)]) (by rfl) ?_
                                                            rw [show nI (l + 2) + 1 = nI (l + 3) from nI_s1 _]
                                                            refine z_rcs0 hc hH 3 (pc' := 189) (lv' := [(4, .int (nI (l + 3))), (3, .int (nB cd)), (0, .ref 50), (1, .int (nI s)), (2, .int (nI l))]) (st' := [.int ((nI l) + 3), .int (nI (l + 3))]) (by rfl) ?_
                                                            rw [show nI l + 3 = nI (l + 3) from nI_add l 3]
                                                            refine zq_ic hc hH (by rfl) (tg := 215) (by rfl) (fun h30 => ?_) (fun h30 => ?_)
                                                            · have h30 : (decide ((nI (l + 3)) ≤ (nI (l + 3)))) = true := decide_eq_true (cm_ge.mp h30)
                                                              refine z_rcs0 hc hH 1 (pc' := 216) (lv' := [(4, .int (nI (l + 3))), (3, .int (nB cd)), (0, .ref 50), (1, .int (nI s)), (2, .int (nI l))]) (st' := [.int (nB cd)]) (by rfl) ?_
                                                              refine zq_if hc hH (by rfl) (tg := 221) (by rfl) (fun h31 => ?_) (fun h31 => ?_)
                                                              · have h31 : (cd) = true := nB_n.mp (cm_ne.mp h31)
                                                                refine z_rcs0 hc hH 1 (pc' := 222) (lv' := [(4, .int (nI (l + 3))), (3, .int (nB cd)), (0, .ref 50), (1, .int (nI s)), (2, .int (nI l))]) (st' := [.ref 50]) (by rfl) ?_
                                                                refine zq_call hc (z_cx_ok hH (by rfl)) (hov d' (by omega)) (by decide +kernel) (fun r9 W hq => ?_)
                                                                obtain ⟨rfl, hO, hAW⟩ := hq
                                                                show Z 0 225 [(4, .int (nI (l + 3))), (3, .int (nB cd)), (0, .ref 50), (1, .int (nI s)), (2, .int (nI l))] [] W
                                                                refine z_rcs hc hH 6 (pc' := 233) (lv' := [(4, .int (nI l)), (3, .int (nB cd)), (0, .ref 50), (1, .int (nI s)), (2, .int (nI l))]) (st' := [.int ((nI l) + 3), .int (nI l)]) (μ' := W) (by rfl) ?_
                                                                rw [show nI l + 3 = nI (l + 3) from nI_add l 3]
                                                                refine zq_ic hc hH (by rfl) (tg := 259) (by rfl) (fun h32 => ?_) (fun h32 => ?_)
                                                                · have h32 : (decide ((nI (l + 3)) ≤ (nI l))) = true := decide_eq_true (cm_ge.mp h32)
                                                                  exact absurd (Eq.trans (Eq.symm (kn_nlf (by omega) (by omega) (by omega))) h32) (by decide)
                                                                · have h32 : (decide ((nI (l + 3)) ≤ (nI l))) = false := decide_eq_false (cn_ge.mp h32)
                                                                  refine z_rcs hc hH 2 (pc' := 239) (lv' := [(4, .int (nI l)), (3, .int (nB cd)), (0, .ref 50), (1, .int (nI s)), (2, .int (nI l))]) (st' := [.ref 50, .int (nI l)]) (μ' := W) (by rfl) ?_
                                                                  refine zq_gfi hc hH (by rfl) (ci := 6) (f := 49) (by rfl) (by decide +kernel) (by rfl) ?_
                                                                  rw [(hO 50 49 (by omega)).1]
                                                                  rw [o49]
                                                                  refine zq_ic hc hH (by rfl) (tg := 253) (by rfl) (fun h33 => ?_) (fun h33 => ?_)
                                                                  · have h33 : (decide ((nI l) = (nI l))) = true := decide_eq_true (cm_eq9.mp h33)
                                                                    refine z_rcs hc hH 3 (pc' := 230) (lv' := [(4, .int ((nI l) + 1)), (3, .int (nB cd)), (0, .ref 50), (1, .int (nI s)), (2, .int (nI l))]) (st' := [.int ((nI l) + 1)]) (μ' := W) (by rfl) ?_
                                                                    rw [nI_s1]
                                                                    refine z_rcs hc hH 3 (pc' := 233) (lv' := [(4, .int (nI (l + 1))), (3, .int (nB cd)), (0, .ref 50), (1, .int (nI s)), (2, .int (nI l))]) (st' := [.int ((nI l) + 3), .int (nI (l + 1))]) (μ' := W) (by rfl) ?_
                                                                    rw [show nI l + 3 = nI (l + 3) from nI_add l 3]
                                                                    refine zq_ic hc hH (by rfl) (tg := 259) (by rfl) (fun h34 => ?_) (fun h34 => ?_)
                                                                    · have h34 : (decide ((nI (l + 3)) ≤ (nI (l + 1)))) = true := decide_eq_true (cm_ge.mp h34)
                                                                      exact absurd (Eq.trans (Eq.symm (kn_nlf (by omega) (by omega) (by omega))) h34) (by decide)
                                                                    · have h34 : (decide ((nI (l + 3)) ≤ (nI (l + 1)))) = false := decide_eq_false (cn_ge.mp h34)
                                                                      refine z_rcs hc hH 2 (pc' := 239) (lv' := [(4, .int (nI (l + 1))), (3, .int (nB cd)), (0, .ref 50), (1, .int (nI s)), (2, .int (nI l))]) (st' := [.ref 50, .int (nI (l + 1))]) (μ' := W) (by rfl) ?_
                                                                      refine zq_gfi hc hH (by rfl) (ci := 6) (f := 49) (by rfl) (by decide +kernel) (by rfl) ?_
                                                                      rw [(hO 50 49 (by omega)).1]
                                                                      rw [o49]
                                                                      refine zq_ic hc hH (by rfl) (tg := 253) (by rfl) (fun h35 => ?_) (fun h35 => ?_)
                                                                      · have h35 : (decide ((nI (l + 1)) = (nI l))) = true := decide_eq_true (cm_eq9.mp h35)
                                                                        exact absurd (Eq.trans (Eq.symm (kn_ne (by omega) (by omega) (by omega))) h35) (by decide)
                                                                      · have h35 : (decide ((nI (l + 1)) = (nI l))) = false := decide_eq_false (cn_eq.mp h35)
                                                                        refine z_rcs hc hH 4 (pc' := 250) (lv' := [(4, .int (nI (l + 1))), (3, .int (nB cd)), (0, .ref 50), (1, .int (nI s)), (2, .int (nI l))]) (st' := [.int (-1), .int (nI (l + 1)), .int (nI s), .ref 50]) (μ' := W) (by rfl) ?_
                                                                        refine zq_call hc (z_cx_ok hH (by rfl)) (fc_X7_gives d' (by omega) W s (l + 1) (-1) hs4 (by omega)) (by decide +kernel) (fun r9 μ9 hq => ?_)
                                                                        obtain ⟨rfl, rfl⟩ := hq
                                                                        show Z 0 253 [(4, .int (nI (l + 1))), (3, .int (nB cd)), (0, .ref 50), (1, .int (nI s)), (2, .int (nI l))] [] (z_giv W s (l + 1) (-1))
                                                                        refine z_rcs0 hc hH 3 (pc' := 230) (lv' := [(4, .int ((nI (l + 1)) + 1)), (3, .int (nB cd)), (0, .ref 50), (1, .int (nI s)), (2, .int (nI l))]) (st' := [.int ((nI (l + 1)) + 1)]) (by rfl) ?_
                                                                        rw [show nI (l + 1) + 1 = nI (l + 2) from nI_s1 _]
                                                                        refine z_rcs0 hc hH 3 (pc' := 233) (lv' := [(4, .int (nI (l + 2))), (3, .int (nB cd)), (0, .ref 50), (1, .int (nI s)), (2, .int (nI l))]) (st' := [.int ((nI l) + 3), .int (nI (l + 2))]) (by rfl) ?_
                                                                        rw [show nI l + 3 = nI (l + 3) from nI_add l 3]
                                                                        refine zq_ic hc hH (by rfl) (tg := 259) (by rfl) (fun h36 => ?_) (fun h36 => ?_)
                                                                        · have h36 : (decide ((nI (l + 3)) ≤ (nI (l + 2)))) = true := decide_eq_true (cm_ge.mp h36)
                                                                          exact absurd (Eq.trans (Eq.symm (kn_nlf (by omega) (by omega) (by omega))) h36) (by decide)
                                                                        · have h36 : (decide ((nI (l + 3)) ≤ (nI (l + 2)))) = false := decide_eq_false (cn_ge.mp h36)
                                                                          refine z_rcs0 hc hH 2 (pc' := 239) (lv' := [(4, .int (nI (l + 2))), (3, .int (nB cd)), (0, .ref 50), (1, .int (nI s)), (2, .int (nI l))]) (st' := [.ref 50, .int (nI (l + 2))]) (by rfl) ?_
                                                                          refine zq_gfi hc hH (by rfl) (ci := 6) (f := 49) (by rfl) (by decide +kernel) (by rfl) ?_
                                                                          rw [giv_o (by first | decide | omega), (hO 50 49 (by omega)).1]
                                                                          rw [o49]
                                                                          refine zq_ic hc hH (by rfl) (tg := 253) (by rfl) (fun h37 => ?_) (fun h37 => ?_)
                                                                          · have h37 : (decide ((nI (l + 2)) = (nI l))) = true := decide_eq_true (cm_eq9.mp h37)
                                                                            exact absurd (Eq.trans (Eq.symm (kn_ne (by omega) (by omega) (by omega))) h37) (by decide)
                                                                          · have h37 : (decide ((nI (l + 2)) = (nI l))) = false := decide_eq_false (cn_eq.mp h37)
                                                                            refine z_rcs0 hc hH 4 (pc' := 250) (lv' := [(4, .int (nI (l + 2))), (3, .int (nB cd)), (0, .ref 50), (1, .int (nI s)), (2, .int (nI l))]) (st' := [.int (-1), .int (nI (l + 2)), .int (nI s), .ref 50]) (by rfl) ?_
                                                                            refine zq_call hc (z_cx_ok hH (by rfl)) (fc_X7_gives d' (by omega) (z_giv W s (l + 1) (-1)) s (l + 2) (-1) hs4 (by omega)) (by decide +kernel) (fun r9 μ9 hq => ?_)
                                                                            obtain ⟨rfl, rfl⟩ := hq
                                                                            show Z 0 253 [(4, .int (nI (l + 2))), (3, .int (nB cd)), (0, .ref 50), (1, .int (nI s)), (2, .int (nI l))] [] (z_giv (z_giv W s (l + 1) (-1)) s (l + 2) (-1))
                                                                            refine z_rcs0 hc hH 3 (pc' := 230) (lv' := [(4, .int ((nI (l + 2)) + 1)), (3, .int (nB cd)), (0, .ref 50), (1, .int (nI s)), (2, .int (nI l))]) (st' := [.int ((nI (l + 2)) + 1)]) (by rfl) ?_
                                                                            rw [show nI (l + 2) + 1 = nI (l + 3) from nI_s1 _]
                                                                            refine z_rcs0 hc hH 3 (pc' := 233) (lv' := [(4, .int (nI (l + 3))), (3, .int (nB cd)), (0, .ref 50), (1, .int (nI s)), (2, .int (nI l))]) (st' := [.int ((nI l) + 3), .int (nI (l + 3))]) (by rfl) ?_
                                                                            rw [show nI l + 3 = nI (l + 3) from nI_add l 3]
                                                                            refine zq_ic hc hH (by rfl) (tg := 259) (by rfl) (fun h38 => ?_) (fun h38 => ?_)
                                                                            · have h38 : (decide ((nI (l + 3)) ≤ (nI (l + 3)))) = true := decide_eq_true (cm_ge.mp h38)
                                                                              refine z_rcs0 hc hH 4 (pc' := 263) (lv' := [(4, .int (nI (l + 3))), (3, .int (nB cd)), (0, .ref 50), (1, .int (nI s)), (2, .int (nI l))]) (st' := [.int (nI l), .int 0, .int (nI s), .ref 50]) (by rfl) ?_
                                                                              refine zq_call hc (z_cx_ok hH (by rfl)) (gm_claims d' (by omega) (z_giv (z_giv W s (l + 1) (-1)) s (l + 2) (-1)) s q 0 (nI l) hs4 hq4 (by rw [giv_o (by first | decide | omega), giv_o (by first | decide | omega), (hO 64 s (by omega)).1]; exact o64)) (by decide +kernel) (fun r9 μ9 hq => ?_)
                                                                              obtain ⟨rfl, rfl⟩ := hq
                                                                              show Z 0 266 [(4, .int (nI (l + 3))), (3, .int (nB cd)), (0, .ref 50), (1, .int (nI s)), (2, .int (nI l))] [] (clM (z_giv (z_giv W s (l + 1) (-1)) s (l + 2) (-1)) s q 0 (nI l))
                                                                              refine z_rcs0 hc hH 1 (pc' := 267) (lv' := [(4, .int (nI (l + 3))), (3, .int (nB cd)), (0, .ref 50), (1, .int (nI s)), (2, .int (nI l))]) (st' := [.int 1]) (by rfl) ?_
                                                                              exact hr 0 267 _ _ _ (some (.int 1)) (by decide +kernel) (z_rx_ok hH (by rfl)) (Or.inl ⟨by simp only [ruC0, h1, h2, h3, h10, h13, h31, Bool.true_or, Bool.true_and, Bool.and_true, Bool.false_and, Bool.and_false, Bool.not_true, Bool.not_false, Bool.or_true, Bool.or_false, Bool.false_or, cond_true, cond_false], rfl, by unfold ruO0; exact SM_cl (SM_giv (SM_giv (hO)))⟩)
                                                                            · have h38 : (decide ((nI (l + 3)) ≤ (nI (l + 3)))) = false := decide_eq_false (cn_ge.mp h38)
                                                                              exact absurd (Eq.trans (Eq.symm (kn_nle (by omega) (by omega) (by omega))) h38) (by decide)
                                                                  · have h33 : (decide ((nI l) = (nI l))) = false := decide_eq_false (cn_eq.mp h33)
                                                                    exact absurd (Eq.trans (Eq.symm (kn_eq rfl)) h33) (by decide)
                                                              · have h31 : (cd) = false := nB_z.mp (cn_ne.mp h31)
                                                                refine z_rcs hc hH 1 (pc' := 220) (lv' := [(4, .int (nI (l + 3))), (3, .int (nB cd)), (0, .ref 50), (1, .int (nI s)), (2, .int (nI l))]) (st' := [.int 0]) (μ' := z_giv (z_giv (z_giv (z_giv (z_ui (z_ui (z_ui μ 50 0 0) 50 50 (nI l)) 50 51 (bif decide (6 ≤ ((nI l) - (nI l) / 9 * 9)) then (-1 : Int32) else nI (l + 3))) s (l + 1) (-1)) s (l + 2) (-1)) s (l + 1) 1) s (l + 2) 1) (by rfl) ?_
                                                                exact hr 0 220 _ _ _ (some (.int 0)) (by decide +kernel) (z_rx_ok hH (by rfl)) (Or.inr ⟨by simp only [ruC0, h1, h2, h3, h10, h13, h31, Bool.true_or, Bool.true_and, Bool.and_true, Bool.false_and, Bool.and_false, Bool.not_true, Bool.not_false, Bool.or_true, Bool.or_false, Bool.false_or, cond_true, cond_false], rfl, Or.inr rfl⟩)
                                                            · have h30 : (decide ((nI (l + 3)) ≤ (nI (l + 3)))) = false := decide_eq_false (cn_ge.mp h30)
                                                              exact absurd (Eq.trans (Eq.symm (kn_nle (by omega) (by omega) (by omega))) h30) (by decide)
                                                  · have h25 : (decide ((nI l) = (nI l))) = false := decide_eq_false (cn_eq.mp h25)
                                                    exact absurd (Eq.trans (Eq.symm (kn_eq rfl)) h25) (by decide)
                                              · have h23 : (decide ((nI (l + 3)) ≤ (nI (l + 3)))) = false := decide_eq_false (cn_ge.mp h23)
                                                exact absurd (Eq.trans (Eq.symm (kn_nle (by omega) (by omega) (by omega))) h23) (by decide)
                                    · have h18 : (decide ((nI l) = (nI l))) = false := decide_eq_false (cn_eq.mp h18)
                                      exact absurd (Eq.trans (Eq.symm (kn_eq rfl)) h18) (by decide)
                                refine zq_ic hc hH (by rfl) (tg := 118) (by rfl) (fun h39 => ?_) (fun h39 => ?_)
                                · have h39 : (decide (6 ≤ ((nI l) - (nI l) / 9 * 9))) = true := decide_eq_true (cm_ge.mp h39)
                                  refine z_rcs hc hH 1 (pc' := 119) (lv' := [(3, .int (nI (l + 3))), (0, .ref 50), (1, .int (nI s)), (2, .int (nI l))]) (st' := [.ref 50, .ref 50]) (μ' := z_ui (z_ui μ 50 0 0) 50 50 (nI l)) (by rfl) ?_
                                  refine zq_gfi hc hH (by rfl) (ci := 6) (f := 49) (by rfl) (by decide +kernel) (by rfl) ?_
                                  refine zV1 (Z := Z) (Eq.trans (ui_k (by first | decide | omega)) (ui_k (by first | decide | omega))) ?_
                                  rw [hc49]
                                  refine z_rcs0 hc hH 3 (pc' := 125) (lv' := [(3, .int (nI (l + 3))), (0, .ref 50), (1, .int (nI s)), (2, .int (nI l))]) (st' := [.int ((nI l) + 2), .int (nI l), .ref 50]) (by rfl) ?_
                                  rw [show nI l + 2 = nI (l + 2) from nI_add l 2]
                                  refine zq_ic hc hH (by rfl) (tg := 141) (by rfl) (fun h40 => ?_) (fun h40 => ?_)
                                  · have h40 : (decide ((nI l) = (nI (l + 2)))) = false := decide_eq_false (cm_ne.mp h40)
                                    refine z_rcs0 hc hH 1 (pc' := 142) (lv' := [(3, .int (nI (l + 3))), (0, .ref 50), (1, .int (nI s)), (2, .int (nI l))]) (st' := [.int (-1), .ref 50]) (by rfl) ?_
                                    exact zJ hJ16 rfl (by first | with_reducible rfl | (simp only [h39, lb_f, Int64.or_zero, Int32.add_zero, nB_t, nB_f, Bool.not_true, Bool.not_false, Bool.and_true, Bool.true_and, Bool.false_and, Bool.and_false, Bool.or_true, Bool.true_or, Bool.false_or, Bool.or_false, cond_true, cond_false]; done) | rfl) rfl
                                  · have h40 : (decide ((nI l) = (nI (l + 2)))) = true := decide_eq_true (cn_ne.mp h40)
                                    exact absurd (Eq.trans (Eq.symm (kn_ne (by omega) (by omega) (by omega))) h40) (by decide)
                                · have h39 : (decide (6 ≤ ((nI l) - (nI l) / 9 * 9))) = false := decide_eq_false (cn_ge.mp h39)
                                  refine z_rcs0 hc hH 3 (pc' := 115) (lv' := [(3, .int (nI (l + 3))), (0, .ref 50), (1, .int (nI s)), (2, .int (nI l))]) (st' := [.int ((nI l) + 3), .ref 50]) (by rfl) ?_
                                  rw [show nI l + 3 = nI (l + 3) from nI_add l 3]
                                  refine z_rcs0 hc hH 1 (pc' := 142) (lv' := [(3, .int (nI (l + 3))), (0, .ref 50), (1, .int (nI s)), (2, .int (nI l))]) (st' := [.int (nI (l + 3)), .ref 50]) (by rfl) ?_
                                  exact zJ hJ16 rfl (by first | with_reducible rfl | (simp only [h39, lb_f, Int64.or_zero, Int32.add_zero, nB_t, nB_f, Bool.not_true, Bool.not_false, Bool.and_true, Bool.true_and, Bool.false_and, Bool.and_false, Bool.or_true, Bool.true_or, Bool.false_or, Bool.or_false, cond_true, cond_false]; done) | rfl) rfl
                            · have h14 : (decide ((nI (l + 3)) ≤ (nI (l + 3)))) = false := decide_eq_false (cn_ge.mp h14)
                              exact absurd (Eq.trans (Eq.symm (kn_nle (by omega) (by omega) (by omega))) h14) (by decide)
                          · have h13 : (decide ((μ.1 60 (34 * s + (l + 2))) = 0)) = true := decide_eq_true (cn_ne.mp h13)
                            refine z_rcs hc hH 1 (pc' := 79) (lv' := [(3, .int (nI (l + 2))), (0, .ref 50), (1, .int (nI s)), (2, .int (nI l))]) (st' := [.int 0]) (μ' := z_ui μ 50 0 0) (by rfl) ?_
                            exact hr 0 79 _ _ _ (some (.int 0)) (by decide +kernel) (z_rx_ok hH (by rfl)) (Or.inr ⟨by simp only [ruC0, h1, h2, h3, h10, h13, Bool.true_or, Bool.true_and, Bool.and_true, Bool.false_and, Bool.and_false, Bool.not_true, Bool.not_false, Bool.or_true, Bool.or_false, Bool.false_or, cond_true, cond_false], rfl, Or.inl rfl⟩)
                    · have h10 : (decide ((μ.1 60 (34 * s + (l + 1))) = 0)) = true := decide_eq_true (cn_ne.mp h10)
                      refine z_rcs hc hH 1 (pc' := 79) (lv' := [(3, .int (nI (l + 1))), (0, .ref 50), (1, .int (nI s)), (2, .int (nI l))]) (st' := [.int 0]) (μ' := z_ui μ 50 0 0) (by rfl) ?_
                      exact hr 0 79 _ _ _ (some (.int 0)) (by decide +kernel) (z_rx_ok hH (by rfl)) (Or.inr ⟨by simp only [ruC0, h1, h2, h3, h10, Bool.true_or, Bool.true_and, Bool.and_true, Bool.false_and, Bool.and_false, Bool.not_true, Bool.not_false, Bool.or_true, Bool.or_false, Bool.false_or, cond_true, cond_false], rfl, Or.inl rfl⟩)
              · have h7 : (decide ((nI l) = (nI l))) = false := decide_eq_false (cn_eq.mp h7)
                exact absurd (Eq.trans (Eq.symm (kn_eq rfl)) h7) (by decide)
          · have h5 : (decide ((nI l) ≤ (nI (l + 2)))) = false := decide_eq_false (cn_le.mp h5)
            exact absurd (Eq.trans (Eq.symm (kn_nle (by omega) (by omega) (by omega))) h5) (by decide)
noncomputable abbrev ruC1 (μ : zM) (s l u1 : Nat) (mc ir cd : Bool) : Bool := (mc) && ((decide ((nI s) = (nI u1)))) && (ir) && (!(decide ((μ.1 60 (34 * s + l)) = 0))) && (!(decide ((μ.1 60 (34 * s + (l + 2))) = 0))) && (cd)
noncomputable def ruM1 (μ : zM) (s l : Nat) : zM := z_giv (z_giv (z_giv (z_giv (z_ui (z_ui (z_ui μ 50 0 0) 50 50 (nI (l + 1))) 50 51 (-1)) s l (-1)) s (l + 2) (-1)) s l 1) s (l + 2) 1
noncomputable def ruO1 (O : zM) (s l q : Nat) : zM := clM (z_giv (z_giv O s l (-1)) s (l + 2) (-1)) s q 0 (nI l)
theorem gm_run1 (d : Nat) (hd : 702 ≤ d) (μ : zM) (s q l t u1 : Nat) (hs4 : s < 4) (hq4 : q < 4) (hl : l + 2 ≤ 33) (ht4 : t < 4) (ht : μ.1 50 45 = nI t) (hu1 : (t + 1) % 4 = u1) (hu14 : u1 < 4) (hc49 : μ.1 50 49 = nI (l + 1)) (mc : Bool) (hmc : ∀ d, 2 ≤ d → z_C d mi_X7_mayClaim [.ref 50, .int (nI s)] (z_ui μ 50 0 0) (zR (z_ui μ 50 0 0) (.int (nB mc)))) (ir : Bool) (hir : ∀ d, 1 ≤ d → z_C d mi_X7_isRun [.int (nI l)] (z_ui μ 50 0 0) (zR (z_ui μ 50 0 0) (.int (nB ir)))) (cd : Bool) (hcd : ∀ d, 2 ≤ d → z_C d mi_X7_canDiscard [.ref 50, .int (nI s)] (z_giv (z_giv (z_ui (z_ui (z_ui μ 50 0 0) 50 50 (nI (l + 1))) 50 51 (-1)) s l (-1)) s (l + 2) (-1)) (zR (z_giv (z_giv (z_ui (z_ui (z_ui μ 50 0 0) 50 50 (nI (l + 1))) 50 51 (-1)) s l (-1)) s (l + 2) (-1)) (.int (nB cd)))) (O : zM) (hov : ∀ d, 701 ≤ d → z_C d mi_X7_over [.ref 50] (ruM1 μ s l) (fun r W => r = none ∧ SMj O W ∧ a_H W)) (o49 : O.1 50 49 = nI (l + 1)) (o64 : O.1 64 s = nI q) : z_C d mi_X7_run [.ref 50, .int (nI s), .int (nI l)] μ (fun r μ' => (ruC1 μ s l u1 mc ir cd = true ∧ r = some (.int 1) ∧ SMj (ruO1 O s l q) μ') ∨ (ruC1 μ s l u1 mc ir cd = false ∧ r = some (.int 0) ∧ (μ' = z_ui μ 50 0 0 ∨ μ' = ruM1 μ s l))) := by
  refine z_C_in (by decide) (by omega) (fun d' Z ed hc hr => ?_)
  have hH : zH mi_X7_run zt_X7_run 79 7 5 := hh_X7_run
  refine z_rcs hc hH 2 (pc' := 2) (lv' := [(0, .ref 50), (1, .int (nI s)), (2, .int (nI l))]) (st' := [.int 0, .ref 50]) (μ' := μ) (by rfl) ?_
  refine zq_pfi hc hH (by rfl) (ci := 6) (f := 0) (by rfl) (by decide +kernel) (by rfl) ?_
  show Z 0 5 [(0, .ref 50), (1, .int (nI s)), (2, .int (nI l))] [] (z_ui μ 50 0 0)
  refine z_rcs hc hH 2 (pc' := 7) (lv' := [(0, .ref 50), (1, .int (nI s)), (2, .int (nI l))]) (st' := [.int (nI s), .ref 50]) (μ' := z_ui μ 50 0 0) (by rfl) ?_
  refine zq_call hc (z_cx_ok hH (by rfl)) (hmc d' (by omega)) (by decide +kernel) (fun r9 μ9 hq => ?_)
  obtain ⟨hμ9, rfl⟩ := hq
  rw [hμ9]
  clear hμ9 μ9
  show Z 0 10 [(0, .ref 50), (1, .int (nI s)), (2, .int (nI l))] [.int (nB mc)] (z_ui μ 50 0 0)
  refine zq_if hc hH (by rfl) (tg := 50) (by rfl) (fun h1 => ?_) (fun h1 => ?_)
  · have h1 : (mc) = false := nB_z.mp (cm_eq9.mp h1)
    refine z_rcs hc hH 1 (pc' := 51) (lv' := [(0, .ref 50), (1, .int (nI s)), (2, .int (nI l))]) (st' := [.int 0]) (μ' := z_ui μ 50 0 0) (by rfl) ?_
    exact hr 0 51 _ _ _ (some (.int 0)) (by decide +kernel) (z_rx_ok hH (by rfl)) (Or.inr ⟨by simp only [ruC1, h1, Bool.true_or, Bool.true_and, Bool.and_true, Bool.false_and, Bool.and_false, Bool.not_true, Bool.not_false, Bool.or_true, Bool.or_false, Bool.false_or, cond_true, cond_false], rfl, Or.inl rfl⟩)
  · have h1 : (mc) = true := nB_n.mp (cn_eq.mp h1)
    refine z_rcs hc hH 2 (pc' := 15) (lv' := [(0, .ref 50), (1, .int (nI s)), (2, .int (nI l))]) (st' := [.ref 50, .int (nI s)]) (μ' := z_ui μ 50 0 0) (by rfl) ?_
    refine zq_gfi hc hH (by rfl) (ci := 6) (f := 45) (by rfl) (by decide +kernel) (by rfl) ?_
    refine zV1 (Z := Z) (ui_k (by first | decide | omega)) ?_
    rw [ht]
    refine z_rcs hc hH 2 (pc' := 20) (lv' := [(0, .ref 50), (1, .int (nI s)), (2, .int (nI l))]) (st' := [.int ((nI t) + 1), .int (nI s)]) (μ' := z_ui μ 50 0 0) (by rfl) ?_
    rw [nI_s1]
    refine z_rcs hc hH 2 (pc' := 22) (lv' := [(0, .ref 50), (1, .int (nI s)), (2, .int (nI l))]) (st' := [.int ((nI (t + 1)) - (nI (t + 1)) / 4 * 4), .int (nI s)]) (μ' := z_ui μ 50 0 0) (by rfl) ?_
    rw [show nI (t + 1) - nI (t + 1) / 4 * 4 = nI u1 from by rw [rm4 _ (by omega), hu1]]
    refine zq_ic hc hH (by rfl) (tg := 50) (by rfl) (fun h2 => ?_) (fun h2 => ?_)
    · have h2 : (decide ((nI s) = (nI u1))) = false := decide_eq_false (cm_ne.mp h2)
      refine z_rcs hc hH 1 (pc' := 51) (lv' := [(0, .ref 50), (1, .int (nI s)), (2, .int (nI l))]) (st' := [.int 0]) (μ' := z_ui μ 50 0 0) (by rfl) ?_
      exact hr 0 51 _ _ _ (some (.int 0)) (by decide +kernel) (z_rx_ok hH (by rfl)) (Or.inr ⟨by simp only [ruC1, h1, h2, Bool.true_or, Bool.true_and, Bool.and_true, Bool.false_and, Bool.and_false, Bool.not_true, Bool.not_false, Bool.or_true, Bool.or_false, Bool.false_or, cond_true, cond_false], rfl, Or.inl rfl⟩)
    · have h2 : (decide ((nI s) = (nI u1))) = true := decide_eq_true (cn_ne.mp h2)
      refine z_rcs hc hH 1 (pc' := 26) (lv' := [(0, .ref 50), (1, .int (nI s)), (2, .int (nI l))]) (st' := [.int (nI l)]) (μ' := z_ui μ 50 0 0) (by rfl) ?_
      refine zq_call hc (z_cx_ok hH (by rfl)) (hir d' (by omega)) (by decide +kernel) (fun r9 μ9 hq => ?_)
      obtain ⟨hμ9, rfl⟩ := hq
      rw [hμ9]
      clear hμ9 μ9
      show Z 0 29 [(0, .ref 50), (1, .int (nI s)), (2, .int (nI l))] [.int (nB ir)] (z_ui μ 50 0 0)
      refine zq_if hc hH (by rfl) (tg := 50) (by rfl) (fun h3 => ?_) (fun h3 => ?_)
      · have h3 : (ir) = false := nB_z.mp (cm_eq9.mp h3)
        refine z_rcs hc hH 1 (pc' := 51) (lv' := [(0, .ref 50), (1, .int (nI s)), (2, .int (nI l))]) (st' := [.int 0]) (μ' := z_ui μ 50 0 0) (by rfl) ?_
        exact hr 0 51 _ _ _ (some (.int 0)) (by decide +kernel) (z_rx_ok hH (by rfl)) (Or.inr ⟨by simp only [ruC1, h1, h2, h3, Bool.true_or, Bool.true_and, Bool.and_true, Bool.false_and, Bool.and_false, Bool.not_true, Bool.not_false, Bool.or_true, Bool.or_false, Bool.false_or, cond_true, cond_false], rfl, Or.inl rfl⟩)
      · have h3 : (ir) = true := nB_n.mp (cn_eq.mp h3)
        refine z_rcs hc hH 1 (pc' := 33) (lv' := [(0, .ref 50), (1, .int (nI s)), (2, .int (nI l))]) (st' := [.ref 50]) (μ' := z_ui μ 50 0 0) (by rfl) ?_
        refine zq_gfi hc hH (by rfl) (ci := 6) (f := 49) (by rfl) (by decide +kernel) (by rfl) ?_
        refine zV1 (Z := Z) (ui_k (by first | decide | omega)) ?_
        rw [hc49]
        refine z_rcs hc hH 1 (pc' := 37) (lv' := [(0, .ref 50), (1, .int (nI s)), (2, .int (nI l))]) (st' := [.int (nI l), .int (nI (l + 1))]) (μ' := z_ui μ 50 0 0) (by rfl) ?_
        refine zq_ic hc hH (by rfl) (tg := 50) (by rfl) (fun h4 => ?_) (fun h4 => ?_)
        · have h4 : (decide ((nI (l + 1)) < (nI l))) = true := decide_eq_true (cm_lt.mp h4)
          exact absurd (Eq.trans (Eq.symm (kn_nlg (by omega) (by omega) (by omega))) h4) (by decide)
        · have h4 : (decide ((nI (l + 1)) < (nI l))) = false := decide_eq_false (cn_lt.mp h4)
          refine z_rcs hc hH 1 (pc' := 41) (lv' := [(0, .ref 50), (1, .int (nI s)), (2, .int (nI l))]) (st' := [.ref 50]) (μ' := z_ui μ 50 0 0) (by rfl) ?_
          refine zq_gfi hc hH (by rfl) (ci := 6) (f := 49) (by rfl) (by decide +kernel) (by rfl) ?_
          refine zV1 (Z := Z) (ui_k (by first | decide | omega)) ?_
          rw [hc49]
          refine z_rcs hc hH 3 (pc' := 47) (lv' := [(0, .ref 50), (1, .int (nI s)), (2, .int (nI l))]) (st' := [.int ((nI l) + 2), .int (nI (l + 1))]) (μ' := z_ui μ 50 0 0) (by rfl) ?_
          rw [show nI l + 2 = nI (l + 2) from nI_add l 2]
          refine zq_ic hc hH (by rfl) (tg := 52) (by rfl) (fun h5 => ?_) (fun h5 => ?_)
          · have h5 : (decide ((nI (l + 1)) ≤ (nI (l + 2)))) = true := decide_eq_true (cm_le.mp h5)
            refine z_rcs hc hH 6 (pc' := 58) (lv' := [(3, .int (nI l)), (0, .ref 50), (1, .int (nI s)), (2, .int (nI l))]) (st' := [.int ((nI l) + 3), .int (nI l)]) (μ' := z_ui μ 50 0 0) (by rfl) ?_
            rw [show nI l + 3 = nI (l + 3) from nI_add l 3]
            refine zq_ic hc hH (by rfl) (tg := 86) (by rfl) (fun h6 => ?_) (fun h6 => ?_)
            · have h6 : (decide ((nI (l + 3)) ≤ (nI l))) = true := decide_eq_true (cm_ge.mp h6)
              exact absurd (Eq.trans (Eq.symm (kn_nlf (by omega) (by omega) (by omega))) h6) (by decide)
            · have h6 : (decide ((nI (l + 3)) ≤ (nI l))) = false := decide_eq_false (cn_ge.mp h6)
              refine z_rcs hc hH 2 (pc' := 63) (lv' := [(3, .int (nI l)), (0, .ref 50), (1, .int (nI s)), (2, .int (nI l))]) (st' := [.ref 50, .int (nI l)]) (μ' := z_ui μ 50 0 0) (by rfl) ?_
              refine zq_gfi hc hH (by rfl) (ci := 6) (f := 49) (by rfl) (by decide +kernel) (by rfl) ?_
              refine zV1 (Z := Z) (ui_k (by first | decide | omega)) ?_
              rw [hc49]
              refine zq_ic hc hH (by rfl) (tg := 80) (by rfl) (fun h7 => ?_) (fun h7 => ?_)
              · have h7 : (decide ((nI l) = (nI (l + 1)))) = true := decide_eq_true (cm_eq9.mp h7)
                exact absurd (Eq.trans (Eq.symm (kn_ne (by omega) (by omega) (by omega))) h7) (by decide)
              · have h7 : (decide ((nI l) = (nI (l + 1)))) = false := decide_eq_false (cn_eq.mp h7)
                refine z_rcs hc hH 3 (pc' := 72) (lv' := [(3, .int (nI l)), (0, .ref 50), (1, .int (nI s)), (2, .int (nI l))]) (st' := [.int (nI l), .int (nI s), .ref 50]) (μ' := z_ui μ 50 0 0) (by rfl) ?_
                refine zq_call hc (z_cx_ok hH (by rfl)) (fc_X7_has_ d' (by omega) (z_ui μ 50 0 0) s l hs4 (by omega)) (by decide +kernel) (fun r9 μ9 hq => ?_)
                obtain ⟨hμ9, rfl⟩ := hq
                rw [hμ9]
                clear hμ9 μ9
                rw [ui_o (by first | decide | omega)]
                show Z 0 75 [(3, .int (nI l)), (0, .ref 50), (1, .int (nI s)), (2, .int (nI l))] [.int (μ.1 60 (34 * s + l))] (z_ui μ 50 0 0)
                refine zq_if hc hH (by rfl) (tg := 80) (by rfl) (fun h8 => ?_) (fun h8 => ?_)
                · have h8 : (decide ((μ.1 60 (34 * s + l)) = 0)) = false := decide_eq_false (cm_ne.mp h8)
                  refine z_rcs hc hH 3 (pc' := 55) (lv' := [(3, .int ((nI l) + 1)), (0, .ref 50), (1, .int (nI s)), (2, .int (nI l))]) (st' := [.int ((nI l) + 1)]) (μ' := z_ui μ 50 0 0) (by rfl) ?_
                  rw [nI_s1]
                  refine z_rcs hc hH 3 (pc' := 58) (lv' := [(3, .int (nI (l + 1))), (0, .ref 50), (1, .int (nI s)), (2, .int (nI l))]) (st' := [.int ((nI l) + 3), .int (nI (l + 1))]) (μ' := z_ui μ 50 0 0) (by rfl) ?_
                  rw [show nI l + 3 = nI (l + 3) from nI_add l 3]
                  refine zq_ic hc hH (by rfl) (tg := 86) (by rfl) (fun h9 => ?_) (fun h9 => ?_)
                  · have h9 : (decide ((nI (l + 3)) ≤ (nI (l + 1)))) = true := decide_eq_true (cm_ge.mp h9)
                    exact absurd (Eq.trans (Eq.symm (kn_nlf (by omega) (by omega) (by omega))) h9) (by decide)
                  · have h9 : (decide ((nI (l + 3)) ≤ (nI (l + 1)))) = false := decide_eq_false (cn_ge.mp h9)
                    refine z_rcs hc hH 2 (pc' := 63) (lv' := [(3, .int (nI (l + 1))), (0, .ref 50), (1, .int (nI s)), (2, .int (nI l))]) (st' := [.ref 50, .int (nI (l + 1))]) (μ' := z_ui μ 50 0 0) (by rfl) ?_
                    refine zq_gfi hc hH (by rfl) (ci := 6) (f := 49) (by rfl) (by decide +kernel) (by rfl) ?_
                    refine zV1 (Z := Z) (ui_k (by first | decide | omega)) ?_
                    rw [hc49]
                    refine zq_ic hc hH (by rfl) (tg := 80) (by rfl) (fun h10 => ?_) (fun h10 => ?_)
                    · have h10 : (decide ((nI (l + 1)) = (nI (l + 1)))) = true := decide_eq_true (cm_eq9.mp h10)
                      refine z_rcs hc hH 3 (pc' := 55) (lv' := [(3, .int ((nI (l + 1)) + 1)), (0, .ref 50), (1, .int (nI s)), (2, .int (nI l))]) (st' := [.int ((nI (l + 1)) + 1)]) (μ' := z_ui μ 50 0 0) (by rfl) ?_
                      rw [show nI (l + 1) + 1 = nI (l + 2) from nI_s1 _]
                      refine z_rcs hc hH 3 (pc' := 58) (lv' := [(3, .int (nI (l + 2))), (0, .ref 50), (1, .int (nI s)), (2, .int (nI l))]) (st' := [.int ((nI l) + 3), .int (nI (l + 2))]) (μ' := z_ui μ 50 0 0) (by rfl) ?_
                      rw [show nI l + 3 = nI (l + 3) from nI_add l 3]
                      refine zq_ic hc hH (by rfl) (tg := 86) (by rfl) (fun h11 => ?_) (fun h11 => ?_)
                      · have h11 : (decide ((nI (l + 3)) ≤ (nI (l + 2)))) = true := decide_eq_true (cm_ge.mp h11)
                        exact absurd (Eq.trans (Eq.symm (kn_nlf (by omega) (by omega) (by omega))) h11) (by decide)
                      · have h11 : (decide ((nI (l + 3)) ≤ (nI (l + 2)))) = false := decide_eq_false (cn_ge.mp h11)
                        refine z_rcs hc hH 2 (pc' := 63) (lv' := [(3, .int (nI (l + 2))), (0, .ref 50), (1, .int (nI s)), (2, .int (nI l))]) (st' := [.ref 50, .int (nI (l + 2))]) (μ' := z_ui μ 50 0 0) (by rfl) ?_
                        refine zq_gfi hc hH (by rfl) (ci := 6) (f := 49) (by rfl) (by decide +kernel) (by rfl) ?_
                        refine zV1 (Z := Z) (ui_k (by first | decide | omega)) ?_
                        rw [hc49]
                        refine zq_ic hc hH (by rfl) (tg := 80) (by rfl) (fun h12 => ?_) (fun h12 => ?_)
                        · have h12 : (decide ((nI (l + 2)) = (nI (l + 1)))) = true := decide_eq_true (cm_eq9.mp h12)
                          exact absurd (Eq.trans (Eq.symm (kn_ne (by omega) (by omega) (by omega))) h12) (by decide)
                        · have h12 : (decide ((nI (l + 2)) = (nI (l + 1)))) = false := decide_eq_false (cn_eq.mp h12)
                          refine z_rcs hc hH 3 (pc' := 72) (lv' := [(3, .int (nI (l + 2))), (0, .ref 50), (1, .int (nI s)), (2, .int (nI l))]) (st' := [.int (nI (l + 2)), .int (nI s), .ref 50]) (μ' := z_ui μ 50 0 0) (by rfl) ?_
                          refine zq_call hc (z_cx_ok hH (by rfl)) (fc_X7_has_ d' (by omega) (z_ui μ 50 0 0) s (l + 2) hs4 (by omega)) (by decide +kernel) (fun r9 μ9 hq => ?_)
                          obtain ⟨hμ9, rfl⟩ := hq
                          rw [hμ9]
                          clear hμ9 μ9
                          rw [ui_o (by first | decide | omega)]
                          show Z 0 75 [(3, .int (nI (l + 2))), (0, .ref 50), (1, .int (nI s)), (2, .int (nI l))] [.int (μ.1 60 (34 * s + (l + 2)))] (z_ui μ 50 0 0)
                          refine zq_if hc hH (by rfl) (tg := 80) (by rfl) (fun h13 => ?_) (fun h13 => ?_)
                          · have h13 : (decide ((μ.1 60 (34 * s + (l + 2))) = 0)) = false := decide_eq_false (cm_ne.mp h13)
                            refine z_rcs hc hH 3 (pc' := 55) (lv' := [(3, .int ((nI (l + 2)) + 1)), (0, .ref 50), (1, .int (nI s)), (2, .int (nI l))]) (st' := [.int ((nI (l + 2)) + 1)]) (μ' := z_ui μ 50 0 0) (by rfl) ?_
                            rw [show nI (l + 2) + 1 = nI (l + 3) from nI_s1 _]
                            refine z_rcs hc hH 3 (pc' := 58) (lv' := [(3, .int (nI (l + 3))), (0, .ref 50), (1, .int (nI s)), (2, .int (nI l))]) (st' := [.int ((nI l) + 3), .int (nI (l + 3))]) (μ' := z_ui μ 50 0 0) (by rfl) ?_
                            rw [show nI l + 3 = nI (l + 3) from nI_add l 3]
                            refine zq_ic hc hH (by rfl) (tg := 86) (by rfl) (fun h14 => ?_) (fun h14 => ?_)
                            · have h14 : (decide ((nI (l + 3)) ≤ (nI (l + 3)))) = true := decide_eq_true (cm_ge.mp h14)
                              refine z_rcs hc hH 2 (pc' := 88) (lv' := [(3, .int (nI (l + 3))), (0, .ref 50), (1, .int (nI s)), (2, .int (nI l))]) (st' := [.ref 50, .ref 50]) (μ' := z_ui μ 50 0 0) (by rfl) ?_
                              refine zq_gfi hc hH (by rfl) (ci := 6) (f := 49) (by rfl) (by decide +kernel) (by rfl) ?_
                              refine zV1 (Z := Z) (ui_k (by first | decide | omega)) ?_
                              rw [hc49]
                              refine zq_pfi hc hH (by rfl) (ci := 6) (f := 50) (by rfl) (by decide +kernel) (by rfl) ?_
                              show Z 0 94 [(3, .int (nI (l + 3))), (0, .ref 50), (1, .int (nI s)), (2, .int (nI l))] [] (z_ui (z_ui μ 50 0 0) 50 50 (nI (l + 1)))
                              refine z_rcs0 hc hH 2 (pc' := 96) (lv' := [(3, .int (nI (l + 3))), (0, .ref 50), (1, .int (nI s)), (2, .int (nI l))]) (st' := [.ref 50, .ref 50]) (by rfl) ?_
                              refine zq_gfi hc hH (by rfl) (ci := 6) (f := 49) (by rfl) (by decide +kernel) (by rfl) ?_
                              refine zV1 (Z := Z) (Eq.trans (ui_k (by first | decide | omega)) (ui_k (by first | decide | omega))) ?_
                              rw [hc49]
                              refine z_rcs0 hc hH 1 (pc' := 100) (lv' := [(3, .int (nI (l + 3))), (0, .ref 50), (1, .int (nI s)), (2, .int (nI l))]) (st' := [.int (nI l), .int (nI (l + 1)), .ref 50]) (by rfl) ?_
                              refine zq_ic hc hH (by rfl) (tg := 118) (by rfl) (fun h15 => ?_) (fun h15 => ?_)
                              · have h15 : (decide ((nI (l + 1)) = (nI l))) = false := decide_eq_false (cm_ne.mp h15)
                                refine z_rcs0 hc hH 1 (pc' := 119) (lv' := [(3, .int (nI (l + 3))), (0, .ref 50), (1, .int (nI s)), (2, .int (nI l))]) (st' := [.ref 50, .ref 50]) (by rfl) ?_
                                refine zq_gfi hc hH (by rfl) (ci := 6) (f := 49) (by rfl) (by decide +kernel) (by rfl) ?_
                                refine zV1 (Z := Z) (Eq.trans (ui_k (by first | decide | omega)) (ui_k (by first | decide | omega))) ?_
                                rw [hc49]
                                refine z_rcs0 hc hH 3 (pc' := 125) (lv' := [(3, .int (nI (l + 3))), (0, .ref 50), (1, .int (nI s)), (2, .int (nI l))]) (st' := [.int ((nI l) + 2), .int (nI (l + 1)), .ref 50]) (by rfl) ?_
                                rw [show nI l + 2 = nI (l + 2) from nI_add l 2]
                                refine zq_ic hc hH (by rfl) (tg := 141) (by rfl) (fun h16 => ?_) (fun h16 => ?_)
                                · have h16 : (decide ((nI (l + 1)) = (nI (l + 2)))) = false := decide_eq_false (cm_ne.mp h16)
                                  refine z_rcs0 hc hH 1 (pc' := 142) (lv' := [(3, .int (nI (l + 3))), (0, .ref 50), (1, .int (nI s)), (2, .int (nI l))]) (st' := [.int (-1), .ref 50]) (by rfl) ?_
                                  refine zq_pfi hc hH (by rfl) (ci := 6) (f := 51) (by rfl) (by decide +kernel) (by rfl) ?_
                                  show Z 0 145 [(3, .int (nI (l + 3))), (0, .ref 50), (1, .int (nI s)), (2, .int (nI l))] [] (z_ui (z_ui (z_ui μ 50 0 0) 50 50 (nI (l + 1))) 50 51 (-1))
                                  refine z_rcs0 hc hH 6 (pc' := 151) (lv' := [(3, .int (nI l)), (0, .ref 50), (1, .int (nI s)), (2, .int (nI l))]) (st' := [.int ((nI l) + 3), .int (nI l)]) (by rfl) ?_
                                  rw [show nI l + 3 = nI (l + 3) from nI_add l 3]
                                  refine zq_ic hc hH (by rfl) (tg := 175) (by rfl) (fun h17 => ?_) (fun h17 => ?_)
                                  · have h17 : (decide ((nI (l + 3)) ≤ (nI l))) = true := decide_eq_true (cm_ge.mp h17)
                                    exact absurd (Eq.trans (Eq.symm (kn_nlf (by omega) (by omega) (by omega))) h17) (by decide)
                                  · have h17 : (decide ((nI (l + 3)) ≤ (nI l))) = false := decide_eq_false (cn_ge.mp h17)
                                    refine z_rcs0 hc hH 2 (pc' := 156) (lv' := [(3, .int (nI l)), (0, .ref 50), (1, .int (nI s)), (2, .int (nI l))]) (st' := [.ref 50, .int (nI l)]) (by rfl) ?_
                                    refine zq_gfi hc hH (by rfl) (ci := 6) (f := 49) (by rfl) (by decide +kernel) (by rfl) ?_
                                    refine zV1 (Z := Z) (Eq.trans (ui_k (by first | decide | omega)) (Eq.trans (ui_k (by first | decide | omega)) (ui_k (by first | decide | omega)))) ?_
                                    rw [hc49]
                                    refine zq_ic hc hH (by rfl) (tg := 169) (by rfl) (fun h18 => ?_) (fun h18 => ?_)
                                    · have h18 : (decide ((nI l) = (nI (l + 1)))) = true := decide_eq_true (cm_eq9.mp h18)
                                      exact absurd (Eq.trans (Eq.symm (kn_ne (by omega) (by omega) (by omega))) h18) (by decide)
                                    · have h18 : (decide ((nI l) = (nI (l + 1)))) = false := decide_eq_false (cn_eq.mp h18)
                                      refine z_rcs0 hc hH 4 (pc' := 166) (lv' := [(3, .int (nI l)), (0, .ref 50), (1, .int (nI s)), (2, .int (nI l))]) (st' := [.int (-1), .int (nI l), .int (nI s), .ref 50]) (by rfl) ?_
                                      refine zq_call hc (z_cx_ok hH (by rfl)) (fc_X7_gives d' (by omega) (z_ui (z_ui (z_ui μ 50 0 0) 50 50 (nI (l + 1))) 50 51 (-1)) s l (-1) hs4 (by omega)) (by decide +kernel) (fun r9 μ9 hq => ?_)
                                      obtain ⟨rfl, rfl⟩ := hq
                                      show Z 0 169 [(3, .int (nI l)), (0, .ref 50), (1, .int (nI s)), (2, .int (nI l))] [] (z_giv (z_ui (z_ui (z_ui μ 50 0 0) 50 50 (nI (l + 1))) 50 51 (-1)) s l (-1))
                                      refine z_rcs0 hc hH 3 (pc' := 148) (lv' := [(3, .int ((nI l) + 1)), (0, .ref 50), (1, .int (nI s)), (2, .int (nI l))]) (st' := [.int ((nI l) + 1)]) (by rfl) ?_
                                      rw [nI_s1]
                                      refine z_rcs0 hc hH 3 (pc' := 151) (lv' := [(3, .int (nI (l + 1))), (0, .ref 50), (1, .int (nI s)), (2, .int (nI l))]) (st' := [.int ((nI l) + 3), .int (nI (l + 1))]) (by rfl) ?_
                                      rw [show nI l + 3 = nI (l + 3) from nI_add l 3]
                                      refine zq_ic hc hH (by rfl) (tg := 175) (by rfl) (fun h19 => ?_) (fun h19 => ?_)
                                      · have h19 : (decide ((nI (l + 3)) ≤ (nI (l + 1)))) = true := decide_eq_true (cm_ge.mp h19)
                                        exact absurd (Eq.trans (Eq.symm (kn_nlf (by omega) (by omega) (by omega))) h19) (by decide)
                                      · have h19 : (decide ((nI (l + 3)) ≤ (nI (l + 1)))) = false := decide_eq_false (cn_ge.mp h19)
                                        refine z_rcs0 hc hH 2 (pc' := 156) (lv' := [(3, .int (nI (l + 1))), (0, .ref 50), (1, .int (nI s)), (2, .int (nI l))]) (st' := [.ref 50, .int (nI (l + 1))]) (by rfl) ?_
                                        refine zq_gfi hc hH (by rfl) (ci := 6) (f := 49) (by rfl) (by decide +kernel) (by rfl) ?_
                                        refine zV1 (Z := Z) (Eq.trans (giv_o (by first | decide | omega)) (Eq.trans (ui_k (by first | decide | omega)) (Eq.trans (ui_k (by first | decide | omega)) (ui_k (by first | decide | omega))))) ?_
                                        rw [hc49]
                                        refine zq_ic hc hH (by rfl) (tg := 169) (by rfl) (fun h20 => ?_) (fun h20 => ?_)
                                        · have h20 : (decide ((nI (l + 1)) = (nI (l + 1)))) = true := decide_eq_true (cm_eq9.mp h20)
                                          refine z_rcs0 hc hH 3 (pc' := 148) (lv' := [(3, .int ((nI (l + 1)) + 1)), (0, .ref 50), (1, .int (nI s)), (2, .int (nI l))]) (st' := [.int ((nI (l + 1)) + 1)]) (by rfl) ?_
                                          rw [show nI (l + 1) + 1 = nI (l + 2) from nI_s1 _]
                                          refine z_rcs0 hc hH 3 (pc' := 151) (lv' := [(3, .int (nI (l + 2))), (0, .ref 50), (1, .int (nI s)), (2, .int (nI l))]) (st' := [.int ((nI l) + 3), .int (nI (l + 2))]) (by rfl) ?_
                                          rw [show nI l + 3 = nI (l + 3) from nI_add l 3]
                                          refine zq_ic hc hH (by rfl) (tg := 175) (by rfl) (fun h21 => ?_) (fun h21 => ?_)
                                          · have h21 : (decide ((nI (l + 3)) ≤ (nI (l + 2)))) = true := decide_eq_true (cm_ge.mp h21)
                                            exact absurd (Eq.trans (Eq.symm (kn_nlf (by omega) (by omega) (by omega))) h21) (by decide)
                                          · have h21 : (decide ((nI (l + 3)) ≤ (nI (l + 2)))) = false := decide_eq_false (cn_ge.mp h21)
                                            refine z_rcs0 hc hH 2 (pc' := 156) (lv' := [(3, .int (nI (l + 2))), (0, .ref 50), (1, .int (nI s)), (2, .int (nI l))]) (st' := [.ref 50, .int (nI (l + 2))]) (by rfl) ?_
                                            refine zq_gfi hc hH (by rfl) (ci := 6) (f := 49) (by rfl) (by decide +kernel) (by rfl) ?_
                                            refine zV1 (Z := Z) (Eq.trans (giv_o (by first | decide | omega)) (Eq.trans (ui_k (by first | decide | omega)) (Eq.trans (ui_k (by first | decide | omega)) (ui_k (by first | decide | omega))))) ?_
                                            rw [hc49]
                                            refine zq_ic hc hH (by rfl) (tg := 169) (by rfl) (fun h22 => ?_) (fun h22 => ?_)
                                            · have h22 : (decide ((nI (l + 2)) = (nI (l + 1)))) = true := decide_eq_true (cm_eq9.mp h22)
                                              exact absurd (Eq.trans (Eq.symm (kn_ne (by omega) (by omega) (by omega))) h22) (by decide)
                                            · have h22 : (decide ((nI (l + 2)) = (nI (l + 1)))) = false := decide_eq_false (cn_eq.mp h22)
                                              refine z_rcs0 hc hH 4 (pc' := 166) (lv' := [(3, .int (nI (l + 2))), (0, .ref 50), (1, .int (nI s)), (2, .int (nI l))]) (st' := [.int (-1), .int (nI (l + 2)), .int (nI s), .ref 50]) (by rfl) ?_
                                              refine zq_call hc (z_cx_ok hH (by rfl)) (fc_X7_gives d' (by omega) (z_giv (z_ui (z_ui (z_ui μ 50 0 0) 50 50 (nI (l + 1))) 50 51 (-1)) s l (-1)) s (l + 2) (-1) hs4 (by omega)) (by decide +kernel) (fun r9 μ9 hq => ?_)
                                              obtain ⟨rfl, rfl⟩ := hq
                                              show Z 0 169 [(3, .int (nI (l + 2))), (0, .ref 50), (1, .int (nI s)), (2, .int (nI l))] [] (z_giv (z_giv (z_ui (z_ui (z_ui μ 50 0 0) 50 50 (nI (l + 1))) 50 51 (-1)) s l (-1)) s (l + 2) (-1))
                                              refine z_rcs0 hc hH 3 (pc' := 148) (lv' := [(3, .int ((nI (l + 2)) + 1)), (0, .ref 50), (1, .int (nI s)), (2, .int (nI l))]) (st' := [.int ((nI (l + 2)) + 1)]) (by rfl) ?_
                                              rw [show nI (l + 2) + 1 = nI (l + 3) from nI_s1 _]
                                              refine z_rcs0 hc hH 3 (pc' := 151) (lv' := [(3, .int (nI (l + 3))), (0, .ref 50), (1, .int (nI s)), (2, .int (nI l))]) (st' := [.int ((nI l) + 3), .int (nI (l + 3))]) (by rfl) ?_
                                              rw [show nI l + 3 = nI (l + 3) from nI_add l 3]
                                              refine zq_ic hc hH (by rfl) (tg := 175) (by rfl) (fun h23 => ?_) (fun h23 => ?_)
                                              · have h23 : (decide ((nI (l + 3)) ≤ (nI (l + 3)))) = true := decide_eq_true (cm_ge.mp h23)
                                                refine z_rcs0 hc hH 2 (pc' := 177) (lv' := [(3, .int (nI (l + 3))), (0, .ref 50), (1, .int (nI s)), (2, .int (nI l))]) (st' := [.int (nI s), .ref 50]) (by rfl) ?_
                                                refine zq_call hc (z_cx_ok hH (by rfl)) (hcd d' (by omega)) (by decide +kernel) (fun r9 μ9 hq => ?_)
                                                obtain ⟨hμ9, rfl⟩ := hq
                                                rw [hμ9]
                                                clear hμ9 μ9
                                                show Z 0 180 [(3, .int (nI (l + 3))), (0, .ref 50), (1, .int (nI s)), (2, .int (nI l))] [.int (nB cd)] _
                                                refine z_rcs0 hc hH 7 (pc' := 189) (lv' := [(4, .int (nI l)), (3, .int (nB cd)), (0, .ref 50), (1, .int (nI s)), (2, .int (nI l))]) (st' := [.int ((nI l) + 3), .int (nI l)]) (by rfl) ?_
                                                rw [show nI l + 3 = nI (l + 3) from nI_add l 3]
                                                refine zq_ic hc hH (by rfl) (tg := 215) (by rfl) (fun h24 => ?_) (fun h24 => ?_)
                                                · have h24 : (decide ((nI (l + 3)) ≤ (nI l))) = true := decide_eq_true (cm_ge.mp h24)
                                                  exact absurd (Eq.trans (Eq.symm (kn_nlf (by omega) (by omega) (by omega))) h24) (by decide)
                                                · have h24 : (decide ((nI (l + 3)) ≤ (nI l))) = false := decide_eq_false (cn_ge.mp h24)
                                                  refine z_rcs0 hc hH 2 (pc' := 195) (lv' := [(4, .int (nI l)), (3, .int (nB cd)), (0, .ref 50), (1, .int (nI s)), (2, .int (nI l))]) (st' := [.ref 50, .int (nI l)]) (by rfl) ?_
                                                  refine zq_gfi hc hH (by rfl) (ci := 6) (f := 49) (by rfl) (by decide +kernel) (by rfl) ?_
                                                  refine zV1 (Z := Z) (Eq.trans (giv_o (by first | decide | omega)) (Eq.trans (giv_o (by first | decide | omega)) (Eq.trans (ui_k (by first | decide | omega)) (Eq.trans (ui_k (by first | decide | omega)) (ui_k (by first | decide | omega)))))) ?_
                                                  rw [hc49]
                                                  refine zq_ic hc hH (by rfl) (tg := 209) (by rfl) (fun h25 => ?_) (fun h25 => ?_)
                                                  · have h25 : (decide ((nI l) = (nI (l + 1)))) = true := decide_eq_true (cm_eq9.mp h25)
                                                    exact absurd (Eq.trans (Eq.symm (kn_ne (by omega) (by omega) (by omega))) h25) (by decide)
                                                  · have h25 : (decide ((nI l) = (nI (l + 1)))) = false := decide_eq_false (cn_eq.mp h25)
                                                    refine z_rcs0 hc hH 4 (pc' := 206) (lv' := [(4, .int (nI l)), (3, .int (nB cd)), (0, .ref 50), (1, .int (nI s)), (2, .int (nI l))]) (st' := [.int 1, .int (nI l), .int (nI s), .ref 50]) (by rfl) ?_
                                                    refine zq_call hc (z_cx_ok hH (by rfl)) (fc_X7_gives d' (by omega) (z_giv (z_giv (z_ui (z_ui (z_ui μ 50 0 0) 50 50 (nI (l + 1))) 50 51 (-1)) s l (-1)) s (l + 2) (-1)) s l 1 hs4 (by omega)) (by decide +kernel) (fun r9 μ9 hq => ?_)
                                                    obtain ⟨rfl, rfl⟩ := hq
                                                    show Z 0 209 [(4, .int (nI l)), (3, .int (nB cd)), (0, .ref 50), (1, .int (nI s)), (2, .int (nI l))] [] (z_giv (z_giv (z_giv (z_ui (z_ui (z_ui μ 50 0 0) 50 50 (nI (l + 1))) 50 51 (-1)) s l (-1)) s (l + 2) (-1)) s l 1)
                                                    refine z_rcs0 hc hH 3 (pc' := 186) (lv' := [(4, .int ((nI l) + 1)), (3, .int (nB cd)), (0, .ref 50), (1, .int (nI s)), (2, .int (nI l))]) (st' := [.int ((nI l) + 1)]) (by rfl) ?_
                                                    rw [nI_s1]
                                                    refine z_rcs0 hc hH 3 (pc' := 189) (lv' := [(4, .int (nI (l + 1))), (3, .int (nB cd)), (0, .ref 50), (1, .int (nI s)), (2, .int (nI l))]) (st' := [.int ((nI l) + 3), .int (nI (l + 1))]) (by rfl) ?_
                                                    rw [show nI l + 3 = nI (l + 3) from nI_add l 3]
                                                    refine zq_ic hc hH (by rfl) (tg := 215) (by rfl) (fun h26 => ?_) (fun h26 => ?_)
                                                    · have h26 : (decide ((nI (l + 3)) ≤ (nI (l + 1)))) = true := decide_eq_true (cm_ge.mp h26)
                                                      exact absurd (Eq.trans (Eq.symm (kn_nlf (by omega) (by omega) (by omega))) h26) (by decide)
                                                    · have h26 : (decide ((nI (l + 3)) ≤ (nI (l + 1)))) = false := decide_eq_false (cn_ge.mp h26)
                                                      refine z_rcs0 hc hH 2 (pc' := 195) (lv' := [(4, .int (nI (l + 1))), (3, .int (nB cd)), (0, .ref 50), (1, .int (nI s)), (2, .int (nI l))]) (st' := [.ref 50, .int (nI (l + 1))]) (by rfl) ?_
                                                      refine zq_gfi hc hH (by rfl) (ci := 6) (f := 49) (by rfl) (by decide +kernel) (by rfl) ?_
                                                      refine zV1 (Z := Z) (Eq.trans (giv_o (by first | decide | omega)) (Eq.trans (giv_o (by first | decide | omega)) (Eq.trans (giv_o (by first | decide | omega)) (Eq.trans (ui_k (by first | decide | omega)) (Eq.trans (ui_k (by first | decide | omega)) (ui_k (by first | decide | omega))))))) ?_
                                                      rw [hc49]
                                                      refine zq_ic hc hH (by rfl) (tg := 209) (by rfl) (fun h27 => ?_) (fun h27 => ?_)
                                                      · have h27 : (decide ((nI (l + 1)) = (nI (l + 1)))) = true := decide_eq_true (cm_eq9.mp h27)
                                                        refine z_rcs0 hc hH 3 (pc' := 186) (lv' := [(4, .int ((nI (l + 1)) + 1)), (3, .int (nB cd)), (0, .ref 50), (1, .int (nI s)), (2, .int (nI l))]) (st' := [.int ((nI (l + 1)) + 1)]) (by rfl) ?_
                                                        rw [show nI (l + 1) + 1 = nI (l + 2) from nI_s1 _]
                                                        refine z_rcs0 hc hH 3 (pc' := 189) (lv' := [(4, .int (nI (l + 2))), (3, .int (nB cd)), (0, .ref 50), (1, .int (nI s)), (2, .int (nI l))]) (st' := [.int ((nI l) + 3), .int (nI (l + 2))]) (by rfl) ?_
                                                        rw [show nI l + 3 = nI (l + 3) from nI_add l 3]
                                                        refine zq_ic hc hH (by rfl) (tg := 215) (by rfl) (fun h28 => ?_) (fun h28 => ?_)
                                                        · have h28 : (decide ((nI (l + 3)) ≤ (nI (l + 2)))) = true := decide_eq_true (cm_ge.mp h28)
                                                          exact absurd (Eq.trans (Eq.symm (kn_nlf (by omega) (by omega) (by omega))) h28) (by decide)
                                                        · have h28 : (decide ((nI (l + 3)) ≤ (nI (l + 2)))) = false := decide_eq_false (cn_ge.mp h28)
                                                          refine z_rcs0 hc hH 2 (pc' := 195) (lv' := [(4, .int (nI (l + 2))), (3, .int (nB cd)), (0, .ref 50), (1, .int (nI s)), (2, .int (nI l))]) (st' := [.ref 50, .int (nI (l + 2))]) (by rfl) ?_
                                                          refine zq_gfi hc hH (by rfl) (ci := 6) (f := 49) (by rfl) (by decide +kernel) (by rfl) ?_
                                                          refine zV1 (Z := Z) (Eq.trans (giv_o (by first | decide | omega)) (Eq.trans (giv_o (by first | decide | omega)) (Eq.trans (giv_o (by first | decide | omega)) (Eq.trans (ui_k (by first | decide | omega)) (Eq.trans (ui_k (by first | decide | omega)) (ui_k (by first | decide | omega))))))) ?_
                                                          rw [hc49]
                                                          refine zq_ic hc hH (by rfl) (tg := 209) (by rfl) (fun h29 => ?_) (fun h29 => ?_)
                                                          · have h29 : (decide ((nI (l + 2)) = (nI (l + 1)))) = true := decide_eq_true (cm_eq9.mp h29)
                                                            exact absurd (Eq.trans (Eq.symm (kn_ne (by omega) (by omega) (by omega))) h29) (by decide)
                                                          · have h29 : (decide ((nI (l + 2)) = (nI (l + 1)))) = false := decide_eq_false (cn_eq.mp h29)
                                                            refine z_rcs0 hc hH 4 (pc' := 206) (lv' := [(4, .int (nI (l + 2))), (3, .int (nB cd)), (0, .ref 50), (1, .int (nI s)), (2, .int (nI l))]) (st' := [.int 1, .int (nI (l + 2)), .int (nI s), .ref 50]) (by rfl) ?_
                                                            refine zq_call hc (z_cx_ok hH (by rfl)) (fc_X7_gives d' (by omega) (z_giv (z_giv (z_giv (z_ui (z_ui (z_ui μ 50 0 0) 50 50 (nI (l + 1))) 50 51 (-1)) s l (-1)) s (l + 2) (-1)) s l 1) s (l + 2) 1 hs4 (by omega)) (by decide +kernel) (fun r9 μ9 hq => ?_)
                                                            obtain ⟨rfl, rfl⟩ := hq
                                                            show Z 0 209 [(4, .int (nI (l + 2))), (3, .int (nB cd)), (0, .ref 50), (1, .int (nI s)), (2, .int (nI l))] [] (z_giv (z_giv (z_giv (z_giv (z_ui (z_ui (z_ui μ 50 0 0) 50 50 (nI (l + 1))) 50 51 (-1)) s l (-1)) s (l + 2) (-1)) s l 1) s (l + 2) 1)
                                                            refine z_rcs0 hc hH 3 (pc' := 186) (lv' := [(4, .int ((nI (l + 2)) + 1)), (3, .int (nB cd)), (0, .ref 50), (1, .int (nI s)), (2, .int (nI l))]) (st' := [.int ((nI (l + 2)) + 1)]) (by rfl) ?_
                                                            rw [show nI (l + 2) + 1 = nI (l + 3) from nI_s1 _]
                                                            refine z_rcs0 hc hH 3 (pc' := 189) (lv' := [(4, .int (nI (l + 3))), (3, .int (nB cd)), (0, .ref 50), (1, .int (nI s)), (2, .int (nI l))]) (st' := [.int ((nI l) + 3), .int (nI (l + 3))]) (by rfl) ?_
                                                            rw [show nI l + 3 = nI (l + 3) from nI_add l 3]
                                                            refine zq_ic hc hH (by rfl) (tg := 215) (by rfl) (fun h30 => ?_) (fun h30 => ?_)
                                                            · have h30 : (decide ((nI (l + 3)) ≤ (nI (l + 3)))) = true := decide_eq_true (cm_ge.mp h30)
                                                              refine z_rcs0 hc hH 1 (pc' := 216) (lv' := [(4, .int (nI (l + 3))), (3, .int (nB cd)), (0, .ref 50), (1, .int (nI s)), (2, .int (nI l))]) (st' := [.int (nB cd)]) (by rfl) ?_
                                                              refine zq_if hc hH (by rfl) (tg := 221) (by rfl) (fun h31 => ?_) (fun h31 => ?_)
                                                              · have h31 : (cd) = true := nB_n.mp (cm_ne.mp h31)
                                                                refine z_rcs0 hc hH 1 (pc' := 222) (lv' := [(4, .int (nI (l + 3))), (3, .int (nB cd)), (0, .ref 50), (1, .int (nI s)), (2, .int (nI l))]) (st' := [.ref 50]) (by rfl) ?_
                                                                refine zq_call hc (z_cx_ok hH (by rfl)) (hov d' (by omega)) (by decide +kernel) (fun r9 W hq => ?_)
                                                                obtain ⟨rfl, hO, hAW⟩ := hq
                                                                show Z 0 225 [(4, .int (nI (l + 3))), (3, .int (nB cd)), (0, .ref 50), (1, .int (nI s)), (2, .int (nI l))] [] W
                                                                refine z_rcs hc hH 6 (pc' := 233) (lv' := [(4, .int (nI l)), (3, .int (nB cd)), (0, .ref 50), (1, .int (nI s)), (2, .int (nI l))]) (st' := [.int ((nI l) + 3), .int (nI l)]) (μ' := W) (by rfl) ?_
                                                                rw [show nI l + 3 = nI (l + 3) from nI_add l 3]
                                                                refine zq_ic hc hH (by rfl) (tg := 259) (by rfl) (fun h32 => ?_) (fun h32 => ?_)
                                                                · have h32 : (decide ((nI (l + 3)) ≤ (nI l))) = true := decide_eq_true (cm_ge.mp h32)
                                                                  exact absurd (Eq.trans (Eq.symm (kn_nlf (by omega) (by omega) (by omega))) h32) (by decide)
                                                                · have h32 : (decide ((nI (l + 3)) ≤ (nI l))) = false := decide_eq_false (cn_ge.mp h32)
                                                                  refine z_rcs hc hH 2 (pc' := 239) (lv' := [(4, .int (nI l)), (3, .int (nB cd)), (0, .ref 50), (1, .int (nI s)), (2, .int (nI l))]) (st' := [.ref 50, .int (nI l)]) (μ' := W) (by rfl) ?_
                                                                  refine zq_gfi hc hH (by rfl) (ci := 6) (f := 49) (by rfl) (by decide +kernel) (by rfl) ?_
                                                                  rw [(hO 50 49 (by omega)).1]
                                                                  rw [o49]
                                                                  refine zq_ic hc hH (by rfl) (tg := 253) (by rfl) (fun h33 => ?_) (fun h33 => ?_)
                                                                  · have h33 : (decide ((nI l) = (nI (l + 1)))) = true := decide_eq_true (cm_eq9.mp h33)
                                                                    exact absurd (Eq.trans (Eq.symm (kn_ne (by omega) (by omega) (by omega))) h33) (by decide)
                                                                  · have h33 : (decide ((nI l) = (nI (l + 1)))) = false := decide_eq_false (cn_eq.mp h33)
                                                                    refine z_rcs hc hH 4 (pc' := 250) (lv' := [(4, .int (nI l)), (3, .int (nB cd)), (0, .ref 50), (1, .int (nI s)), (2, .int (nI l))]) (st' := [.int (-1), .int (nI l), .int (nI s), .ref 50]) (μ' := W) (by rfl) ?_
                                                                    refine zq_call hc (z_cx_ok hH (by rfl)) (fc_X7_gives d' (by omega) W s l (-1) hs4 (by omega)) (by decide +kernel) (fun r9 μ9 hq => ?_)
                                                                    obtain ⟨rfl, rfl⟩ := hq
                                                                    show Z 0 253 [(4, .int (nI l)), (3, .int (nB cd)), (0, .ref 50), (1, .int (nI s)), (2, .int (nI l))] [] (z_giv W s l (-1))
                                                                    refine z_rcs hc hH 3 (pc' := 230) (lv' := [(4, .int ((nI l) + 1)), (3, .int (nB cd)), (0, .ref 50), (1, .int (nI s)), (2, .int (nI l))]) (st' := [.int ((nI l) + 1)]) (μ' := z_giv W s l (-1)) (by rfl) ?_
                                                                    rw [nI_s1]
                                                                    refine z_rcs hc hH 3 (pc' := 233) (lv' := [(4, .int (nI (l + 1))), (3, .int (nB cd)), (0, .ref 50), (1, .int (nI s)), (2, .int (nI l))]) (st' := [.int ((nI l) + 3), .int (nI (l + 1))]) (μ' := z_giv W s l (-1)) (by rfl) ?_
                                                                    rw [show nI l + 3 = nI (l + 3) from nI_add l 3]
                                                                    refine zq_ic hc hH (by rfl) (tg := 259) (by rfl) (fun h34 => ?_) (fun h34 => ?_)
                                                                    · have h34 : (decide ((nI (l + 3)) ≤ (nI (l + 1)))) = true := decide_eq_true (cm_ge.mp h34)
                                                                      exact absurd (Eq.trans (Eq.symm (kn_nlf (by omega) (by omega) (by omega))) h34) (by decide)
                                                                    · have h34 : (decide ((nI (l + 3)) ≤ (nI (l + 1)))) = false := decide_eq_false (cn_ge.mp h34)
                                                                      refine z_rcs hc hH 2 (pc' := 239) (lv' := [(4, .int (nI (l + 1))), (3, .int (nB cd)), (0, .ref 50), (1, .int (nI s)), (2, .int (nI l))]) (st' := [.ref 50, .int (nI (l + 1))]) (μ' := z_giv W s l (-1)) (by rfl) ?_
                                                                      refine zq_gfi hc hH (by rfl) (ci := 6) (f := 49) (by rfl) (by decide +kernel) (by rfl) ?_
                                                                      rw [giv_o (by first | decide | omega), (hO 50 49 (by omega)).1]
                                                                      rw [o49]
                                                                      refine zq_ic hc hH (by rfl) (tg := 253) (by rfl) (fun h35 => ?_) (fun h35 => ?_)
                                                                      · have h35 : (decide ((nI (l + 1)) = (nI (l + 1)))) = true := decide_eq_true (cm_eq9.mp h35)
                                                                        refine z_rcs hc hH 3 (pc' := 230) (lv' := [(4, .int ((nI (l + 1)) + 1)), (3, .int (nB cd)), (0, .ref 50), (1, .int (nI s)), (2, .int (nI l))]) (st' := [.int ((nI (l + 1)) + 1)]) (μ' := z_giv W s l (-1)) (by rfl) ?_
                                                                        rw [show nI (l + 1) + 1 = nI (l + 2) from nI_s1 _]
                                                                        refine z_rcs hc hH 3 (pc' := 233) (lv' := [(4, .int (nI (l + 2))), (3, .int (nB cd)), (0, .ref 50), (1, .int (nI s)), (2, .int (nI l))]) (st' := [.int ((nI l) + 3), .int (nI (l + 2))]) (μ' := z_giv W s l (-1)) (by rfl) ?_
                                                                        rw [show nI l + 3 = nI (l + 3) from nI_add l 3]
                                                                        refine zq_ic hc hH (by rfl) (tg := 259) (by rfl) (fun h36 => ?_) (fun h36 => ?_)
                                                                        · have h36 : (decide ((nI (l + 3)) ≤ (nI (l + 2)))) = true := decide_eq_true (cm_ge.mp h36)
                                                                          exact absurd (Eq.trans (Eq.symm (kn_nlf (by omega) (by omega) (by omega))) h36) (by decide)
                                                                        · have h36 : (decide ((nI (l + 3)) ≤ (nI (l + 2)))) = false := decide_eq_false (cn_ge.mp h36)
                                                                          refine z_rcs hc hH 2 (pc' := 239) (lv' := [(4, .int (nI (l + 2))), (3, .int (nB cd)), (0, .ref 50), (1, .int (nI s)), (2, .int (nI l))]) (st' := [.ref 50, .int (nI (l + 2))]) (μ' := z_giv W s l (-1)) (by rfl) ?_
                                                                          refine zq_gfi hc hH (by rfl) (ci := 6) (f := 49) (by rfl) (by decide +kernel) (by rfl) ?_
                                                                          rw [giv_o (by first | decide | omega), (hO 50 49 (by omega)).1]
                                                                          rw [o49]
                                                                          refine zq_ic hc hH (by rfl) (tg := 253) (by rfl) (fun h37 => ?_) (fun h37 => ?_)
                                                                          · have h37 : (decide ((nI (l + 2)) = (nI (l + 1)))) = true := decide_eq_true (cm_eq9.mp h37)
                                                                            exact absurd (Eq.trans (Eq.symm (kn_ne (by omega) (by omega) (by omega))) h37) (by decide)
                                                                          · have h37 : (decide ((nI (l + 2)) = (nI (l + 1)))) = false := decide_eq_false (cn_eq.mp h37)
                                                                            refine z_rcs hc hH 4 (pc' := 250) (lv' := [(4, .int (nI (l + 2))), (3, .int (nB cd)), (0, .ref 50), (1, .int (nI s)), (2, .int (nI l))]) (st' := [.int (-1), .int (nI (l + 2)), .int (nI s), .ref 50]) (μ' := z_giv W s l (-1)) (by rfl) ?_
                                                                            refine zq_call hc (z_cx_ok hH (by rfl)) (fc_X7_gives d' (by omega) (z_giv W s l (-1)) s (l + 2) (-1) hs4 (by omega)) (by decide +kernel) (fun r9 μ9 hq => ?_)
                                                                            obtain ⟨rfl, rfl⟩ := hq
                                                                            show Z 0 253 [(4, .int (nI (l + 2))), (3, .int (nB cd)), (0, .ref 50), (1, .int (nI s)), (2, .int (nI l))] [] (z_giv (z_giv W s l (-1)) s (l + 2) (-1))
                                                                            refine z_rcs0 hc hH 3 (pc' := 230) (lv' := [(4, .int ((nI (l + 2)) + 1)), (3, .int (nB cd)), (0, .ref 50), (1, .int (nI s)), (2, .int (nI l))]) (st' := [.int ((nI (l + 2)) + 1)]) (by rfl) ?_
                                                                            rw [show nI (l + 2) + 1 = nI (l + 3) from nI_s1 _]
                                                                            refine z_rcs0 hc hH 3 (pc' := 233) (lv' := [(4, .int (nI (l + 3))), (3, .int (nB cd)), (0, .ref 50), (1, .int (nI s)), (2, .int (nI l))]) (st' := [.int ((nI l) + 3), .int (nI (l + 3))]) (by rfl) ?_
                                                                            rw [show nI l + 3 = nI (l + 3) from nI_add l 3]
                                                                            refine zq_ic hc hH (by rfl) (tg := 259) (by rfl) (fun h38 => ?_) (fun h38 => ?_)
                                                                            · have h38 : (decide ((nI (l + 3)) ≤ (nI (l + 3)))) = true := decide_eq_true (cm_ge.mp h38)
                                                                              refine z_rcs0 hc hH 4 (pc' := 263) (lv' := [(4, .int (nI (l + 3))), (3, .int (nB cd)), (0, .ref 50), (1, .int (nI s)), (2, .int (nI l))]) (st' := [.int (nI l), .int 0, .int (nI s), .ref 50]) (by rfl) ?_
                                                                              refine zq_call hc (z_cx_ok hH (by rfl)) (gm_claims d' (by omega) (z_giv (z_giv W s l (-1)) s (l + 2) (-1)) s q 0 (nI l) hs4 hq4 (by rw [giv_o (by first | decide | omega), giv_o (by first | decide | omega), (hO 64 s (by omega)).1]; exact o64)) (by decide +kernel) (fun r9 μ9 hq => ?_)
                                                                              obtain ⟨rfl, rfl⟩ := hq
                                                                              show Z 0 266 [(4, .int (nI (l + 3))), (3, .int (nB cd)), (0, .ref 50), (1, .int (nI s)), (2, .int (nI l))] [] (clM (z_giv (z_giv W s l (-1)) s (l + 2) (-1)) s q 0 (nI l))
                                                                              refine z_rcs0 hc hH 1 (pc' := 267) (lv' := [(4, .int (nI (l + 3))), (3, .int (nB cd)), (0, .ref 50), (1, .int (nI s)), (2, .int (nI l))]) (st' := [.int 1]) (by rfl) ?_
                                                                              exact hr 0 267 _ _ _ (some (.int 1)) (by decide +kernel) (z_rx_ok hH (by rfl)) (Or.inl ⟨by simp only [ruC1, h1, h2, h3, h8, h13, h31, Bool.true_or, Bool.true_and, Bool.and_true, Bool.false_and, Bool.and_false, Bool.not_true, Bool.not_false, Bool.or_true, Bool.or_false, Bool.false_or, cond_true, cond_false], rfl, by unfold ruO1; exact SM_cl (SM_giv (SM_giv (hO)))⟩)
                                                                            · have h38 : (decide ((nI (l + 3)) ≤ (nI (l + 3)))) = false := decide_eq_false (cn_ge.mp h38)
                                                                              exact absurd (Eq.trans (Eq.symm (kn_nle (by omega) (by omega) (by omega))) h38) (by decide)
                                                                      · have h35 : (decide ((nI (l + 1)) = (nI (l + 1)))) = false := decide_eq_false (cn_eq.mp h35)
                                                                        exact absurd (Eq.trans (Eq.symm (kn_eq rfl)) h35) (by decide)
                                                              · have h31 : (cd) = false := nB_z.mp (cn_ne.mp h31)
                                                                refine z_rcs hc hH 1 (pc' := 220) (lv' := [(4, .int (nI (l + 3))), (3, .int (nB cd)), (0, .ref 50), (1, .int (nI s)), (2, .int (nI l))]) (st' := [.int 0]) (μ' := z_giv (z_giv (z_giv (z_giv (z_ui (z_ui (z_ui μ 50 0 0) 50 50 (nI (l + 1))) 50 51 (-1)) s l (-1)) s (l + 2) (-1)) s l 1) s (l + 2) 1) (by rfl) ?_
                                                                exact hr 0 220 _ _ _ (some (.int 0)) (by decide +kernel) (z_rx_ok hH (by rfl)) (Or.inr ⟨by simp only [ruC1, h1, h2, h3, h8, h13, h31, Bool.true_or, Bool.true_and, Bool.and_true, Bool.false_and, Bool.and_false, Bool.not_true, Bool.not_false, Bool.or_true, Bool.or_false, Bool.false_or, cond_true, cond_false], rfl, Or.inr rfl⟩)
                                                            · have h30 : (decide ((nI (l + 3)) ≤ (nI (l + 3)))) = false := decide_eq_false (cn_ge.mp h30)
                                                              exact absurd (Eq.trans (Eq.symm (kn_nle (by omega) (by omega) (by omega))) h30) (by decide)
                                                      · have h27 : (decide ((nI (l + 1)) = (nI (l + 1)))) = false := decide_eq_false (cn_eq.mp h27)
                                                        exact absurd (Eq.trans (Eq.symm (kn_eq rfl)) h27) (by decide)
                                              · have h23 : (decide ((nI (l + 3)) ≤ (nI (l + 3)))) = false := decide_eq_false (cn_ge.mp h23)
                                                exact absurd (Eq.trans (Eq.symm (kn_nle (by omega) (by omega) (by omega))) h23) (by decide)
                                        · have h20 : (decide ((nI (l + 1)) = (nI (l + 1)))) = false := decide_eq_false (cn_eq.mp h20)
                                          exact absurd (Eq.trans (Eq.symm (kn_eq rfl)) h20) (by decide)
                                · have h16 : (decide ((nI (l + 1)) = (nI (l + 2)))) = true := decide_eq_true (cn_ne.mp h16)
                                  exact absurd (Eq.trans (Eq.symm (kn_ne (by omega) (by omega) (by omega))) h16) (by decide)
                              · have h15 : (decide ((nI (l + 1)) = (nI l))) = true := decide_eq_true (cn_ne.mp h15)
                                exact absurd (Eq.trans (Eq.symm (kn_ne (by omega) (by omega) (by omega))) h15) (by decide)
                            · have h14 : (decide ((nI (l + 3)) ≤ (nI (l + 3)))) = false := decide_eq_false (cn_ge.mp h14)
                              exact absurd (Eq.trans (Eq.symm (kn_nle (by omega) (by omega) (by omega))) h14) (by decide)
                          · have h13 : (decide ((μ.1 60 (34 * s + (l + 2))) = 0)) = true := decide_eq_true (cn_ne.mp h13)
                            refine z_rcs hc hH 1 (pc' := 79) (lv' := [(3, .int (nI (l + 2))), (0, .ref 50), (1, .int (nI s)), (2, .int (nI l))]) (st' := [.int 0]) (μ' := z_ui μ 50 0 0) (by rfl) ?_
                            exact hr 0 79 _ _ _ (some (.int 0)) (by decide +kernel) (z_rx_ok hH (by rfl)) (Or.inr ⟨by simp only [ruC1, h1, h2, h3, h8, h13, Bool.true_or, Bool.true_and, Bool.and_true, Bool.false_and, Bool.and_false, Bool.not_true, Bool.not_false, Bool.or_true, Bool.or_false, Bool.false_or, cond_true, cond_false], rfl, Or.inl rfl⟩)
                    · have h10 : (decide ((nI (l + 1)) = (nI (l + 1)))) = false := decide_eq_false (cn_eq.mp h10)
                      exact absurd (Eq.trans (Eq.symm (kn_eq rfl)) h10) (by decide)
                · have h8 : (decide ((μ.1 60 (34 * s + l)) = 0)) = true := decide_eq_true (cn_ne.mp h8)
                  refine z_rcs hc hH 1 (pc' := 79) (lv' := [(3, .int (nI l)), (0, .ref 50), (1, .int (nI s)), (2, .int (nI l))]) (st' := [.int 0]) (μ' := z_ui μ 50 0 0) (by rfl) ?_
                  exact hr 0 79 _ _ _ (some (.int 0)) (by decide +kernel) (z_rx_ok hH (by rfl)) (Or.inr ⟨by simp only [ruC1, h1, h2, h3, h8, Bool.true_or, Bool.true_and, Bool.and_true, Bool.false_and, Bool.and_false, Bool.not_true, Bool.not_false, Bool.or_true, Bool.or_false, Bool.false_or, cond_true, cond_false], rfl, Or.inl rfl⟩)
          · have h5 : (decide ((nI (l + 1)) ≤ (nI (l + 2)))) = false := decide_eq_false (cn_le.mp h5)
            exact absurd (Eq.trans (Eq.symm (kn_nle (by omega) (by omega) (by omega))) h5) (by decide)
noncomputable abbrev ruC2 (μ : zM) (s l u1 : Nat) (mc ir cd : Bool) : Bool := (mc) && ((decide ((nI s) = (nI u1)))) && (ir) && (!(decide ((μ.1 60 (34 * s + l)) = 0))) && (!(decide ((μ.1 60 (34 * s + (l + 1))) = 0))) && (cd)
noncomputable def ruM2 (μ : zM) (s l : Nat) : zM := z_giv (z_giv (z_giv (z_giv (z_ui (z_ui (z_ui μ 50 0 0) 50 50 (nI (l + 2))) 50 51 (bif decide (((nI l) - (nI l) / 9 * 9) ≤ 0) then (-1 : Int32) else (nI l) - 1)) s l (-1)) s (l + 1) (-1)) s l 1) s (l + 1) 1
noncomputable def ruO2 (O : zM) (s l q : Nat) : zM := clM (z_giv (z_giv O s l (-1)) s (l + 1) (-1)) s q 0 (nI l)
theorem gm_run2 (d : Nat) (hd : 702 ≤ d) (μ : zM) (s q l t u1 : Nat) (hs4 : s < 4) (hq4 : q < 4) (hl : l + 2 ≤ 33) (ht4 : t < 4) (ht : μ.1 50 45 = nI t) (hu1 : (t + 1) % 4 = u1) (hu14 : u1 < 4) (hc49 : μ.1 50 49 = nI (l + 2)) (mc : Bool) (hmc : ∀ d, 2 ≤ d → z_C d mi_X7_mayClaim [.ref 50, .int (nI s)] (z_ui μ 50 0 0) (zR (z_ui μ 50 0 0) (.int (nB mc)))) (ir : Bool) (hir : ∀ d, 1 ≤ d → z_C d mi_X7_isRun [.int (nI l)] (z_ui μ 50 0 0) (zR (z_ui μ 50 0 0) (.int (nB ir)))) (cd : Bool) (hcd : ∀ d, 2 ≤ d → z_C d mi_X7_canDiscard [.ref 50, .int (nI s)] (z_giv (z_giv (z_ui (z_ui (z_ui μ 50 0 0) 50 50 (nI (l + 2))) 50 51 (bif decide (((nI l) - (nI l) / 9 * 9) ≤ 0) then (-1 : Int32) else (nI l) - 1)) s l (-1)) s (l + 1) (-1)) (zR (z_giv (z_giv (z_ui (z_ui (z_ui μ 50 0 0) 50 50 (nI (l + 2))) 50 51 (bif decide (((nI l) - (nI l) / 9 * 9) ≤ 0) then (-1 : Int32) else (nI l) - 1)) s l (-1)) s (l + 1) (-1)) (.int (nB cd)))) (O : zM) (hov : ∀ d, 701 ≤ d → z_C d mi_X7_over [.ref 50] (ruM2 μ s l) (fun r W => r = none ∧ SMj O W ∧ a_H W)) (o49 : O.1 50 49 = nI (l + 2)) (o64 : O.1 64 s = nI q) : z_C d mi_X7_run [.ref 50, .int (nI s), .int (nI l)] μ (fun r μ' => (ruC2 μ s l u1 mc ir cd = true ∧ r = some (.int 1) ∧ SMj (ruO2 O s l q) μ') ∨ (ruC2 μ s l u1 mc ir cd = false ∧ r = some (.int 0) ∧ (μ' = z_ui μ 50 0 0 ∨ μ' = ruM2 μ s l))) := by
  refine z_C_in (by decide) (by omega) (fun d' Z ed hc hr => ?_)
  have hH : zH mi_X7_run zt_X7_run 79 7 5 := hh_X7_run
  refine z_rcs hc hH 2 (pc' := 2) (lv' := [(0, .ref 50), (1, .int (nI s)), (2, .int (nI l))]) (st' := [.int 0, .ref 50]) (μ' := μ) (by rfl) ?_
  refine zq_pfi hc hH (by rfl) (ci := 6) (f := 0) (by rfl) (by decide +kernel) (by rfl) ?_
  show Z 0 5 [(0, .ref 50), (1, .int (nI s)), (2, .int (nI l))] [] (z_ui μ 50 0 0)
  refine z_rcs hc hH 2 (pc' := 7) (lv' := [(0, .ref 50), (1, .int (nI s)), (2, .int (nI l))]) (st' := [.int (nI s), .ref 50]) (μ' := z_ui μ 50 0 0) (by rfl) ?_
  refine zq_call hc (z_cx_ok hH (by rfl)) (hmc d' (by omega)) (by decide +kernel) (fun r9 μ9 hq => ?_)
  obtain ⟨hμ9, rfl⟩ := hq
  rw [hμ9]
  clear hμ9 μ9
  show Z 0 10 [(0, .ref 50), (1, .int (nI s)), (2, .int (nI l))] [.int (nB mc)] (z_ui μ 50 0 0)
  refine zq_if hc hH (by rfl) (tg := 50) (by rfl) (fun h1 => ?_) (fun h1 => ?_)
  · have h1 : (mc) = false := nB_z.mp (cm_eq9.mp h1)
    refine z_rcs hc hH 1 (pc' := 51) (lv' := [(0, .ref 50), (1, .int (nI s)), (2, .int (nI l))]) (st' := [.int 0]) (μ' := z_ui μ 50 0 0) (by rfl) ?_
    exact hr 0 51 _ _ _ (some (.int 0)) (by decide +kernel) (z_rx_ok hH (by rfl)) (Or.inr ⟨by simp only [ruC2, h1, Bool.true_or, Bool.true_and, Bool.and_true, Bool.false_and, Bool.and_false, Bool.not_true, Bool.not_false, Bool.or_true, Bool.or_false, Bool.false_or, cond_true, cond_false], rfl, Or.inl rfl⟩)
  · have h1 : (mc) = true := nB_n.mp (cn_eq.mp h1)
    refine z_rcs hc hH 2 (pc' := 15) (lv' := [(0, .ref 50), (1, .int (nI s)), (2, .int (nI l))]) (st' := [.ref 50, .int (nI s)]) (μ' := z_ui μ 50 0 0) (by rfl) ?_
    refine zq_gfi hc hH (by rfl) (ci := 6) (f := 45) (by rfl) (by decide +kernel) (by rfl) ?_
    refine zV1 (Z := Z) (ui_k (by first | decide | omega)) ?_
    rw [ht]
    refine z_rcs hc hH 2 (pc' := 20) (lv' := [(0, .ref 50), (1, .int (nI s)), (2, .int (nI l))]) (st' := [.int ((nI t) + 1), .int (nI s)]) (μ' := z_ui μ 50 0 0) (by rfl) ?_
    rw [nI_s1]
    refine z_rcs hc hH 2 (pc' := 22) (lv' := [(0, .ref 50), (1, .int (nI s)), (2, .int (nI l))]) (st' := [.int ((nI (t + 1)) - (nI (t + 1)) / 4 * 4), .int (nI s)]) (μ' := z_ui μ 50 0 0) (by rfl) ?_
    rw [show nI (t + 1) - nI (t + 1) / 4 * 4 = nI u1 from by rw [rm4 _ (by omega), hu1]]
    refine zq_ic hc hH (by rfl) (tg := 50) (by rfl) (fun h2 => ?_) (fun h2 => ?_)
    · have h2 : (decide ((nI s) = (nI u1))) = false := decide_eq_false (cm_ne.mp h2)
      refine z_rcs hc hH 1 (pc' := 51) (lv' := [(0, .ref 50), (1, .int (nI s)), (2, .int (nI l))]) (st' := [.int 0]) (μ' := z_ui μ 50 0 0) (by rfl) ?_
      exact hr 0 51 _ _ _ (some (.int 0)) (by decide +kernel) (z_rx_ok hH (by rfl)) (Or.inr ⟨by simp only [ruC2, h1, h2, Bool.true_or, Bool.true_and, Bool.and_true, Bool.false_and, Bool.and_false, Bool.not_true, Bool.not_false, Bool.or_true, Bool.or_false, Bool.false_or, cond_true, cond_false], rfl, Or.inl rfl⟩)
    · have h2 : (decide ((nI s) = (nI u1))) = true := decide_eq_true (cn_ne.mp h2)
      refine z_rcs hc hH 1 (pc' := 26) (lv' := [(0, .ref 50), (1, .int (nI s)), (2, .int (nI l))]) (st' := [.int (nI l)]) (μ' := z_ui μ 50 0 0) (by rfl) ?_
      refine zq_call hc (z_cx_ok hH (by rfl)) (hir d' (by omega)) (by decide +kernel) (fun r9 μ9 hq => ?_)
      obtain ⟨hμ9, rfl⟩ := hq
      rw [hμ9]
      clear hμ9 μ9
      show Z 0 29 [(0, .ref 50), (1, .int (nI s)), (2, .int (nI l))] [.int (nB ir)] (z_ui μ 50 0 0)
      refine zq_if hc hH (by rfl) (tg := 50) (by rfl) (fun h3 => ?_) (fun h3 => ?_)
      · have h3 : (ir) = false := nB_z.mp (cm_eq9.mp h3)
        refine z_rcs hc hH 1 (pc' := 51) (lv' := [(0, .ref 50), (1, .int (nI s)), (2, .int (nI l))]) (st' := [.int 0]) (μ' := z_ui μ 50 0 0) (by rfl) ?_
        exact hr 0 51 _ _ _ (some (.int 0)) (by decide +kernel) (z_rx_ok hH (by rfl)) (Or.inr ⟨by simp only [ruC2, h1, h2, h3, Bool.true_or, Bool.true_and, Bool.and_true, Bool.false_and, Bool.and_false, Bool.not_true, Bool.not_false, Bool.or_true, Bool.or_false, Bool.false_or, cond_true, cond_false], rfl, Or.inl rfl⟩)
      · have h3 : (ir) = true := nB_n.mp (cn_eq.mp h3)
        refine z_rcs hc hH 1 (pc' := 33) (lv' := [(0, .ref 50), (1, .int (nI s)), (2, .int (nI l))]) (st' := [.ref 50]) (μ' := z_ui μ 50 0 0) (by rfl) ?_
        refine zq_gfi hc hH (by rfl) (ci := 6) (f := 49) (by rfl) (by decide +kernel) (by rfl) ?_
        refine zV1 (Z := Z) (ui_k (by first | decide | omega)) ?_
        rw [hc49]
        refine z_rcs hc hH 1 (pc' := 37) (lv' := [(0, .ref 50), (1, .int (nI s)), (2, .int (nI l))]) (st' := [.int (nI l), .int (nI (l + 2))]) (μ' := z_ui μ 50 0 0) (by rfl) ?_
        refine zq_ic hc hH (by rfl) (tg := 50) (by rfl) (fun h4 => ?_) (fun h4 => ?_)
        · have h4 : (decide ((nI (l + 2)) < (nI l))) = true := decide_eq_true (cm_lt.mp h4)
          exact absurd (Eq.trans (Eq.symm (kn_nlg (by omega) (by omega) (by omega))) h4) (by decide)
        · have h4 : (decide ((nI (l + 2)) < (nI l))) = false := decide_eq_false (cn_lt.mp h4)
          refine z_rcs hc hH 1 (pc' := 41) (lv' := [(0, .ref 50), (1, .int (nI s)), (2, .int (nI l))]) (st' := [.ref 50]) (μ' := z_ui μ 50 0 0) (by rfl) ?_
          refine zq_gfi hc hH (by rfl) (ci := 6) (f := 49) (by rfl) (by decide +kernel) (by rfl) ?_
          refine zV1 (Z := Z) (ui_k (by first | decide | omega)) ?_
          rw [hc49]
          refine z_rcs hc hH 3 (pc' := 47) (lv' := [(0, .ref 50), (1, .int (nI s)), (2, .int (nI l))]) (st' := [.int ((nI l) + 2), .int (nI (l + 2))]) (μ' := z_ui μ 50 0 0) (by rfl) ?_
          rw [show nI l + 2 = nI (l + 2) from nI_add l 2]
          refine zq_ic hc hH (by rfl) (tg := 52) (by rfl) (fun h5 => ?_) (fun h5 => ?_)
          · have h5 : (decide ((nI (l + 2)) ≤ (nI (l + 2)))) = true := decide_eq_true (cm_le.mp h5)
            refine z_rcs hc hH 6 (pc' := 58) (lv' := [(3, .int (nI l)), (0, .ref 50), (1, .int (nI s)), (2, .int (nI l))]) (st' := [.int ((nI l) + 3), .int (nI l)]) (μ' := z_ui μ 50 0 0) (by rfl) ?_
            rw [show nI l + 3 = nI (l + 3) from nI_add l 3]
            refine zq_ic hc hH (by rfl) (tg := 86) (by rfl) (fun h6 => ?_) (fun h6 => ?_)
            · have h6 : (decide ((nI (l + 3)) ≤ (nI l))) = true := decide_eq_true (cm_ge.mp h6)
              exact absurd (Eq.trans (Eq.symm (kn_nlf (by omega) (by omega) (by omega))) h6) (by decide)
            · have h6 : (decide ((nI (l + 3)) ≤ (nI l))) = false := decide_eq_false (cn_ge.mp h6)
              refine z_rcs hc hH 2 (pc' := 63) (lv' := [(3, .int (nI l)), (0, .ref 50), (1, .int (nI s)), (2, .int (nI l))]) (st' := [.ref 50, .int (nI l)]) (μ' := z_ui μ 50 0 0) (by rfl) ?_
              refine zq_gfi hc hH (by rfl) (ci := 6) (f := 49) (by rfl) (by decide +kernel) (by rfl) ?_
              refine zV1 (Z := Z) (ui_k (by first | decide | omega)) ?_
              rw [hc49]
              refine zq_ic hc hH (by rfl) (tg := 80) (by rfl) (fun h7 => ?_) (fun h7 => ?_)
              · have h7 : (decide ((nI l) = (nI (l + 2)))) = true := decide_eq_true (cm_eq9.mp h7)
                exact absurd (Eq.trans (Eq.symm (kn_ne (by omega) (by omega) (by omega))) h7) (by decide)
              · have h7 : (decide ((nI l) = (nI (l + 2)))) = false := decide_eq_false (cn_eq.mp h7)
                refine z_rcs hc hH 3 (pc' := 72) (lv' := [(3, .int (nI l)), (0, .ref 50), (1, .int (nI s)), (2, .int (nI l))]) (st' := [.int (nI l), .int (nI s), .ref 50]) (μ' := z_ui μ 50 0 0) (by rfl) ?_
                refine zq_call hc (z_cx_ok hH (by rfl)) (fc_X7_has_ d' (by omega) (z_ui μ 50 0 0) s l hs4 (by omega)) (by decide +kernel) (fun r9 μ9 hq => ?_)
                obtain ⟨hμ9, rfl⟩ := hq
                rw [hμ9]
                clear hμ9 μ9
                rw [ui_o (by first | decide | omega)]
                show Z 0 75 [(3, .int (nI l)), (0, .ref 50), (1, .int (nI s)), (2, .int (nI l))] [.int (μ.1 60 (34 * s + l))] (z_ui μ 50 0 0)
                refine zq_if hc hH (by rfl) (tg := 80) (by rfl) (fun h8 => ?_) (fun h8 => ?_)
                · have h8 : (decide ((μ.1 60 (34 * s + l)) = 0)) = false := decide_eq_false (cm_ne.mp h8)
                  refine z_rcs hc hH 3 (pc' := 55) (lv' := [(3, .int ((nI l) + 1)), (0, .ref 50), (1, .int (nI s)), (2, .int (nI l))]) (st' := [.int ((nI l) + 1)]) (μ' := z_ui μ 50 0 0) (by rfl) ?_
                  rw [nI_s1]
                  refine z_rcs hc hH 3 (pc' := 58) (lv' := [(3, .int (nI (l + 1))), (0, .ref 50), (1, .int (nI s)), (2, .int (nI l))]) (st' := [.int ((nI l) + 3), .int (nI (l + 1))]) (μ' := z_ui μ 50 0 0) (by rfl) ?_
                  rw [show nI l + 3 = nI (l + 3) from nI_add l 3]
                  refine zq_ic hc hH (by rfl) (tg := 86) (by rfl) (fun h9 => ?_) (fun h9 => ?_)
                  · have h9 : (decide ((nI (l + 3)) ≤ (nI (l + 1)))) = true := decide_eq_true (cm_ge.mp h9)
                    exact absurd (Eq.trans (Eq.symm (kn_nlf (by omega) (by omega) (by omega))) h9) (by decide)
                  · have h9 : (decide ((nI (l + 3)) ≤ (nI (l + 1)))) = false := decide_eq_false (cn_ge.mp h9)
                    refine z_rcs hc hH 2 (pc' := 63) (lv' := [(3, .int (nI (l + 1))), (0, .ref 50), (1, .int (nI s)), (2, .int (nI l))]) (st' := [.ref 50, .int (nI (l + 1))]) (μ' := z_ui μ 50 0 0) (by rfl) ?_
                    refine zq_gfi hc hH (by rfl) (ci := 6) (f := 49) (by rfl) (by decide +kernel) (by rfl) ?_
                    refine zV1 (Z := Z) (ui_k (by first | decide | omega)) ?_
                    rw [hc49]
                    refine zq_ic hc hH (by rfl) (tg := 80) (by rfl) (fun h10 => ?_) (fun h10 => ?_)
                    · have h10 : (decide ((nI (l + 1)) = (nI (l + 2)))) = true := decide_eq_true (cm_eq9.mp h10)
                      exact absurd (Eq.trans (Eq.symm (kn_ne (by omega) (by omega) (by omega))) h10) (by decide)
                    · have h10 : (decide ((nI (l + 1)) = (nI (l + 2)))) = false := decide_eq_false (cn_eq.mp h10)
                      refine z_rcs hc hH 3 (pc' := 72) (lv' := [(3, .int (nI (l + 1))), (0, .ref 50), (1, .int (nI s)), (2, .int (nI l))]) (st' := [.int (nI (l + 1)), .int (nI s), .ref 50]) (μ' := z_ui μ 50 0 0) (by rfl) ?_
                      refine zq_call hc (z_cx_ok hH (by rfl)) (fc_X7_has_ d' (by omega) (z_ui μ 50 0 0) s (l + 1) hs4 (by omega)) (by decide +kernel) (fun r9 μ9 hq => ?_)
                      obtain ⟨hμ9, rfl⟩ := hq
                      rw [hμ9]
                      clear hμ9 μ9
                      rw [ui_o (by first | decide | omega)]
                      show Z 0 75 [(3, .int (nI (l + 1))), (0, .ref 50), (1, .int (nI s)), (2, .int (nI l))] [.int (μ.1 60 (34 * s + (l + 1)))] (z_ui μ 50 0 0)
                      refine zq_if hc hH (by rfl) (tg := 80) (by rfl) (fun h11 => ?_) (fun h11 => ?_)
                      · have h11 : (decide ((μ.1 60 (34 * s + (l + 1))) = 0)) = false := decide_eq_false (cm_ne.mp h11)
                        refine z_rcs hc hH 3 (pc' := 55) (lv' := [(3, .int ((nI (l + 1)) + 1)), (0, .ref 50), (1, .int (nI s)), (2, .int (nI l))]) (st' := [.int ((nI (l + 1)) + 1)]) (μ' := z_ui μ 50 0 0) (by rfl) ?_
                        rw [show nI (l + 1) + 1 = nI (l + 2) from nI_s1 _]
                        refine z_rcs hc hH 3 (pc' := 58) (lv' := [(3, .int (nI (l + 2))), (0, .ref 50), (1, .int (nI s)), (2, .int (nI l))]) (st' := [.int ((nI l) + 3), .int (nI (l + 2))]) (μ' := z_ui μ 50 0 0) (by rfl) ?_
                        rw [show nI l + 3 = nI (l + 3) from nI_add l 3]
                        refine zq_ic hc hH (by rfl) (tg := 86) (by rfl) (fun h12 => ?_) (fun h12 => ?_)
                        · have h12 : (decide ((nI (l + 3)) ≤ (nI (l + 2)))) = true := decide_eq_true (cm_ge.mp h12)
                          exact absurd (Eq.trans (Eq.symm (kn_nlf (by omega) (by omega) (by omega))) h12) (by decide)
                        · have h12 : (decide ((nI (l + 3)) ≤ (nI (l + 2)))) = false := decide_eq_false (cn_ge.mp h12)
                          refine z_rcs hc hH 2 (pc' := 63) (lv' := [(3, .int (nI (l + 2))), (0, .ref 50), (1, .int (nI s)), (2, .int (nI l))]) (st' := [.ref 50, .int (nI (l + 2))]) (μ' := z_ui μ 50 0 0) (by rfl) ?_
                          refine zq_gfi hc hH (by rfl) (ci := 6) (f := 49) (by rfl) (by decide +kernel) (by rfl) ?_
                          refine zV1 (Z := Z) (ui_k (by first | decide | omega)) ?_
                          rw [hc49]
                          refine zq_ic hc hH (by rfl) (tg := 80) (by rfl) (fun h13 => ?_) (fun h13 => ?_)
                          · have h13 : (decide ((nI (l + 2)) = (nI (l + 2)))) = true := decide_eq_true (cm_eq9.mp h13)
                            refine z_rcs hc hH 3 (pc' := 55) (lv' := [(3, .int ((nI (l + 2)) + 1)), (0, .ref 50), (1, .int (nI s)), (2, .int (nI l))]) (st' := [.int ((nI (l + 2)) + 1)]) (μ' := z_ui μ 50 0 0) (by rfl) ?_
                            rw [show nI (l + 2) + 1 = nI (l + 3) from nI_s1 _]
                            refine z_rcs hc hH 3 (pc' := 58) (lv' := [(3, .int (nI (l + 3))), (0, .ref 50), (1, .int (nI s)), (2, .int (nI l))]) (st' := [.int ((nI l) + 3), .int (nI (l + 3))]) (μ' := z_ui μ 50 0 0) (by rfl) ?_
                            rw [show nI l + 3 = nI (l + 3) from nI_add l 3]
                            refine zq_ic hc hH (by rfl) (tg := 86) (by rfl) (fun h14 => ?_) (fun h14 => ?_)
                            · have h14 : (decide ((nI (l + 3)) ≤ (nI (l + 3)))) = true := decide_eq_true (cm_ge.mp h14)
                              refine z_rcs hc hH 2 (pc' := 88) (lv' := [(3, .int (nI (l + 3))), (0, .ref 50), (1, .int (nI s)), (2, .int (nI l))]) (st' := [.ref 50, .ref 50]) (μ' := z_ui μ 50 0 0) (by rfl) ?_
                              refine zq_gfi hc hH (by rfl) (ci := 6) (f := 49) (by rfl) (by decide +kernel) (by rfl) ?_
                              refine zV1 (Z := Z) (ui_k (by first | decide | omega)) ?_
                              rw [hc49]
                              refine zq_pfi hc hH (by rfl) (ci := 6) (f := 50) (by rfl) (by decide +kernel) (by rfl) ?_
                              show Z 0 94 [(3, .int (nI (l + 3))), (0, .ref 50), (1, .int (nI s)), (2, .int (nI l))] [] (z_ui (z_ui μ 50 0 0) 50 50 (nI (l + 2)))
                              refine z_rcs0 hc hH 2 (pc' := 96) (lv' := [(3, .int (nI (l + 3))), (0, .ref 50), (1, .int (nI s)), (2, .int (nI l))]) (st' := [.ref 50, .ref 50]) (by rfl) ?_
                              refine zq_gfi hc hH (by rfl) (ci := 6) (f := 49) (by rfl) (by decide +kernel) (by rfl) ?_
                              refine zV1 (Z := Z) (Eq.trans (ui_k (by first | decide | omega)) (ui_k (by first | decide | omega))) ?_
                              rw [hc49]
                              refine z_rcs0 hc hH 1 (pc' := 100) (lv' := [(3, .int (nI (l + 3))), (0, .ref 50), (1, .int (nI s)), (2, .int (nI l))]) (st' := [.int (nI l), .int (nI (l + 2)), .ref 50]) (by rfl) ?_
                              refine zq_ic hc hH (by rfl) (tg := 118) (by rfl) (fun h15 => ?_) (fun h15 => ?_)
                              · have h15 : (decide ((nI (l + 2)) = (nI l))) = false := decide_eq_false (cm_ne.mp h15)
                                refine z_rcs0 hc hH 1 (pc' := 119) (lv' := [(3, .int (nI (l + 3))), (0, .ref 50), (1, .int (nI s)), (2, .int (nI l))]) (st' := [.ref 50, .ref 50]) (by rfl) ?_
                                refine zq_gfi hc hH (by rfl) (ci := 6) (f := 49) (by rfl) (by decide +kernel) (by rfl) ?_
                                refine zV1 (Z := Z) (Eq.trans (ui_k (by first | decide | omega)) (ui_k (by first | decide | omega))) ?_
                                rw [hc49]
                                refine z_rcs0 hc hH 3 (pc' := 125) (lv' := [(3, .int (nI (l + 3))), (0, .ref 50), (1, .int (nI s)), (2, .int (nI l))]) (st' := [.int ((nI l) + 2), .int (nI (l + 2)), .ref 50]) (by rfl) ?_
                                rw [show nI l + 2 = nI (l + 2) from nI_add l 2]
                                refine zq_ic hc hH (by rfl) (tg := 141) (by rfl) (fun h16 => ?_) (fun h16 => ?_)
                                · have h16 : (decide ((nI (l + 2)) = (nI (l + 2)))) = false := decide_eq_false (cm_ne.mp h16)
                                  exact absurd (Eq.trans (Eq.symm (kn_eq rfl)) h16) (by decide)
                                · have h16 : (decide ((nI (l + 2)) = (nI (l + 2)))) = true := decide_eq_true (cn_ne.mp h16)
                                  refine z_rcs0 hc hH 3 (pc' := 132) (lv' := [(3, .int (nI (l + 3))), (0, .ref 50), (1, .int (nI s)), (2, .int (nI l))]) (st' := [.int ((nI l) - (nI l) / 9 * 9), .ref 50]) (by rfl) ?_
                                  have hJ17 : Z 0 142 [(3, .int (nI (l + 3))), (0, .ref 50), (1, .int (nI s)), (2, .int (nI l))] [.int (bif decide (((nI l) - (nI l) / 9 * 9) ≤ 0) then (-1 : Int32) else (nI l) - 1), .ref 50] (z_ui (z_ui μ 50 0 0) 50 50 (nI (l + 2))) := by
                                    refine zq_pfi hc hH (by rfl) (ci := 6) (f := 51) (by rfl) (by decide +kernel) (by rfl) ?_
                                    show Z 0 145 [(3, .int (nI (l + 3))), (0, .ref 50), (1, .int (nI s)), (2, .int (nI l))] [] (z_ui (z_ui (z_ui μ 50 0 0) 50 50 (nI (l + 2))) 50 51 (bif decide (((nI l) - (nI l) / 9 * 9) ≤ 0) then (-1 : Int32) else (nI l) - 1))
                                    refine z_rcs0 hc hH 6 (pc' := 151) (lv' := [(3, .int (nI l)), (0, .ref 50), (1, .int (nI s)), (2, .int (nI l))]) (st' := [.int ((nI l) + 3), .int (nI l)]) (by rfl) ?_
                                    rw [show nI l + 3 = nI (l + 3) from nI_add l 3]
                                    refine zq_ic hc hH (by rfl) (tg := 175) (by rfl) (fun h18 => ?_) (fun h18 => ?_)
                                    · have h18 : (decide ((nI (l + 3)) ≤ (nI l))) = true := decide_eq_true (cm_ge.mp h18)
                                      exact absurd (Eq.trans (Eq.symm (kn_nlf (by omega) (by omega) (by omega))) h18) (by decide)
                                    · have h18 : (decide ((nI (l + 3)) ≤ (nI l))) = false := decide_eq_false (cn_ge.mp h18)
                                      refine z_rcs0 hc hH 2 (pc' := 156) (lv' := [(3, .int (nI l)), (0, .ref 50), (1, .int (nI s)), (2, .int (nI l))]) (st' := [.ref 50, .int (nI l)]) (by rfl) ?_
                                      refine zq_gfi hc hH (by rfl) (ci := 6) (f := 49) (by rfl) (by decide +kernel) (by rfl) ?_
                                      refine zV1 (Z := Z) (Eq.trans (ui_k (by first | decide | omega)) (Eq.trans (ui_k (by first | decide | omega)) (ui_k (by first | decide | omega)))) ?_
                                      rw [hc49]
                                      refine zq_ic hc hH (by rfl) (tg := 169) (by rfl) (fun h19 => ?_) (fun h19 => ?_)
                                      · have h19 : (decide ((nI l) = (nI (l + 2)))) = true := decide_eq_true (cm_eq9.mp h19)
                                        exact absurd (Eq.trans (Eq.symm (kn_ne (by omega) (by omega) (by omega))) h19) (by decide)
                                      · have h19 : (decide ((nI l) = (nI (l + 2)))) = false := decide_eq_false (cn_eq.mp h19)
                                        refine z_rcs0 hc hH 4 (pc' := 166) (lv' := [(3, .int (nI l)), (0, .ref 50), (1, .int (nI s)), (2, .int (nI l))]) (st' := [.int (-1), .int (nI l), .int (nI s), .ref 50]) (by rfl) ?_
                                        refine zq_call hc (z_cx_ok hH (by rfl)) (fc_X7_gives d' (by omega) (z_ui (z_ui (z_ui μ 50 0 0) 50 50 (nI (l + 2))) 50 51 (bif decide (((nI l) - (nI l) / 9 * 9) ≤ 0) then (-1 : Int32) else (nI l) - 1)) s l (-1) hs4 (by omega)) (by decide +kernel) (fun r9 μ9 hq => ?_)
                                        obtain ⟨rfl, rfl⟩ := hq
                                        show Z 0 169 [(3, .int (nI l)), (0, .ref 50), (1, .int (nI s)), (2, .int (nI l))] [] (z_giv (z_ui (z_ui (z_ui μ 50 0 0) 50 50 (nI (l + 2))) 50 51 (bif decide (((nI l) - (nI l) / 9 * 9) ≤ 0) then (-1 : Int32) else (nI l) - 1)) s l (-1))
                                        refine z_rcs0 hc hH 3 (pc' := 148) (lv' := [(3, .int ((nI l) + 1)), (0, .ref 50), (1, .int (nI s)), (2, .int (nI l))]) (st' := [.int ((nI l) + 1)]) (by rfl) ?_
                                        rw [nI_s1]
                                        refine z_rcs0 hc hH 3 (pc' := 151) (lv' := [(3, .int (nI (l + 1))), (0, .ref 50), (1, .int (nI s)), (2, .int (nI l))]) (st' := [.int ((nI l) + 3), .int (nI (l + 1))]) (by rfl) ?_
                                        rw [show nI l + 3 = nI (l + 3) from nI_add l 3]
                                        refine zq_ic hc hH (by rfl) (tg := 175) (by rfl) (fun h20 => ?_) (fun h20 => ?_)
                                        · have h20 : (decide ((nI (l + 3)) ≤ (nI (l + 1)))) = true := decide_eq_true (cm_ge.mp h20)
                                          exact absurd (Eq.trans (Eq.symm (kn_nlf (by omega) (by omega) (by omega))) h20) (by decide)
                                        · have h20 : (decide ((nI (l + 3)) ≤ (nI (l + 1)))) = false := decide_eq_false (cn_ge.mp h20)
                                          refine z_rcs0 hc hH 2 (pc' := 156) (lv' := [(3, .int (nI (l + 1))), (0, .ref 50), (1, .int (nI s)), (2, .int (nI l))]) (st' := [.ref 50, .int (nI (l + 1))]) (by rfl) ?_
                                          refine zq_gfi hc hH (by rfl) (ci := 6) (f := 49) (by rfl) (by decide +kernel) (by rfl) ?_
                                          refine zV1 (Z := Z) (Eq.trans (giv_o (by first | decide | omega)) (Eq.trans (ui_k (by first | decide | omega)) (Eq.trans (ui_k (by first | decide | omega)) (ui_k (by first | decide | omega))))) ?_
                                          rw [hc49]
                                          refine zq_ic hc hH (by rfl) (tg := 169) (by rfl) (fun h21 => ?_) (fun h21 => ?_)
                                          · have h21 : (decide ((nI (l + 1)) = (nI (l + 2)))) = true := decide_eq_true (cm_eq9.mp h21)
                                            exact absurd (Eq.trans (Eq.symm (kn_ne (by omega) (by omega) (by omega))) h21) (by decide)
                                          · have h21 : (decide ((nI (l + 1)) = (nI (l + 2)))) = false := decide_eq_false (cn_eq.mp h21)
                                            refine z_rcs0 hc hH 4 (pc' := 166) (lv' := [(3, .int (nI (l + 1))), (0, .ref 50), (1, .int (nI s)), (2, .int (nI l))]) (st' := [.int (-1), .int (nI (l + 1)), .int (nI s), .ref 50]) (by rfl) ?_
                                            refine zq_call hc (z_cx_ok hH (by rfl)) (fc_X7_gives d' (by omega) (z_giv (z_ui (z_ui (z_ui μ 50 0 0) 50 50 (nI (l + 2))) 50 51 (bif decide (((nI l) - (nI l) / 9 * 9) ≤ 0) then (-1 : Int32) else (nI l) - 1)) s l (-1)) s (l + 1) (-1) hs4 (by omega)) (by decide +kernel) (fun r9 μ9 hq => ?_)
                                            obtain ⟨rfl, rfl⟩ := hq
                                            show Z 0 169 [(3, .int (nI (l + 1))), (0, .ref 50), (1, .int (nI s)), (2, .int (nI l))] [] (z_giv (z_giv (z_ui (z_ui (z_ui μ 50 0 0) 50 50 (nI (l + 2))) 50 51 (bif decide (((nI l) - (nI l) / 9 * 9) ≤ 0) then (-1 : Int32) else (nI l) - 1)) s l (-1)) s (l + 1) (-1))
                                            refine z_rcs0 hc hH 3 (pc' := 148) (lv' := [(3, .int ((nI (l + 1)) + 1)), (0, .ref 50), (1, .int (nI s)), (2, .int (nI l))]) (st' := [.int ((nI (l + 1)) + 1)]) (by rfl) ?_
                                            rw [show nI (l + 1) + 1 = nI (l + 2) from nI_s1 _]
                                            refine z_rcs0 hc hH 3 (pc' := 151) (lv' := [(3, .int (nI (l + 2))), (0, .ref 50), (1, .int (nI s)), (2, .int (nI l))]) (st' := [.int ((nI l) + 3), .int (nI (l + 2))]) (by rfl) ?_
                                            rw [show nI l + 3 = nI (l + 3) from nI_add l 3]
                                            refine zq_ic hc hH (by rfl) (tg := 175) (by rfl) (fun h22 => ?_) (fun h22 => ?_)
                                            · have h22 : (decide ((nI (l + 3)) ≤ (nI (l + 2)))) = true := decide_eq_true (cm_ge.mp h22)
                                              exact absurd (Eq.trans (Eq.symm (kn_nlf (by omega) (by omega) (by omega))) h22) (by decide)
                                            · have h22 : (decide ((nI (l + 3)) ≤ (nI (l + 2)))) = false := decide_eq_false (cn_ge.mp h22)
                                              refine z_rcs0 hc hH 2 (pc' := 156) (lv' := [(3, .int (nI (l + 2))), (0, .ref 50), (1, .int (nI s)), (2, .int (nI l))]) (st' := [.ref 50, .int (nI (l + 2))]) (by rfl) ?_
                                              refine zq_gfi hc hH (by rfl) (ci := 6) (f := 49) (by rfl) (by decide +kernel) (by rfl) ?_
                                              refine zV1 (Z := Z) (Eq.trans (giv_o (by first | decide | omega)) (Eq.trans (giv_o (by first | decide | omega)) (Eq.trans (ui_k (by first | decide | omega)) (Eq.trans (ui_k (by first | decide | omega)) (ui_k (by first | decide | omega)))))) ?_
                                              rw [hc49]
                                              refine zq_ic hc hH (by rfl) (tg := 169) (by rfl) (fun h23 => ?_) (fun h23 => ?_)
                                              · have h23 : (decide ((nI (l + 2)) = (nI (l + 2)))) = true := decide_eq_true (cm_eq9.mp h23)
                                                refine z_rcs0 hc hH 3 (pc' := 148) (lv' := [(3, .int ((nI (l + 2)) + 1)), (0, .ref 50), (1, .int (nI s)), (2, .int (nI l))]) (st' := [.int ((nI (l + 2)) + 1)]) (by rfl) ?_
                                                rw [show nI (l + 2) + 1 = nI (l + 3) from nI_s1 _]
                                                refine z_rcs0 hc hH 3 (pc' := 151) (lv' := [(3, .int (nI (l + 3))), (0, .ref 50), (1, .int (nI s)), (2, .int (nI l))]) (st' := [.int ((nI l) + 3), .int (nI (l + 3))]) (by rfl) ?_
                                                rw [show nI l + 3 = nI (l + 3) from nI_add l 3]
                                                refine zq_ic hc hH (by rfl) (tg := 175) (by rfl) (fun h24 => ?_) (fun h24 => ?_)
                                                · have h24 : (decide ((nI (l + 3)) ≤ (nI (l + 3)))) = true := decide_eq_true (cm_ge.mp h24)
                                                  refine z_rcs0 hc hH 2 (pc' := 177) (lv' := [(3, .int (nI (l + 3))), (0, .ref 50), (1, .int (nI s)), (2, .int (nI l))]) (st' := [.int (nI s), .ref 50]) (by rfl) ?_
                                                  refine zq_call hc (z_cx_ok hH (by rfl)) (hcd d' (by omega)) (by decide +kernel) (fun r9 μ9 hq => ?_)
                                                  obtain ⟨hμ9, rfl⟩ := hq
                                                  rw [hμ9]
                                                  clear hμ9 μ9
                                                  show Z 0 180 [(3, .int (nI (l + 3))), (0, .ref 50), (1, .int (nI s)), (2, .int (nI l))] [.int (nB cd)] _
                                                  refine z_rcs0 hc hH 7 (pc' := 189) (lv' := [(4, .int (nI l)), (3, .int (nB cd)), (0, .ref 50), (1, .int (nI s)), (2, .int (nI l))]) (st' := [.int ((nI l) + 3), .int (nI l)]) (by rfl) ?_
                                                  rw [show nI l + 3 = nI (l + 3) from nI_add l 3]
                                                  refine zq_ic hc hH (by rfl) (tg := 215) (by rfl) (fun h25 => ?_) (fun h25 => ?_)
                                                  · have h25 : (decide ((nI (l + 3)) ≤ (nI l))) = true := decide_eq_true (cm_ge.mp h25)
                                                    exact absurd (Eq.trans (Eq.symm (kn_nlf (by omega) (by omega) (by omega))) h25) (by decide)
                                                  · have h25 : (decide ((nI (l + 3)) ≤ (nI l))) = false := decide_eq_false (cn_ge.mp h25)
                                                    refine z_rcs0 hc hH 2 (pc' := 195) (lv' := [(4, .int (nI l)), (3, .int (nB cd)), (0, .ref 50), (1, .int (nI s)), (2, .int (nI l))]) (st' := [.ref 50, .int (nI l)]) (by rfl) ?_
                                                    refine zq_gfi hc hH (by rfl) (ci := 6) (f := 49) (by rfl) (by decide +kernel) (by rfl) ?_
                                                    refine zV1 (Z := Z) (Eq.trans (giv_o (by first | decide | omega)) (Eq.trans (giv_o (by first | decide | omega)) (Eq.trans (ui_k (by first | decide | omega)) (Eq.trans (ui_k (by first | decide | omega)) (ui_k (by first | decide | omega)))))) ?_
                                                    rw [hc49]
                                                    refine zq_ic hc hH (by rfl) (tg := 209) (by rfl) (fun h26 => ?_) (fun h26 => ?_)
                                                    · have h26 : (decide ((nI l) = (nI (l + 2)))) = true := decide_eq_true (cm_eq9.mp h26)
                                                      exact absurd (Eq.trans (Eq.symm (kn_ne (by omega) (by omega) (by omega))) h26) (by decide)
                                                    · have h26 : (decide ((nI l) = (nI (l + 2)))) = false := decide_eq_false (cn_eq.mp h26)
                                                      refine z_rcs0 hc hH 4 (pc' := 206) (lv' := [(4, .int (nI l)), (3, .int (nB cd)), (0, .ref 50), (1, .int (nI s)), (2, .int (nI l))]) (st' := [.int 1, .int (nI l), .int (nI s), .ref 50]) (by rfl) ?_
                                                      refine zq_call hc (z_cx_ok hH (by rfl)) (fc_X7_gives d' (by omega) (z_giv (z_giv (z_ui (z_ui (z_ui μ 50 0 0) 50 50 (nI (l + 2))) 50 51 (bif decide (((nI l) - (nI l) / 9 * 9) ≤ 0) then (-1 : Int32) else (nI l) - 1)) s l (-1)) s (l + 1) (-1)) s l 1 hs4 (by omega)) (by decide +kernel) (fun r9 μ9 hq => ?_)
                                                      obtain ⟨rfl, rfl⟩ := hq
                                                      show Z 0 209 [(4, .int (nI l)), (3, .int (nB cd)), (0, .ref 50), (1, .int (nI s)), (2, .int (nI l))] [] (z_giv (z_giv (z_giv (z_ui (z_ui (z_ui μ 50 0 0) 50 50 (nI (l + 2))) 50 51 (bif decide (((nI l) - (nI l) / 9 * 9) ≤ 0) then (-1 : Int32) else (nI l) - 1)) s l (-1)) s (l + 1) (-1)) s l 1)
                                                      refine z_rcs0 hc hH 3 (pc' := 186) (lv' := [(4, .int ((nI l) + 1)), (3, .int (nB cd)), (0, .ref 50), (1, .int (nI s)), (2, .int (nI l))]) (st' := [.int ((nI l) + 1)]) (by rfl) ?_
                                                      rw [nI_s1]
                                                      refine z_rcs0 hc hH 3 (pc' := 189) (lv' := [(4, .int (nI (l + 1))), (3, .int (nB cd)), (0, .ref 50), (1, .int (nI s)), (2, .int (nI l))]) (st' := [.int ((nI l) + 3), .int (nI (l + 1))]) (by rfl) ?_
                                                      rw [show nI l + 3 = nI (l + 3) from nI_add l 3]
                                                      refine zq_ic hc hH (by rfl) (tg := 215) (by rfl) (fun h27 => ?_) (fun h27 => ?_)
                                                      · have h27 : (decide ((nI (l + 3)) ≤ (nI (l + 1)))) = true := decide_eq_true (cm_ge.mp h27)
                                                        exact absurd (Eq.trans (Eq.symm (kn_nlf (by omega) (by omega) (by omega))) h27) (by decide)
                                                      · have h27 : (decide ((nI (l + 3)) ≤ (nI (l + 1)))) = false := decide_eq_false (cn_ge.mp h27)
                                                        refine z_rcs0 hc hH 2 (pc' := 195) (lv' := [(4, .int (nI (l + 1))), (3, .int (nB cd)), (0, .ref 50), (1, .int (nI s)), (2, .int (nI l))]) (st' := [.ref 50, .int (nI (l + 1))]) (by rfl) ?_
                                                        refine zq_gfi hc hH (by rfl) (ci := 6) (f := 49) (by rfl) (by decide +kernel) (by rfl) ?_
                                                        refine zV1 (Z := Z) (Eq.trans (giv_o (by first | decide | omega)) (Eq.trans (giv_o (by first | decide | omega)) (Eq.trans (giv_o (by first | decide | omega)) (Eq.trans (ui_k (by first | decide | omega)) (Eq.trans (ui_k (by first | decide | omega)) (ui_k (by first | decide | omega))))))) ?_
                                                        rw [hc49]
                                                        refine zq_ic hc hH (by rfl) (tg := 209) (by rfl) (fun h28 => ?_) (fun h28 => ?_)
                                                        · have h28 : (decide ((nI (l + 1)) = (nI (l + 2)))) = true := decide_eq_true (cm_eq9.mp h28)
                                                          exact absurd (Eq.trans (Eq.symm (kn_ne (by omega) (by omega) (by omega))) h28) (by decide)
                                                        · have h28 : (decide ((nI (l + 1)) = (nI (l + 2)))) = false := decide_eq_false (cn_eq.mp h28)
                                                          refine z_rcs0 hc hH 4 (pc' := 206) (lv' := [(4, .int (nI (l + 1))), (3, .int (nB cd)), (0, .ref 50), (1, .int (nI s)), (2, .int (nI l))]) (st' := [.int 1, .int (nI (l + 1)), .int (nI s), .ref 50]) (by rfl) ?_
                                                          refine zq_call hc (z_cx_ok hH (by rfl)) (fc_X7_gives d' (by omega) (z_giv (z_giv (z_giv (z_ui (z_ui (z_ui μ 50 0 0) 50 50 (nI (l + 2))) 50 51 (bif decide (((nI l) - (nI l) / 9 * 9) ≤ 0) then (-1 : Int32) else (nI l) - 1)) s l (-1)) s (l + 1) (-1)) s l 1) s (l + 1) 1 hs4 (by omega)) (by decide +kernel) (fun r9 μ9 hq => ?_)
                                                          obtain ⟨rfl, rfl⟩ := hq
                                                          show Z 0 209 [(4, .int (nI (l + 1))), (3, .int (nB cd)), (0, .ref 50), (1, .int (nI s)), (2, .int (nI l))] [] (z_giv (z_giv (z_giv (z_giv (z_ui (z_ui (z_ui μ 50 0 0) 50 50 (nI (l + 2))) 50 51 (bif decide (((nI l) - (nI l) / 9 * 9) ≤ 0) then (-1 : Int32) else (nI l) - 1)) s l (-1)) s (l + 1) (-1)) s l 1) s (l + 1) 1)
                                                          refine z_rcs0 hc hH 3 (pc' := 186) (lv' := [(4, .int ((nI (l + 1)) + 1)), (3, .int (nB cd)), (0, .ref 50), (1, .int (nI s)), (2, .int (nI l))]) (st' := [.int ((nI (l + 1)) + 1)]) (by rfl) ?_
                                                          rw [show nI (l + 1) + 1 = nI (l + 2) from nI_s1 _]
                                                          refine z_rcs0 hc hH 3 (pc' := 189) (lv' := [(4, .int (nI (l + 2))), (3, .int (nB cd)), (0, .ref 50), (1, .int (nI s)), (2, .int (nI l))]) (st' := [.int ((nI l) + 3), .int (nI (l + 2))]) (by rfl) ?_
                                                          rw [show nI l + 3 = nI (l + 3) from nI_add l 3]
                                                          refine zq_ic hc hH (by rfl) (tg := 215) (by rfl) (fun h29 => ?_) (fun h29 => ?_)
                                                          · have h29 : (decide ((nI (l + 3)) ≤ (nI (l + 2)))) = true := decide_eq_true (cm_ge.mp h29)
                                                            exact absurd (Eq.trans (Eq.symm (kn_nlf (by omega) (by omega) (by omega))) h29) (by decide)
                                                          · have h29 : (decide ((nI (l + 3)) ≤ (nI (l + 2)))) = false := decide_eq_false (cn_ge.mp h29)
                                                            refine z_rcs0 hc hH 2 (pc' := 195) (lv' := [(4, .int (nI (l + 2))), (3, .int (nB cd)), (0, .ref 50), (1, .int (nI s)), (2, .int (nI l))]) (st' := [.ref 50, .int (nI (l + 2))]) (by rfl) ?_
                                                            refine zq_gfi hc hH (by rfl) (ci := 6) (f := 49) (by rfl) (by decide +kernel) (by rfl) ?_
                                                            refine zV1 (Z := Z) (Eq.trans (giv_o (by first | decide | omega)) (Eq.trans (giv_o (by first | decide | omega)) (Eq.trans (giv_o (by first | decide | omega)) (Eq.trans (giv_o (by first | decide | omega)) (Eq.trans (ui_k (by first | decide | omega)) (Eq.trans (ui_k (by first | decide | omega)) (ui_k (by first | decide | omega)))))))) ?_
                                                            rw [hc49]
                                                            refine zq_ic hc hH (by rfl) (tg := 209) (by rfl) (fun h30 => ?_) (fun h30 => ?_)
                                                            · have h30 : (decide ((nI (l + 2)) = (nI (l + 2)))) = true := decide_eq_true (cm_eq9.mp h30)
                                                              refine z_rcs0 hc hH 3 (pc' := 186) (lv' := [(4, .int ((nI (l + 2)) + 1)), (3, .int (nB cd)), (0, .ref 50), (1, .int (nI s)), (2, .int (nI l))]) (st' := [.int ((nI (l + 2)) + 1)]) (by rfl) ?_
                                                              rw [show nI (l + 2) + 1 = nI (l + 3) from nI_s1 _]
                                                              refine z_rcs0 hc hH 3 (pc' := 189) (lv' := [(4, .int (nI (l + 3))), (3, .int (nB cd)), (0, .ref 50), (1, .int (nI s)), (2, .int (nI l))]) (st' := [.int ((nI l) + 3), .int (nI (l + 3))]) (by rfl) ?_
                                                              rw [show nI l + 3 = nI (l + 3) from nI_add l 3]
                                                              refine zq_ic hc hH (by rfl) (tg := 215) (by rfl) (fun h31 => ?_) (fun h31 => ?_)
                                                              · have h31 : (decide ((nI (l + 3)) ≤ (nI (l + 3)))) = true := decide_eq_true (cm_ge.mp h31)
                                                                refine z_rcs0 hc hH 1 (pc' := 216) (lv' := [(4, .int (nI (l + 3))), (3, .int (nB cd)), (0, .ref 50), (1, .int (nI s)), (2, .int (nI l))]) (st' := [.int (nB cd)]) (by rfl) ?_
                                                                refine zq_if hc hH (by rfl) (tg := 221) (by rfl) (fun h32 => ?_) (fun h32 => ?_)
                                                                · have h32 : (cd) = true := nB_n.mp (cm_ne.mp h32)
                                                                  refine z_rcs0 hc hH 1 (pc' := 222) (lv' := [(4, .int (nI (l + 3))), (3, .int (nB cd)), (0, .ref 50), (1, .int (nI s)), (2, .int (nI l))]) (st' := [.ref 50]) (by rfl) ?_
                                                                  refine zq_call hc (z_cx_ok hH (by rfl)) (hov d' (by omega)) (by decide +kernel) (fun r9 W hq => ?_)
                                                                  obtain ⟨rfl, hO, hAW⟩ := hq
                                                                  show Z 0 225 [(4, .int (nI (l + 3))), (3, .int (nB cd)), (0, .ref 50), (1, .int (nI s)), (2, .int (nI l))] [] W
                                                                  refine z_rcs hc hH 6 (pc' := 233) (lv' := [(4, .int (nI l)), (3, .int (nB cd)), (0, .ref 50), (1, .int (nI s)), (2, .int (nI l))]) (st' := [.int ((nI l) + 3), .int (nI l)]) (μ' := W) (by rfl) ?_
                                                                  rw [show nI l + 3 = nI (l + 3) from nI_add l 3]
                                                                  refine zq_ic hc hH (by rfl) (tg := 259) (by rfl) (fun h33 => ?_) (fun h33 => ?_)
                                                                  · have h33 : (decide ((nI (l + 3)) ≤ (nI l))) = true := decide_eq_true (cm_ge.mp h33)
                                                                    exact absurd (Eq.trans (Eq.symm (kn_nlf (by omega) (by omega) (by omega))) h33) (by decide)
                                                                  · have h33 : (decide ((nI (l + 3)) ≤ (nI l))) = false := decide_eq_false (cn_ge.mp h33)
                                                                    refine z_rcs hc hH 2 (pc' := 239) (lv' := [(4, .int (nI l)), (3, .int (nB cd)), (0, .ref 50), (1, .int (nI s)), (2, .int (nI l))]) (st' := [.ref 50, .int (nI l)]) (μ' := W) (by rfl) ?_
                                                                    refine zq_gfi hc hH (by rfl) (ci := 6) (f := 49) (by rfl) (by decide +kernel) (by rfl) ?_
                                                                    rw [(hO 50 49 (by omega)).1]
                                                                    rw [o49]
                                                                    refine zq_ic hc hH (by rfl) (tg := 253) (by rfl) (fun h34 => ?_) (fun h34 => ?_)
                                                                    · have h34 : (decide ((nI l) = (nI (l + 2)))) = true := decide_eq_true (cm_eq9.mp h34)
                                                                      exact absurd (Eq.trans (Eq.symm (kn_ne (by omega) (by omega) (by omega))) h34) (by decide)
                                                                    · have h34 : (decide ((nI l) = (nI (l + 2)))) = false := decide_eq_false (cn_eq.mp h34)
                                                                      refine z_rcs hc hH 4 (pc' := 250) (lv' := [(4, .int (nI l)), (3, .int (nB cd)), (0, .ref 50), (1, .int (nI s)), (2, .int (nI l))]) (st' := [.int (-1), .int (nI l), .int (nI s), .ref 50]) (μ' := W) (by rfl) ?_
                                                                      refine zq_call hc (z_cx_ok hH (by rfl)) (fc_X7_gives d' (by omega) W s l (-1) hs4 (by omega)) (by decide +kernel) (fun r9 μ9 hq => ?_)
                                                                      obtain ⟨rfl, rfl⟩ := hq
                                                                      show Z 0 253 [(4, .int (nI l)), (3, .int (nB cd)), (0, .ref 50), (1, .int (nI s)), (2, .int (nI l))] [] (z_giv W s l (-1))
                                                                      refine z_rcs hc hH 3 (pc' := 230) (lv' := [(4, .int ((nI l) + 1)), (3, .int (nB cd)), (0, .ref 50), (1, .int (nI s)), (2, .int (nI l))]) (st' := [.int ((nI l) + 1)]) (μ' := z_giv W s l (-1)) (by rfl) ?_
                                                                      rw [nI_s1]
                                                                      refine z_rcs hc hH 3 (pc' := 233) (lv' := [(4, .int (nI (l + 1))), (3, .int (nB cd)), (0, .ref 50), (1, .int (nI s)), (2, .int (nI l))]) (st' := [.int ((nI l) + 3), .int (nI (l + 1))]) (μ' := z_giv W s l (-1)) (by rfl) ?_
                                                                      rw [show nI l + 3 = nI (l + 3) from nI_add l 3]
                                                                      refine zq_ic hc hH (by rfl) (tg := 259) (by rfl) (fun h35 => ?_) (fun h35 => ?_)
                                                                      · have h35 : (decide ((nI (l + 3)) ≤ (nI (l + 1)))) = true := decide_eq_true (cm_ge.mp h35)
                                                                        exact absurd (Eq.trans (Eq.symm (kn_nlf (by omega) (by omega) (by omega))) h35) (by decide)
                                                                      · have h35 : (decide ((nI (l + 3)) ≤ (nI (l + 1)))) = false := decide_eq_false (cn_ge.mp h35)
                                                                        refine z_rcs hc hH 2 (pc' := 239) (lv' := [(4, .int (nI (l + 1))), (3, .int (nB cd)), (0, .ref 50), (1, .int (nI s)), (2, .int (nI l))]) (st' := [.ref 50, .int (nI (l + 1))]) (μ' := z_giv W s l (-1)) (by rfl) ?_
                                                                        refine zq_gfi hc hH (by rfl) (ci := 6) (f := 49) (by rfl) (by decide +kernel) (by rfl) ?_
                                                                        rw [giv_o (by first | decide | omega), (hO 50 49 (by omega)).1]
                                                                        rw [o49]
                                                                        refine zq_ic hc hH (by rfl) (tg := 253) (by rfl) (fun h36 => ?_) (fun h36 => ?_)
                                                                        · have h36 : (decide ((nI (l + 1)) = (nI (l + 2)))) = true := decide_eq_true (cm_eq9.mp h36)
                                                                          exact absurd (Eq.trans (Eq.symm (kn_ne (by omega) (by omega) (by omega))) h36) (by decide)
                                                                        · have h36 : (decide ((nI (l + 1)) = (nI (l + 2)))) = false := decide_eq_false (cn_eq.mp h36)
                                                                          refine z_rcs hc hH 4 (pc' := 250) (lv' := [(4, .int (nI (l + 1))), (3, .int (nB cd)), (0, .ref 50), (1, .int (nI s)), (2, .int (nI l))]) (st' := [.int (-1), .int (nI (l + 1)), .int (nI s), .ref 50]) (μ' := z_giv W s l (-1)) (by rfl) ?_
                                                                          refine zq_call hc (z_cx_ok hH (by rfl)) (fc_X7_gives d' (by omega) (z_giv W s l (-1)) s (l + 1) (-1) hs4 (by omega)) (by decide +kernel) (fun r9 μ9 hq => ?_)
                                                                          obtain ⟨rfl, rfl⟩ := hq
                                                                          show Z 0 253 [(4, .int (nI (l + 1))), (3, .int (nB cd)), (0, .ref 50), (1, .int (nI s)), (2, .int (nI l))] [] (z_giv (z_giv W s l (-1)) s (l + 1) (-1))
                                                                          refine z_rcs0 hc hH 3 (pc' := 230) (lv' := [(4, .int ((nI (l + 1)) + 1)), (3, .int (nB cd)), (0, .ref 50), (1, .int (nI s)), (2, .int (nI l))]) (st' := [.int ((nI (l + 1)) + 1)]) (by rfl) ?_
                                                                          rw [show nI (l + 1) + 1 = nI (l + 2) from nI_s1 _]
                                                                          refine z_rcs0 hc hH 3 (pc' := 233) (lv' := [(4, .int (nI (l + 2))), (3, .int (nB cd)), (0, .ref 50), (1, .int (nI s)), (2, .int (nI l))]) (st' := [.int ((nI l) + 3), .int (nI (l + 2))]) (by rfl) ?_
                                                                          rw [show nI l + 3 = nI (l + 3) from nI_add l 3]
                                                                          refine zq_ic hc hH (by rfl) (tg := 259) (by rfl) (fun h37 => ?_) (fun h37 => ?_)
                                                                          · have h37 : (decide ((nI (l + 3)) ≤ (nI (l + 2)))) = true := decide_eq_true (cm_ge.mp h37)
                                                                            exact absurd (Eq.trans (Eq.symm (kn_nlf (by omega) (by omega) (by omega))) h37) (by decide)
                                                                          · have h37 : (decide ((nI (l + 3)) ≤ (nI (l + 2)))) = false := decide_eq_false (cn_ge.mp h37)
                                                                            refine z_rcs0 hc hH 2 (pc' := 239) (lv' := [(4, .int (nI (l + 2))), (3, .int (nB cd)), (0, .ref 50), (1, .int (nI s)), (2, .int (nI l))]) (st' := [.ref 50, .int (nI (l + 2))]) (by rfl) ?_
                                                                            refine zq_gfi hc hH (by rfl) (ci := 6) (f := 49) (by rfl) (by decide +kernel) (by rfl) ?_
                                                                            rw [giv_o (by first | decide | omega), giv_o (by first | decide | omega), (hO 50 49 (by omega)).1]
                                                                            rw [o49]
                                                                            refine zq_ic hc hH (by rfl) (tg := 253) (by rfl) (fun h38 => ?_) (fun h38 => ?_)
                                                                            · have h38 : (decide ((nI (l + 2)) = (nI (l + 2)))) = true := decide_eq_true (cm_eq9.mp h38)
                                                                              refine z_rcs0 hc hH 3 (pc' := 230) (lv' := [(4, .int ((nI (l + 2)) + 1)), (3, .int (nB cd)), (0, .ref 50), (1, .int (nI s)), (2, .int (nI l))]) (st' := [.int ((nI (l + 2)) + 1)]) (by rfl) ?_
                                                                              rw [show nI (l + 2) + 1 = nI (l + 3) from nI_s1 _]
                                                                              refine z_rcs0 hc hH 3 (pc' := 233) (lv' := [(4, .int (nI (l + 3))), (3, .int (nB cd)), (0, .ref 50), (1, .int (nI s)), (2, .int (nI l))]) (st' := [.int ((nI l) + 3), .int (nI (l + 3))]) (by rfl) ?_
                                                                              rw [show nI l + 3 = nI (l + 3) from nI_add l 3]
                                                                              refine zq_ic hc hH (by rfl) (tg := 259) (by rfl) (fun h39 => ?_) (fun h39 => ?_)
                                                                              · have h39 : (decide ((nI (l + 3)) ≤ (nI (l + 3)))) = true := decide_eq_true (cm_ge.mp h39)
                                                                                refine z_rcs0 hc hH 4 (pc' := 263) (lv' := [(4, .int (nI (l + 3))), (3, .int (nB cd)), (0, .ref 50), (1, .int (nI s)), (2, .int (nI l))]) (st' := [.int (nI l), .int 0, .int (nI s), .ref 50]) (by rfl) ?_
                                                                                refine zq_call hc (z_cx_ok hH (by rfl)) (gm_claims d' (by omega) (z_giv (z_giv W s l (-1)) s (l + 1) (-1)) s q 0 (nI l) hs4 hq4 (by rw [giv_o (by first | decide | omega), giv_o (by first | decide | omega), (hO 64 s (by omega)).1]; exact o64)) (by decide +kernel) (fun r9 μ9 hq => ?_)
                                                                                obtain ⟨rfl, rfl⟩ := hq
                                                                                show Z 0 266 [(4, .int (nI (l + 3))), (3, .int (nB cd)), (0, .ref 50), (1, .int (nI s)), (2, .int (nI l))] [] (clM (z_giv (z_giv W s l (-1)) s (l + 1) (-1)) s q 0 (nI l))
                                                                                refine z_rcs0 hc hH 1 (pc' := 267) (lv' := [(4, .int (nI (l + 3))), (3, .int (nB cd)), (0, .ref 50), (1, .int (nI s)), (2, .int (nI l))]) (st' := [.int 1]) (by rfl) ?_
                                                                                exact hr 0 267 _ _ _ (some (.int 1)) (by decide +kernel) (z_rx_ok hH (by rfl)) (Or.inl ⟨by simp only [ruC2, h1, h2, h3, h8, h11, h32, Bool.true_or, Bool.true_and, Bool.and_true, Bool.false_and, Bool.and_false, Bool.not_true, Bool.not_false, Bool.or_true, Bool.or_false, Bool.false_or, cond_true, cond_false], rfl, by unfold ruO2; exact SM_cl (SM_giv (SM_giv (hO)))⟩)
                                                                              · have h39 : (decide ((nI (l + 3)) ≤ (nI (l + 3)))) = false := decide_eq_false (cn_ge.mp h39)
                                                                                exact absurd (Eq.trans (Eq.symm (kn_nle (by omega) (by omega) (by omega))) h39) (by decide)
                                                                            · have h38 : (decide ((nI (l + 2)) = (nI (l + 2)))) = false := decide_eq_false (cn_eq.mp h38)
                                                                              exact absurd (Eq.trans (Eq.symm (kn_eq rfl)) h38) (by decide)
                                                                · have h32 : (cd) = false := nB_z.mp (cn_ne.mp h32)
                                                                  refine z_rcs hc hH 1 (pc' := 220) (lv' := [(4, .int (nI (l + 3))), (3, .int (nB cd)), (0, .ref 50), (1, .int (nI s)), (2, .int (nI l))]) (st' := [.int 0]) (μ' := z_giv (z_giv (z_giv (z_giv (z_ui (z_ui (z_ui μ 50 0 0) 50 50 (nI (l + 2))) 50 51 (bif decide (((nI l) - (nI l) / 9 * 9) ≤ 0) then (-1 : Int32) else (nI l) - 1)) s l (-1)) s (l + 1) (-1)) s l 1) s (l + 1) 1) (by rfl) ?_
                                                                  exact hr 0 220 _ _ _ (some (.int 0)) (by decide +kernel) (z_rx_ok hH (by rfl)) (Or.inr ⟨by simp only [ruC2, h1, h2, h3, h8, h11, h32, Bool.true_or, Bool.true_and, Bool.and_true, Bool.false_and, Bool.and_false, Bool.not_true, Bool.not_false, Bool.or_true, Bool.or_false, Bool.false_or, cond_true, cond_false], rfl, Or.inr rfl⟩)
                                                              · have h31 : (decide ((nI (l + 3)) ≤ (nI (l + 3)))) = false := decide_eq_false (cn_ge.mp h31)
                                                                exact absurd (Eq.trans (Eq.symm (kn_nle (by omega) (by omega) (by omega))) h31) (by decide)
                                                            · have h30 : (decide ((nI (l + 2)) = (nI (l + 2)))) = false := decide_eq_false (cn_eq.mp h30)
                                                              exact absurd (Eq.trans (Eq.symm (kn_eq rfl)) h30) (by decide)
                                                · have h24 : (decide ((nI (l + 3)) ≤ (nI (l + 3)))) = false := decide_eq_false (cn_ge.mp h24)
                                                  exact absurd (Eq.trans (Eq.symm (kn_nle (by omega) (by omega) (by omega))) h24) (by decide)
                                              · have h23 : (decide ((nI (l + 2)) = (nI (l + 2)))) = false := decide_eq_false (cn_eq.mp h23)
                                                exact absurd (Eq.trans (Eq.symm (kn_eq rfl)) h23) (by decide)
                                  refine zq_if hc hH (by rfl) (tg := 141) (by rfl) (fun h40 => ?_) (fun h40 => ?_)
                                  · have h40 : (decide (((nI l) - (nI l) / 9 * 9) ≤ 0)) = true := decide_eq_true (cm_le.mp h40)
                                    refine z_rcs hc hH 1 (pc' := 142) (lv' := [(3, .int (nI (l + 3))), (0, .ref 50), (1, .int (nI s)), (2, .int (nI l))]) (st' := [.int (-1), .ref 50]) (μ' := z_ui (z_ui μ 50 0 0) 50 50 (nI (l + 2))) (by rfl) ?_
                                    exact zJ hJ17 rfl (by first | with_reducible rfl | (simp only [h40, lb_f, Int64.or_zero, Int32.add_zero, nB_t, nB_f, Bool.not_true, Bool.not_false, Bool.and_true, Bool.true_and, Bool.false_and, Bool.and_false, Bool.or_true, Bool.true_or, Bool.false_or, Bool.or_false, cond_true, cond_false]; done) | rfl) rfl
                                  · have h40 : (decide (((nI l) - (nI l) / 9 * 9) ≤ 0)) = false := decide_eq_false (cn_le.mp h40)
                                    refine z_rcs0 hc hH 4 (pc' := 142) (lv' := [(3, .int (nI (l + 3))), (0, .ref 50), (1, .int (nI s)), (2, .int (nI l))]) (st' := [.int ((nI l) - 1), .ref 50]) (by rfl) ?_
                                    exact zJ hJ17 rfl (by first | with_reducible rfl | (simp only [h40, lb_f, Int64.or_zero, Int32.add_zero, nB_t, nB_f, Bool.not_true, Bool.not_false, Bool.and_true, Bool.true_and, Bool.false_and, Bool.and_false, Bool.or_true, Bool.true_or, Bool.false_or, Bool.or_false, cond_true, cond_false]; done) | rfl) rfl
                              · have h15 : (decide ((nI (l + 2)) = (nI l))) = true := decide_eq_true (cn_ne.mp h15)
                                exact absurd (Eq.trans (Eq.symm (kn_ne (by omega) (by omega) (by omega))) h15) (by decide)
                            · have h14 : (decide ((nI (l + 3)) ≤ (nI (l + 3)))) = false := decide_eq_false (cn_ge.mp h14)
                              exact absurd (Eq.trans (Eq.symm (kn_nle (by omega) (by omega) (by omega))) h14) (by decide)
                          · have h13 : (decide ((nI (l + 2)) = (nI (l + 2)))) = false := decide_eq_false (cn_eq.mp h13)
                            exact absurd (Eq.trans (Eq.symm (kn_eq rfl)) h13) (by decide)
                      · have h11 : (decide ((μ.1 60 (34 * s + (l + 1))) = 0)) = true := decide_eq_true (cn_ne.mp h11)
                        refine z_rcs hc hH 1 (pc' := 79) (lv' := [(3, .int (nI (l + 1))), (0, .ref 50), (1, .int (nI s)), (2, .int (nI l))]) (st' := [.int 0]) (μ' := z_ui μ 50 0 0) (by rfl) ?_
                        exact hr 0 79 _ _ _ (some (.int 0)) (by decide +kernel) (z_rx_ok hH (by rfl)) (Or.inr ⟨by simp only [ruC2, h1, h2, h3, h8, h11, Bool.true_or, Bool.true_and, Bool.and_true, Bool.false_and, Bool.and_false, Bool.not_true, Bool.not_false, Bool.or_true, Bool.or_false, Bool.false_or, cond_true, cond_false], rfl, Or.inl rfl⟩)
                · have h8 : (decide ((μ.1 60 (34 * s + l)) = 0)) = true := decide_eq_true (cn_ne.mp h8)
                  refine z_rcs hc hH 1 (pc' := 79) (lv' := [(3, .int (nI l)), (0, .ref 50), (1, .int (nI s)), (2, .int (nI l))]) (st' := [.int 0]) (μ' := z_ui μ 50 0 0) (by rfl) ?_
                  exact hr 0 79 _ _ _ (some (.int 0)) (by decide +kernel) (z_rx_ok hH (by rfl)) (Or.inr ⟨by simp only [ruC2, h1, h2, h3, h8, Bool.true_or, Bool.true_and, Bool.and_true, Bool.false_and, Bool.and_false, Bool.not_true, Bool.not_false, Bool.or_true, Bool.or_false, Bool.false_or, cond_true, cond_false], rfl, Or.inl rfl⟩)
          · have h5 : (decide ((nI (l + 2)) ≤ (nI (l + 2)))) = false := decide_eq_false (cn_le.mp h5)
            exact absurd (Eq.trans (Eq.symm (kn_nle (by omega) (by omega) (by omega))) h5) (by decide)
/-! the wall by a number, of both sides -/
set_option maxRecDepth 8000
noncomputable def jE (x : Int64) (i : Nat) : Int32 := ((x.toUInt64 >>> ((33 : Int32).toInt64.toUInt64 &&& Int64.toUInt64 63)).toInt64 - (x.toUInt64 >>> ((33 : Int32).toInt64.toUInt64 &&& Int64.toUInt64 63)).toInt64 / (nI (i + 1) + 1).toInt64 * (nI (i + 1) + 1).toInt64).toInt32
noncomputable def jN (x : Int64) (i : Nat) : Nat := (jE x i).toNatClampNeg
theorem jE_n (x : Int64) (i : Nat) (hi : i < 135) : ¬ (nI (i + 1) + 1).toInt64 = 0 ∧ jN x i < 136 ∧ jE x i = nI (jN x i) := by
  obtain ⟨h1, j, h2, h3⟩ := dl_j x i hi
  have h3 : jE x i = nI j := h3
  have e : jN x i = j := by unfold jN; rw [h3, nI_clamp (by omega)]
  exact ⟨h1, by rw [e]; exact h2, by rw [e]; exact h3⟩
noncomputable abbrev nxL (x : Int64) : Int64 := x * 6364136223846793005 + 1442695040888963407
noncomputable def swW (f : Nat → Int32) (a b k : Nat) : Int32 := if k = b then f a else if k = a then f b else f k
noncomputable def wsh : Nat → Int64 → (Nat → Int32) → Nat → Int32
  | 0, _, f => f
  | i + 1, x, f => wsh i (nxL x) (swW f (i + 1) (jN (nxL x) i))
noncomputable def wlF (sd : Int64) : Nat → Int32 := wsh 135 sd (fun k => nI (k / 4))
noncomputable def WR1 (r i : Nat) (μ0 μ1 : zM) : Prop := (∀ k, k < i → μ1.1 r k = nI (k / 4)) ∧ (∀ r' k, r' ≠ r → μ1.1 r' k = μ0.1 r' k) ∧ μ1.2 = μ0.2
theorem WR1.nx {r i : Nat} {μ0 μ1 : zM} (h : WR1 r i μ0 μ1) : WR1 r (i + 1) μ0 (z_ui μ1 r i (nI (i / 4))) := by
  refine ⟨fun k hk => ?_, fun r' k hr => by rw [ui_o hr]; exact h.2.1 r' k hr, h.2.2⟩
  by_cases e : k = i
  · rw [e, ui_s]
  · rw [ui_k e]; exact h.1 k (by omega)
noncomputable def WRl (r : Nat) (f : Nat → Int32) (μ0 μ1 : zM) : Prop := (∀ k, k < 136 → μ1.1 r k = f k) ∧ (∀ r' k, r' ≠ r → μ1.1 r' k = μ0.1 r' k) ∧ μ1.2 = μ0.2
theorem WRl.nx {r i j : Nat} {f : Nat → Int32} {μ0 μ1 : zM} (h : WRl r f μ0 μ1) (hi : i < 136) (hj : j < 136) : WRl r (swW f i j) μ0 (z_ui (z_ui μ1 r i (μ1.1 r j)) r j (μ1.1 r i)) := by
  refine ⟨fun k hk => ?_, fun r' k hr => by rw [ui_o hr, ui_o hr]; exact h.2.1 r' k hr, h.2.2⟩
  unfold swW
  by_cases e : k = j
  · rw [if_pos e, e, ui_s]; exact h.1 i hi
  · rw [if_neg e, ui_k e]
    by_cases e2 : k = i
    · rw [if_pos e2, e2, ui_s]; exact h.1 j hj
    · rw [if_neg e2, ui_k e2]; exact h.1 k hk
theorem zh_X4_build : zH mi_X4_build zt_X4_build 79 4 8 := hh_X4_build
theorem wc1 (d' : Nat) (Z : zK) (hc : z_clo z_x0 mi_X4_build (z_C d') Z) (sd : Int64) (μ0 : zM) (K : ∀ μ1, WR1 3 136 μ0 μ1 → Z 0 24 [(3, .int (nI 136)), (0, .ref 2), (1, .long sd)] [] μ1) : ∀ n i, i + n = 136 → ∀ μ1, WR1 3 i μ0 μ1 → Z 0 2 [(3, .int (nI i)), (0, .ref 2), (1, .long sd)] [] μ1 := by
  have hH := zh_X4_build
  intro n
  induction n with
  | zero =>
    intro i hi μ1 g1
    have hi : i = 136 := by omega
    subst hi
    refine z_rcs hc hH 2 (pc' := 6) (lv' := [(3, .int (nI 136)), (0, .ref 2), (1, .long sd)]) (st' := [.int 136, .int (nI 136)]) (μ' := μ1) (by rfl) ?_
    refine zq_ic hc hH (by rfl) (tg := 24) (by rfl) (fun _ => ?_) (fun h9 => (zb_t (ge_nIt (n := 136) (i := 136) (by decide) (by decide)) h9).elim)
    exact K μ1 g1
  | succ n ih =>
    intro i hi μ1 g1
    refine z_rcs hc hH 2 (pc' := 6) (lv' := [(3, .int (nI i)), (0, .ref 2), (1, .long sd)]) (st' := [.int 136, .int (nI i)]) (μ' := μ1) (by rfl) ?_
    refine zq_ic hc hH (by rfl) (tg := 24) (by rfl) (fun h9 => (zb_t h9 (ge_nI (n := 136) (i := i) (by omega) (by decide))).elim) (fun _ => ?_)
    refine z_rcs hc hH 6 (pc' := 17) (lv' := [(3, .int (nI i)), (0, .ref 2), (1, .long sd)]) (st' := [.int ((nI i) / 4), .int (nI i), .ref 3]) (μ' := μ1) (by rfl) ?_
    rw [nI_d4 i (by omega)]
    refine zq_iast hc hH (by rfl) 136 (by decide +kernel) (vp_in_nI (by omega) (by decide)) ?_
    refine z_rcs hc hH 2 (pc' := 2) (lv' := [(3, .int ((nI i) + 1)), (0, .ref 2), (1, .long sd)]) (st' := []) (μ' := z_ui μ1 3 ((nI i).toNatClampNeg) (nI (i / 4))) (by rfl) ?_
    rw [nI_1, nI_clamp (by omega)]
    exact ih (i + 1) (by omega) _ g1.nx
theorem wc2 (d' : Nat) (Z : zK) (hc : z_clo z_x0 mi_X4_build (z_C d') Z) (sd : Int64) (μ0 : zM) (fz : Nat → Int32) (K : ∀ (x : Int64) (kv jv : Int32) μ1, WRl 3 fz μ0 μ1 → Z 0 97 [(5, .int (nI 0)), (7, .int kv), (6, .int jv), (3, .long x), (0, .ref 2), (1, .long sd)] [] μ1) : ∀ i, i < 135 → ∀ (x : Int64) (f : Nat → Int32), wsh i x f = fz → ∀ (kv jv : Int32) μ1, WRl 3 f μ0 μ1 → Z 0 31 [(5, .int (nI i)), (7, .int kv), (6, .int jv), (3, .long x), (0, .ref 2), (1, .long sd)] [] μ1 := by
  have hH := zh_X4_build
  intro i
  induction i with
  | zero =>
    intro hi x f hf kv jv μ1 g1
    have hf : f = fz := hf
    subst hf
    refine z_rcs hc hH 1 (pc' := 33) (lv' := [(5, .int (nI 0)), (7, .int kv), (6, .int jv), (3, .long x), (0, .ref 2), (1, .long sd)]) (st' := [.int (nI 0)]) (μ' := μ1) (by rfl) ?_
    refine zq_if hc hH (by rfl) (tg := 97) (by rfl) (fun _ => ?_) (fun h9 => (zb_t (by decide) h9).elim)
    exact K x kv jv μ1 g1
  | succ i ih =>
    intro hi x f hf kv jv μ1 g1
    refine z_rcs hc hH 1 (pc' := 33) (lv' := [(5, .int (nI (i + 1))), (7, .int kv), (6, .int jv), (3, .long x), (0, .ref 2), (1, .long sd)]) (st' := [.int (nI (i + 1))]) (μ' := μ1) (by rfl) ?_
    refine zq_if hc hH (by rfl) (tg := 97) (by rfl) (fun h9 => (zb_t h9 (le_nI0 (by omega))).elim) (fun _ => ?_)
    refine z_rcs hc hH 6 (pc' := 46) (lv' := [(3, .long ((x * 6364136223846793005) + 1442695040888963407)), (5, .int (nI (i + 1))), (7, .int kv), (6, .int jv), (0, .ref 2), (1, .long sd)]) (st' := []) (μ' := μ1) (by rfl) ?_
    generalize hx1 : (x * 6364136223846793005) + 1442695040888963407 = x1
    have hx1 : x1 = nxL x := hx1.symm
    refine z_rcs hc hH 7 (pc' := 55) (lv' := [(3, .long x1), (5, .int (nI (i + 1))), (7, .int kv), (6, .int jv), (0, .ref 2), (1, .long sd)]) (st' := [.long (((nI (i + 1)) + 1).toInt64), .long ((x1.toUInt64 >>> ((33 : Int32).toInt64.toUInt64 &&& Int64.toUInt64 63)).toInt64)]) (μ' := μ1) (by rfl) ?_
    obtain ⟨hne, hj, ej⟩ := jE_n x1 i (by omega)
    refine zq_lrem hc hH (by rfl) hne ?_
    refine z_rcs hc hH 1 (pc' := 57) (lv' := [(3, .long x1), (5, .int (nI (i + 1))), (7, .int kv), (6, .int jv), (0, .ref 2), (1, .long sd)]) (st' := [.int ((((x1.toUInt64 >>> ((33 : Int32).toInt64.toUInt64 &&& Int64.toUInt64 63)).toInt64) - ((x1.toUInt64 >>> ((33 : Int32).toInt64.toUInt64 &&& Int64.toUInt64 63)).toInt64) / (((nI (i + 1)) + 1).toInt64) * (((nI (i + 1)) + 1).toInt64)).toInt32)]) (μ' := μ1) (by rfl) ?_
    show Z 0 57 [(3, .long x1), (5, .int (nI (i + 1))), (7, .int kv), (6, .int jv), (0, .ref 2), (1, .long sd)] [.int (jE x1 i)] μ1
    rw [ej]
    refine z_rcs hc hH 4 (pc' := 65) (lv' := [(6, .int (nI (jN x1 i))), (3, .long x1), (5, .int (nI (i + 1))), (7, .int kv), (0, .ref 2), (1, .long sd)]) (st' := [.int (nI (i + 1)), .ref 3]) (μ' := μ1) (by rfl) ?_
    refine zq_iald hc hH (by rfl) 136 (by decide +kernel) (vp_in_nI (by omega) (by decide)) ?_
    refine z_rcs hc hH 7 (pc' := 80) (lv' := [(7, .int (μ1.1 3 (nI (i + 1)).toNatClampNeg)), (6, .int (nI (jN x1 i))), (3, .long x1), (5, .int (nI (i + 1))), (0, .ref 2), (1, .long sd)]) (st' := [.int (nI (jN x1 i)), .ref 3, .int (nI (i + 1)), .ref 3]) (μ' := μ1) (by rfl) ?_
    refine zq_iald hc hH (by rfl) 136 (by decide +kernel) (vp_in_nI (by omega) (by decide)) ?_
    refine zq_iast hc hH (by rfl) 136 (by decide +kernel) (vp_in_nI (by omega) (by decide)) ?_
    refine z_rcs hc hH 4 (pc' := 90) (lv' := [(7, .int (μ1.1 3 (nI (i + 1)).toNatClampNeg)), (6, .int (nI (jN x1 i))), (3, .long x1), (5, .int (nI (i + 1))), (0, .ref 2), (1, .long sd)]) (st' := [.int (μ1.1 3 (nI (i + 1)).toNatClampNeg), .int (nI (jN x1 i)), .ref 3]) (μ' := z_ui μ1 3 ((nI (i + 1)).toNatClampNeg) (μ1.1 3 (nI (jN x1 i)).toNatClampNeg)) (by rfl) ?_
    refine zq_iast hc hH (by rfl) 136 (by decide +kernel) (vp_in_nI (by omega) (by decide)) ?_
    refine z_rcs hc hH 2 (pc' := 31) (lv' := [(5, .int ((nI (i + 1)) + (-1))), (7, .int (μ1.1 3 (nI (i + 1)).toNatClampNeg)), (6, .int (nI (jN x1 i))), (3, .long x1), (0, .ref 2), (1, .long sd)]) (st' := []) (μ' := z_ui (z_ui μ1 3 ((nI (i + 1)).toNatClampNeg) (μ1.1 3 (nI (jN x1 i)).toNatClampNeg)) 3 ((nI (jN x1 i)).toNatClampNeg) (μ1.1 3 (nI (i + 1)).toNatClampNeg)) (by rfl) ?_
    rw [nI_m1, nI_clamp (by omega), nI_clamp (by omega)]
    refine ih (by omega) x1 (swW f (i + 1) (jN x1 i)) (by rw [hx1]; exact hf) _ _ _ (by
      have e := g1.nx (i := i + 1) (by omega) hj
      exact e)
theorem wc3 (d' : Nat) (Z : zK) (hc : z_clo z_x0 mi_X4_build (z_C d') Z) (sd : Int64) (μ0 : zM) (K : ∀ (x : Int64) (kv jv : Int32) μ1, WRl 3 (wlF sd) μ0 μ1 → Z 0 97 [(5, .int (nI 0)), (7, .int kv), (6, .int jv), (3, .long x), (0, .ref 2), (1, .long sd)] [] μ1) (μ1 : zM) (g1 : WR1 3 136 μ0 μ1) : Z 0 24 [(3, .int (nI 136)), (0, .ref 2), (1, .long sd)] [] μ1 := by
  have hH := zh_X4_build
  have g1 : WRl 3 (fun k => nI (k / 4)) μ0 μ1 := g1
  refine z_rcs hc hH 4 (pc' := 31) (lv' := [(5, .int 135), (3, .long sd), (0, .ref 2), (1, .long sd)]) (st' := []) (μ' := μ1) (by rfl) ?_
  show Z 0 31 [(5, .int (nI (134 + 1))), (3, .long sd), (0, .ref 2), (1, .long sd)] [] μ1
  refine z_rcs hc hH 1 (pc' := 33) (lv' := [(5, .int (nI (134 + 1))), (3, .long sd), (0, .ref 2), (1, .long sd)]) (st' := [.int (nI (134 + 1))]) (μ' := μ1) (by rfl) ?_
  refine zq_if hc hH (by rfl) (tg := 97) (by rfl) (fun h9 => (zb_t h9 (le_nI0 (i := 134) (by omega))).elim) (fun _ => ?_)
  refine z_rcs hc hH 6 (pc' := 46) (lv' := [(3, .long ((sd * 6364136223846793005) + 1442695040888963407)), (5, .int (nI (134 + 1))), (0, .ref 2), (1, .long sd)]) (st' := []) (μ' := μ1) (by rfl) ?_
  generalize hx1 : (sd * 6364136223846793005) + 1442695040888963407 = x1
  have hx1 : x1 = nxL sd := hx1.symm
  refine z_rcs hc hH 7 (pc' := 55) (lv' := [(3, .long x1), (5, .int (nI (134 + 1))), (0, .ref 2), (1, .long sd)]) (st' := [.long (((nI (134 + 1)) + 1).toInt64), .long ((x1.toUInt64 >>> ((33 : Int32).toInt64.toUInt64 &&& Int64.toUInt64 63)).toInt64)]) (μ' := μ1) (by rfl) ?_
  obtain ⟨hne, hj, ej⟩ := jE_n x1 134 (by omega)
  refine zq_lrem hc hH (by rfl) hne ?_
  refine z_rcs hc hH 1 (pc' := 57) (lv' := [(3, .long x1), (5, .int (nI (134 + 1))), (0, .ref 2), (1, .long sd)]) (st' := [.int ((((x1.toUInt64 >>> ((33 : Int32).toInt64.toUInt64 &&& Int64.toUInt64 63)).toInt64) - ((x1.toUInt64 >>> ((33 : Int32).toInt64.toUInt64 &&& Int64.toUInt64 63)).toInt64) / (((nI (134 + 1)) + 1).toInt64) * (((nI (134 + 1)) + 1).toInt64)).toInt32)]) (μ' := μ1) (by rfl) ?_
  show Z 0 57 [(3, .long x1), (5, .int (nI (134 + 1))), (0, .ref 2), (1, .long sd)] [.int (jE x1 134)] μ1
  rw [ej]
  refine z_rcs hc hH 4 (pc' := 65) (lv' := [(6, .int (nI (jN x1 134))), (3, .long x1), (5, .int (nI (134 + 1))), (0, .ref 2), (1, .long sd)]) (st' := [.int (nI (134 + 1)), .ref 3]) (μ' := μ1) (by rfl) ?_
  refine zq_iald hc hH (by rfl) 136 (by decide +kernel) (vp_in_nI (by omega) (by decide)) ?_
  refine z_rcs hc hH 7 (pc' := 80) (lv' := [(7, .int (μ1.1 3 (nI (134 + 1)).toNatClampNeg)), (6, .int (nI (jN x1 134))), (3, .long x1), (5, .int (nI (134 + 1))), (0, .ref 2), (1, .long sd)]) (st' := [.int (nI (jN x1 134)), .ref 3, .int (nI (134 + 1)), .ref 3]) (μ' := μ1) (by rfl) ?_
  refine zq_iald hc hH (by rfl) 136 (by decide +kernel) (vp_in_nI (by omega) (by decide)) ?_
  refine zq_iast hc hH (by rfl) 136 (by decide +kernel) (vp_in_nI (by omega) (by decide)) ?_
  refine z_rcs hc hH 4 (pc' := 90) (lv' := [(7, .int (μ1.1 3 (nI (134 + 1)).toNatClampNeg)), (6, .int (nI (jN x1 134))), (3, .long x1), (5, .int (nI (134 + 1))), (0, .ref 2), (1, .long sd)]) (st' := [.int (μ1.1 3 (nI (134 + 1)).toNatClampNeg), .int (nI (jN x1 134)), .ref 3]) (μ' := z_ui μ1 3 ((nI (134 + 1)).toNatClampNeg) (μ1.1 3 (nI (jN x1 134)).toNatClampNeg)) (by rfl) ?_
  refine zq_iast hc hH (by rfl) 136 (by decide +kernel) (vp_in_nI (by omega) (by decide)) ?_
  refine z_rcs hc hH 2 (pc' := 31) (lv' := [(5, .int ((nI (134 + 1)) + (-1))), (7, .int (μ1.1 3 (nI (134 + 1)).toNatClampNeg)), (6, .int (nI (jN x1 134))), (3, .long x1), (0, .ref 2), (1, .long sd)]) (st' := []) (μ' := z_ui (z_ui μ1 3 ((nI (134 + 1)).toNatClampNeg) (μ1.1 3 (nI (jN x1 134)).toNatClampNeg)) 3 ((nI (jN x1 134)).toNatClampNeg) (μ1.1 3 (nI (134 + 1)).toNatClampNeg)) (by rfl) ?_
  rw [nI_m1, nI_clamp (by omega), nI_clamp (by omega)]
  refine wc2 d' Z hc sd μ0 (wlF sd) K 134 (by omega) x1 (swW (fun k => nI (k / 4)) (134 + 1) (jN x1 134)) (by rw [hx1]; rfl) _ _ _ (by
    have e := g1.nx (i := 134 + 1) (by omega) hj
    exact e)
theorem wm1 (d' : Nat) (Z : zK) (hc : z_clo z_x0 mi_X7_deal (z_C d') Z) (sd : Int64) (μ0 : zM) (K : ∀ μ1, WR1 59 136 μ0 μ1 → Z 0 51 [(5, .int (nI 136)), (3, .long sd), (0, .ref 50), (1, .long sd)] [] μ1) : ∀ n i, i + n = 136 → ∀ μ1, WR1 59 i μ0 μ1 → Z 0 26 [(5, .int (nI i)), (3, .long sd), (0, .ref 50), (1, .long sd)] [] μ1 := by
  have hH := zh_X7_deal
  intro n
  induction n with
  | zero =>
    intro i hi μ1 g1
    have hi : i = 136 := by omega
    subst hi
    refine z_rcs hc hH 2 (pc' := 31) (lv' := [(5, .int (nI 136)), (3, .long sd), (0, .ref 50), (1, .long sd)]) (st' := [.int 136, .int (nI 136)]) (μ' := μ1) (by rfl) ?_
    refine zq_ic hc hH (by rfl) (tg := 51) (by rfl) (fun _ => ?_) (fun h9 => (zb_t (ge_nIt (n := 136) (i := 136) (by decide) (by decide)) h9).elim)
    exact K μ1 g1
  | succ n ih =>
    intro i hi μ1 g1
    refine z_rcs hc hH 2 (pc' := 31) (lv' := [(5, .int (nI i)), (3, .long sd), (0, .ref 50), (1, .long sd)]) (st' := [.int 136, .int (nI i)]) (μ' := μ1) (by rfl) ?_
    refine zq_ic hc hH (by rfl) (tg := 51) (by rfl) (fun h9 => (zb_t h9 (ge_nI (n := 136) (i := i) (by omega) (by decide))).elim) (fun _ => ?_)
    refine z_rcs hc hH 6 (pc' := 44) (lv' := [(5, .int (nI i)), (3, .long sd), (0, .ref 50), (1, .long sd)]) (st' := [.int ((nI i) / 4), .int (nI i), .ref 59]) (μ' := μ1) (by rfl) ?_
    rw [nI_d4 i (by omega)]
    refine zq_iast hc hH (by rfl) 136 (by decide +kernel) (vp_in_nI (by omega) (by decide)) ?_
    refine z_rcs hc hH 2 (pc' := 26) (lv' := [(5, .int ((nI i) + 1)), (3, .long sd), (0, .ref 50), (1, .long sd)]) (st' := []) (μ' := z_ui μ1 59 ((nI i).toNatClampNeg) (nI (i / 4))) (by rfl) ?_
    rw [nI_1, nI_clamp (by omega)]
    exact ih (i + 1) (by omega) _ g1.nx
theorem wm2 (d' : Nat) (Z : zK) (hc : z_clo z_x0 mi_X7_deal (z_C d') Z) (sd : Int64) (μ0 : zM) (fz : Nat → Int32) (K : ∀ (x : Int64) (kv jv : Int32) μ1, WRl 59 fz μ0 μ1 → Z 0 122 [(5, .int (nI 0)), (7, .int kv), (6, .int jv), (3, .long x), (0, .ref 50), (1, .long sd)] [] μ1) : ∀ i, i < 135 → ∀ (x : Int64) (f : Nat → Int32), wsh i x f = fz → ∀ (kv jv : Int32) μ1, WRl 59 f μ0 μ1 → Z 0 56 [(5, .int (nI i)), (7, .int kv), (6, .int jv), (3, .long x), (0, .ref 50), (1, .long sd)] [] μ1 := by
  have hH := zh_X7_deal
  intro i
  induction i with
  | zero =>
    intro hi x f hf kv jv μ1 g1
    have hf : f = fz := hf
    subst hf
    refine z_rcs hc hH 1 (pc' := 58) (lv' := [(5, .int (nI 0)), (7, .int kv), (6, .int jv), (3, .long x), (0, .ref 50), (1, .long sd)]) (st' := [.int (nI 0)]) (μ' := μ1) (by rfl) ?_
    refine zq_if hc hH (by rfl) (tg := 122) (by rfl) (fun _ => ?_) (fun h9 => (zb_t (by decide) h9).elim)
    exact K x kv jv μ1 g1
  | succ i ih =>
    intro hi x f hf kv jv μ1 g1
    refine z_rcs hc hH 1 (pc' := 58) (lv' := [(5, .int (nI (i + 1))), (7, .int kv), (6, .int jv), (3, .long x), (0, .ref 50), (1, .long sd)]) (st' := [.int (nI (i + 1))]) (μ' := μ1) (by rfl) ?_
    refine zq_if hc hH (by rfl) (tg := 122) (by rfl) (fun h9 => (zb_t h9 (le_nI0 (by omega))).elim) (fun _ => ?_)
    refine z_rcs hc hH 6 (pc' := 71) (lv' := [(3, .long ((x * 6364136223846793005) + 1442695040888963407)), (5, .int (nI (i + 1))), (7, .int kv), (6, .int jv), (0, .ref 50), (1, .long sd)]) (st' := []) (μ' := μ1) (by rfl) ?_
    generalize hx1 : (x * 6364136223846793005) + 1442695040888963407 = x1
    have hx1 : x1 = nxL x := hx1.symm
    refine z_rcs hc hH 7 (pc' := 80) (lv' := [(3, .long x1), (5, .int (nI (i + 1))), (7, .int kv), (6, .int jv), (0, .ref 50), (1, .long sd)]) (st' := [.long (((nI (i + 1)) + 1).toInt64), .long ((x1.toUInt64 >>> ((33 : Int32).toInt64.toUInt64 &&& Int64.toUInt64 63)).toInt64)]) (μ' := μ1) (by rfl) ?_
    obtain ⟨hne, hj, ej⟩ := jE_n x1 i (by omega)
    refine zq_lrem hc hH (by rfl) hne ?_
    refine z_rcs hc hH 1 (pc' := 82) (lv' := [(3, .long x1), (5, .int (nI (i + 1))), (7, .int kv), (6, .int jv), (0, .ref 50), (1, .long sd)]) (st' := [.int ((((x1.toUInt64 >>> ((33 : Int32).toInt64.toUInt64 &&& Int64.toUInt64 63)).toInt64) - ((x1.toUInt64 >>> ((33 : Int32).toInt64.toUInt64 &&& Int64.toUInt64 63)).toInt64) / (((nI (i + 1)) + 1).toInt64) * (((nI (i + 1)) + 1).toInt64)).toInt32)]) (μ' := μ1) (by rfl) ?_
    show Z 0 82 [(3, .long x1), (5, .int (nI (i + 1))), (7, .int kv), (6, .int jv), (0, .ref 50), (1, .long sd)] [.int (jE x1 i)] μ1
    rw [ej]
    refine z_rcs hc hH 4 (pc' := 90) (lv' := [(6, .int (nI (jN x1 i))), (3, .long x1), (5, .int (nI (i + 1))), (7, .int kv), (0, .ref 50), (1, .long sd)]) (st' := [.int (nI (i + 1)), .ref 59]) (μ' := μ1) (by rfl) ?_
    refine zq_iald hc hH (by rfl) 136 (by decide +kernel) (vp_in_nI (by omega) (by decide)) ?_
    refine z_rcs hc hH 7 (pc' := 105) (lv' := [(7, .int (μ1.1 59 (nI (i + 1)).toNatClampNeg)), (6, .int (nI (jN x1 i))), (3, .long x1), (5, .int (nI (i + 1))), (0, .ref 50), (1, .long sd)]) (st' := [.int (nI (jN x1 i)), .ref 59, .int (nI (i + 1)), .ref 59]) (μ' := μ1) (by rfl) ?_
    refine zq_iald hc hH (by rfl) 136 (by decide +kernel) (vp_in_nI (by omega) (by decide)) ?_
    refine zq_iast hc hH (by rfl) 136 (by decide +kernel) (vp_in_nI (by omega) (by decide)) ?_
    refine z_rcs hc hH 4 (pc' := 115) (lv' := [(7, .int (μ1.1 59 (nI (i + 1)).toNatClampNeg)), (6, .int (nI (jN x1 i))), (3, .long x1), (5, .int (nI (i + 1))), (0, .ref 50), (1, .long sd)]) (st' := [.int (μ1.1 59 (nI (i + 1)).toNatClampNeg), .int (nI (jN x1 i)), .ref 59]) (μ' := z_ui μ1 59 ((nI (i + 1)).toNatClampNeg) (μ1.1 59 (nI (jN x1 i)).toNatClampNeg)) (by rfl) ?_
    refine zq_iast hc hH (by rfl) 136 (by decide +kernel) (vp_in_nI (by omega) (by decide)) ?_
    refine z_rcs hc hH 2 (pc' := 56) (lv' := [(5, .int ((nI (i + 1)) + (-1))), (7, .int (μ1.1 59 (nI (i + 1)).toNatClampNeg)), (6, .int (nI (jN x1 i))), (3, .long x1), (0, .ref 50), (1, .long sd)]) (st' := []) (μ' := z_ui (z_ui μ1 59 ((nI (i + 1)).toNatClampNeg) (μ1.1 59 (nI (jN x1 i)).toNatClampNeg)) 59 ((nI (jN x1 i)).toNatClampNeg) (μ1.1 59 (nI (i + 1)).toNatClampNeg)) (by rfl) ?_
    rw [nI_m1, nI_clamp (by omega), nI_clamp (by omega)]
    refine ih (by omega) x1 (swW f (i + 1) (jN x1 i)) (by rw [hx1]; exact hf) _ _ _ (by
      have e := g1.nx (i := i + 1) (by omega) hj
      exact e)
theorem wm3 (d' : Nat) (Z : zK) (hc : z_clo z_x0 mi_X7_deal (z_C d') Z) (sd : Int64) (μ0 : zM) (K : ∀ (x : Int64) (kv jv : Int32) μ1, WRl 59 (wlF sd) μ0 μ1 → Z 0 122 [(5, .int (nI 0)), (7, .int kv), (6, .int jv), (3, .long x), (0, .ref 50), (1, .long sd)] [] μ1) (μ1 : zM) (g1 : WR1 59 136 μ0 μ1) : Z 0 51 [(5, .int (nI 136)), (3, .long sd), (0, .ref 50), (1, .long sd)] [] μ1 := by
  have hH := zh_X7_deal
  have g1 : WRl 59 (fun k => nI (k / 4)) μ0 μ1 := g1
  refine z_rcs hc hH 2 (pc' := 56) (lv' := [(5, .int 135), (3, .long sd), (0, .ref 50), (1, .long sd)]) (st' := []) (μ' := μ1) (by rfl) ?_
  show Z 0 56 [(5, .int (nI (134 + 1))), (3, .long sd), (0, .ref 50), (1, .long sd)] [] μ1
  refine z_rcs hc hH 1 (pc' := 58) (lv' := [(5, .int (nI (134 + 1))), (3, .long sd), (0, .ref 50), (1, .long sd)]) (st' := [.int (nI (134 + 1))]) (μ' := μ1) (by rfl) ?_
  refine zq_if hc hH (by rfl) (tg := 122) (by rfl) (fun h9 => (zb_t h9 (le_nI0 (i := 134) (by omega))).elim) (fun _ => ?_)
  refine z_rcs hc hH 6 (pc' := 71) (lv' := [(3, .long ((sd * 6364136223846793005) + 1442695040888963407)), (5, .int (nI (134 + 1))), (0, .ref 50), (1, .long sd)]) (st' := []) (μ' := μ1) (by rfl) ?_
  generalize hx1 : (sd * 6364136223846793005) + 1442695040888963407 = x1
  have hx1 : x1 = nxL sd := hx1.symm
  refine z_rcs hc hH 7 (pc' := 80) (lv' := [(3, .long x1), (5, .int (nI (134 + 1))), (0, .ref 50), (1, .long sd)]) (st' := [.long (((nI (134 + 1)) + 1).toInt64), .long ((x1.toUInt64 >>> ((33 : Int32).toInt64.toUInt64 &&& Int64.toUInt64 63)).toInt64)]) (μ' := μ1) (by rfl) ?_
  obtain ⟨hne, hj, ej⟩ := jE_n x1 134 (by omega)
  refine zq_lrem hc hH (by rfl) hne ?_
  refine z_rcs hc hH 1 (pc' := 82) (lv' := [(3, .long x1), (5, .int (nI (134 + 1))), (0, .ref 50), (1, .long sd)]) (st' := [.int ((((x1.toUInt64 >>> ((33 : Int32).toInt64.toUInt64 &&& Int64.toUInt64 63)).toInt64) - ((x1.toUInt64 >>> ((33 : Int32).toInt64.toUInt64 &&& Int64.toUInt64 63)).toInt64) / (((nI (134 + 1)) + 1).toInt64) * (((nI (134 + 1)) + 1).toInt64)).toInt32)]) (μ' := μ1) (by rfl) ?_
  show Z 0 82 [(3, .long x1), (5, .int (nI (134 + 1))), (0, .ref 50), (1, .long sd)] [.int (jE x1 134)] μ1
  rw [ej]
  refine z_rcs hc hH 4 (pc' := 90) (lv' := [(6, .int (nI (jN x1 134))), (3, .long x1), (5, .int (nI (134 + 1))), (0, .ref 50), (1, .long sd)]) (st' := [.int (nI (134 + 1)), .ref 59]) (μ' := μ1) (by rfl) ?_
  refine zq_iald hc hH (by rfl) 136 (by decide +kernel) (vp_in_nI (by omega) (by decide)) ?_
  refine z_rcs hc hH 7 (pc' := 105) (lv' := [(7, .int (μ1.1 59 (nI (134 + 1)).toNatClampNeg)), (6, .int (nI (jN x1 134))), (3, .long x1), (5, .int (nI (134 + 1))), (0, .ref 50), (1, .long sd)]) (st' := [.int (nI (jN x1 134)), .ref 59, .int (nI (134 + 1)), .ref 59]) (μ' := μ1) (by rfl) ?_
  refine zq_iald hc hH (by rfl) 136 (by decide +kernel) (vp_in_nI (by omega) (by decide)) ?_
  refine zq_iast hc hH (by rfl) 136 (by decide +kernel) (vp_in_nI (by omega) (by decide)) ?_
  refine z_rcs hc hH 4 (pc' := 115) (lv' := [(7, .int (μ1.1 59 (nI (134 + 1)).toNatClampNeg)), (6, .int (nI (jN x1 134))), (3, .long x1), (5, .int (nI (134 + 1))), (0, .ref 50), (1, .long sd)]) (st' := [.int (μ1.1 59 (nI (134 + 1)).toNatClampNeg), .int (nI (jN x1 134)), .ref 59]) (μ' := z_ui μ1 59 ((nI (134 + 1)).toNatClampNeg) (μ1.1 59 (nI (jN x1 134)).toNatClampNeg)) (by rfl) ?_
  refine zq_iast hc hH (by rfl) 136 (by decide +kernel) (vp_in_nI (by omega) (by decide)) ?_
  refine z_rcs hc hH 2 (pc' := 56) (lv' := [(5, .int ((nI (134 + 1)) + (-1))), (7, .int (μ1.1 59 (nI (134 + 1)).toNatClampNeg)), (6, .int (nI (jN x1 134))), (3, .long x1), (0, .ref 50), (1, .long sd)]) (st' := []) (μ' := z_ui (z_ui μ1 59 ((nI (134 + 1)).toNatClampNeg) (μ1.1 59 (nI (jN x1 134)).toNatClampNeg)) 59 ((nI (jN x1 134)).toNatClampNeg) (μ1.1 59 (nI (134 + 1)).toNatClampNeg)) (by rfl) ?_
  rw [nI_m1, nI_clamp (by omega), nI_clamp (by omega)]
  refine wm2 d' Z hc sd μ0 (wlF sd) K 134 (by omega) x1 (swW (fun k => nI (k / 4)) (134 + 1) (jN x1 134)) (by rw [hx1]; rfl) _ _ _ (by
    have e := g1.nx (i := 134 + 1) (by omega) hj
    exact e)
theorem gc_build (d : Nat) (hd : 1 ≤ d) (μ : zM) (sd : Int64) : z_C d mi_X4_build [.ref 2, .long sd] μ (fun r μ' => r = none ∧ ∃ μ1, WRl 3 (wlF sd) μ μ1 ∧ μ' = z_ui (z_ui (z_ui μ1 2 1 1) 2 2 52) 2 3 0) := by
  refine z_C_in (by decide) (by omega) (fun d' Z ed hc hr => ?_)
  have hH := zh_X4_build
  refine z_rcs hc hH 2 (pc' := 2) (lv' := [(3, .int (nI 0)), (0, .ref 2), (1, .long sd)]) (st' := []) (μ' := μ) (by rfl) ?_
  refine wc1 d' Z hc sd μ (fun μ1 g1 => wc3 d' Z hc sd μ (fun x kv jv μ2 g2 => ?_) μ1 g1) 136 0 (by omega) μ ⟨fun k hk => absurd hk (by omega), fun _ _ _ => rfl, rfl⟩
  refine z_rcs hc hH 9 (pc' := 113) (lv' := [(5, .int (nI 0)), (7, .int kv), (6, .int jv), (3, .long x), (0, .ref 2), (1, .long sd)]) (st' := []) (μ' := z_ui (z_ui (z_ui μ2 2 1 1) 2 2 52) 2 3 0) (by rfl) ?_
  exact hr 0 113 _ _ _ none (by decide +kernel) (by rfl) (⟨rfl, μ2, g2, rfl⟩)
/-! the game: deal of the reference -/
set_option maxRecDepth 8000
/-- how often a kind lies in the places a .. a + n - 1 -/
noncomputable def cW (f : Nat → Int32) (a k : Nat) : Nat → Nat
  | 0 => 0
  | n + 1 => cW f a k n + (if f (a + n) = nI k then 1 else 0)
/-- how many of a kind a SEAT has got after i tiles -/
noncomputable def mC (dl : Nat) (f : Nat → Int32) (s k : Nat) : Nat → Nat
  | 0 => 0
  | i + 1 => mC dl f s k i + (if (dl + i / 13) % 4 = s ∧ f i = nI k then 1 else 0)
theorem mC_blk {dl p s k : Nat} {f : Nat → Int32} : ∀ n, n ≤ 13 → mC dl f s k (13 * p + n) = mC dl f s k (13 * p) + (if (dl + p) % 4 = s then cW f (13 * p) k n else 0)
  | 0, _ => by split <;> rfl
  | n + 1, h => by
    show mC dl f s k (13 * p + n) + (if (dl + (13 * p + n) / 13) % 4 = s ∧ f (13 * p + n) = nI k then 1 else 0) = _
    rw [mC_blk n (by omega), show (13 * p + n) / 13 = p from by omega]
    by_cases e : (dl + p) % 4 = s
    · rw [if_pos e, if_pos e]
      show _ = mC dl f s k (13 * p) + (cW f (13 * p) k n + (if f (13 * p + n) = nI k then 1 else 0))
      by_cases e2 : f (13 * p + n) = nI k
      · rw [if_pos ⟨e, e2⟩, if_pos e2]; omega
      · rw [if_neg (fun q => e2 q.2), if_neg e2]; omega
    · rw [if_neg e, if_neg e, if_neg (fun q => e q.1)]
theorem mC_52 {dl p s k : Nat} {f : Nat → Int32} (hdl : dl < 4) (hp : p < 4) (hs : (dl + p) % 4 = s) : mC dl f s k 52 = cW f (13 * p) k 13 := by
  have h0 := mC_blk (dl := dl) (p := 0) (s := s) (k := k) (f := f) 13 (by omega)
  have h1 := mC_blk (dl := dl) (p := 1) (s := s) (k := k) (f := f) 13 (by omega)
  have h2 := mC_blk (dl := dl) (p := 2) (s := s) (k := k) (f := f) 13 (by omega)
  have h3 := mC_blk (dl := dl) (p := 3) (s := s) (k := k) (f := f) 13 (by omega)
  have z : mC dl f s k (13 * 0) = 0 := rfl
  have a0 : mC dl f s k (13 * 0 + 13) = mC dl f s k (13 * 1) := rfl
  have a1 : mC dl f s k (13 * 1 + 13) = mC dl f s k (13 * 2) := rfl
  have a2 : mC dl f s k (13 * 2 + 13) = mC dl f s k (13 * 3) := rfl
  have a3 : mC dl f s k (13 * 3 + 13) = mC dl f s k 52 := rfl
  obtain rfl | rfl | rfl | rfl : p = 0 ∨ p = 1 ∨ p = 2 ∨ p = 3 := by omega
  · rw [if_pos hs] at h0; rw [if_neg (by omega)] at h1 h2 h3; omega
  · rw [if_pos hs] at h1; rw [if_neg (by omega)] at h0 h2 h3; omega
  · rw [if_pos hs] at h2; rw [if_neg (by omega)] at h0 h1 h3; omega
  · rw [if_pos hs] at h3; rw [if_neg (by omega)] at h0 h1 h2; omega
theorem cW_le {f : Nat → Int32} {a k : Nat} : ∀ n, cW f a k n ≤ n
  | 0 => Nat.le_refl _
  | n + 1 => by
    have := cW_le (f := f) (a := a) (k := k) n
    show cW f a k n + (if f (a + n) = nI k then 1 else 0) ≤ n + 1
    split <;> omega
theorem mC_le {dl s k : Nat} {f : Nat → Int32} : ∀ n, mC dl f s k n ≤ n
  | 0 => Nat.le_refl _
  | n + 1 => by
    have := mC_le (dl := dl) (s := s) (k := k) (f := f) n
    show mC dl f s k n + (if (dl + n / 13) % 4 = s ∧ f n = nI k then 1 else 0) ≤ n + 1
    split <;> omega
theorem swW_in {f : Nat → Int32} {a b : Nat} (h : ∀ k, k < 136 → ∃ v, v < 34 ∧ f k = nI v) (ha : a < 136) (hb : b < 136) : ∀ k, k < 136 → ∃ v, v < 34 ∧ swW f a b k = nI v := by
  intro k hk
  unfold swW
  split
  · exact h a ha
  · split
    · exact h b hb
    · exact h k hk
theorem wsh_in : ∀ i, i ≤ 135 → ∀ (x : Int64) (f : Nat → Int32), (∀ k, k < 136 → ∃ v, v < 34 ∧ f k = nI v) → ∀ k, k < 136 → ∃ v, v < 34 ∧ wsh i x f k = nI v
  | 0, _, _, _, h => h
  | i + 1, hi, x, f, h => wsh_in i (by omega) (nxL x) _ (swW_in h (by omega) (jE_n (nxL x) i (by omega)).2.1)
theorem wlF_in (sd : Int64) : ∀ k, k < 136 → ∃ v, v < 34 ∧ wlF sd k = nI v := wsh_in 135 (by omega) sd _ (fun k hk => ⟨k / 4, by omega, rfl⟩)
/-- the wall as numbers -/
noncomputable def wlN (sd : Int64) (k : Nat) : Nat := (wlF sd k).toNatClampNeg
theorem wlN_e (sd : Int64) {k : Nat} (hk : k < 136) : wlF sd k = nI (wlN sd k) ∧ wlN sd k < 34 := by
  obtain ⟨v, h1, h2⟩ := wlF_in sd k hk
  have e : wlN sd k = v := by unfold wlN; rw [h2, nI_clamp (by omega)]
  rw [e]; exact ⟨h2, h1⟩
noncomputable def HZ (i : Nat) (μ0 μ1 : zM) : Prop := (∀ k, k < i → μ1.1 60 k = 0) ∧ (∀ r k, r ≠ 60 → μ1.1 r k = μ0.1 r k) ∧ μ1.2 = μ0.2
theorem HZ.nx {i : Nat} {μ0 μ1 : zM} (h : HZ i μ0 μ1) : HZ (i + 1) μ0 (z_ui μ1 60 i 0) := by
  refine ⟨fun k hk => ?_, fun r k hr => by rw [ui_o hr]; exact h.2.1 r k hr, h.2.2⟩
  by_cases e : k = i
  · rw [e, ui_s]
  · rw [ui_k e]; exact h.1 k (by omega)
noncomputable def GVd (dl : Nat) (f : Nat → Int32) (i : Nat) (μ0 μ1 : zM) : Prop := (∀ s k, s < 4 → k < 34 → μ1.1 60 (34 * s + k) = nI (mC dl f s k i)) ∧ (∀ r k, r ≠ 60 → μ1.1 r k = μ0.1 r k) ∧ μ1.2 = μ0.2
theorem GVd.nx {dl i v : Nat} {f : Nat → Int32} {μ0 μ1 : zM} (h : GVd dl f i μ0 μ1) (hv : v < 34) (hf : f i = nI v) : GVd dl f (i + 1) μ0 (z_giv μ1 ((dl + i / 13) % 4) v 1) := by
  refine ⟨fun s k hs hk => ?_, fun r k hr => by rw [giv_o hr]; exact h.2.1 r k hr, h.2.2⟩
  rw [giv_60]
  show _ = nI (mC dl f s k i + (if (dl + i / 13) % 4 = s ∧ f i = nI k then 1 else 0))
  have hm : (dl + i / 13) % 4 < 4 := Nat.mod_lt _ (by decide)
  by_cases e : 34 * s + k = 34 * ((dl + i / 13) % 4) + v
  · have e1 : (dl + i / 13) % 4 = s := by omega
    have e2 : k = v := by omega
    rw [if_pos e, h.1 s k hs hk, if_pos ⟨e1, by rw [hf, e2]⟩, nI_s1]
  · rw [if_neg e, h.1 s k hs hk, if_neg (fun q => e (by
      have := (nI_eq (a := v) (b := k) (by omega) (by omega)).mp (hf.symm.trans q.2)
      omega)), Nat.add_zero]
theorem nI_dm : ∀ D, D < 4 → ∀ i, i < 52 → (nI D + nI i / 13) - (nI D + nI i / 13) / 4 * 4 = nI ((D + i / 13) % 4) := by decide +kernel
/-- what the deal leaves before the first draw -/
noncomputable def DLM (dl : Nat) (sd : Int64) (μ0 μ3 : zM) : Prop := (∀ k, k < 136 → μ3.1 59 k = wlF sd k) ∧ (∀ s k, s < 4 → k < 34 → μ3.1 60 (34 * s + k) = nI (mC dl (wlF sd) s k 52)) ∧ (∀ r k, r ≠ 59 → r ≠ 60 → μ3.1 r k = μ0.1 r k) ∧ μ3.2 = μ0.2
theorem dm125 (d' : Nat) (Z : zK) (hc : z_clo z_x0 mi_X7_deal (z_C d') Z) (x sd : Int64) (kv jv : Int32) (μ0 : zM) (K : ∀ μ1, HZ 136 μ0 μ1 → Z 0 149 [(5, .int (nI 136)), (7, .int kv), (6, .int jv), (3, .long x), (0, .ref 50), (1, .long sd)] [] μ1) : ∀ n i, i + n = 136 → ∀ μ1, HZ i μ0 μ1 → Z 0 125 [(5, .int (nI i)), (7, .int kv), (6, .int jv), (3, .long x), (0, .ref 50), (1, .long sd)] [] μ1 := by
  have hH := zh_X7_deal
  intro n
  induction n with
  | zero =>
    intro i hi μ1 g1
    have hi : i = 136 := by omega
    subst hi
    refine z_rcs hc hH 2 (pc' := 128) (lv' := [(5, .int (nI 136)), (7, .int kv), (6, .int jv), (3, .long x), (0, .ref 50), (1, .long sd)]) (st' := [.ref 50, .int (nI 136)]) (μ' := μ1) (by rfl) ?_
    refine zq_gfr hc hH (by rfl) (ci := 6) (f := 28) (q := 60) (by rfl) (by decide +kernel) (by rfl) (by decide +kernel) ?_
    refine z_rcs hc hH 1 (pc' := 132) (lv' := [(5, .int (nI 136)), (7, .int kv), (6, .int jv), (3, .long x), (0, .ref 50), (1, .long sd)]) (st' := [.int 136, .int (nI 136)]) (μ' := μ1) (by rfl) ?_
    refine zq_ic hc hH (by rfl) (tg := 149) (by rfl) (fun h1 => ?_) (fun h1 => ?_)
    · have h1 : (decide (136 ≤ (nI 136))) = true := decide_eq_true (cm_ge.mp h1)
      exact K μ1 g1
    · have h1 : (decide (136 ≤ (nI 136))) = false := decide_eq_false (cn_ge.mp h1)
      exact absurd (Eq.trans (Eq.symm (kn_le2 (m := 136) rfl (by omega) (by omega))) h1) (by decide)
  | succ n ih =>
    intro i hi μ1 g1
    refine z_rcs hc hH 2 (pc' := 128) (lv' := [(5, .int (nI i)), (7, .int kv), (6, .int jv), (3, .long x), (0, .ref 50), (1, .long sd)]) (st' := [.ref 50, .int (nI i)]) (μ' := μ1) (by rfl) ?_
    refine zq_gfr hc hH (by rfl) (ci := 6) (f := 28) (q := 60) (by rfl) (by decide +kernel) (by rfl) (by decide +kernel) ?_
    refine z_rcs hc hH 1 (pc' := 132) (lv' := [(5, .int (nI i)), (7, .int kv), (6, .int jv), (3, .long x), (0, .ref 50), (1, .long sd)]) (st' := [.int 136, .int (nI i)]) (μ' := μ1) (by rfl) ?_
    refine zq_ic hc hH (by rfl) (tg := 149) (by rfl) (fun h1 => ?_) (fun h1 => ?_)
    · have h1 : (decide (136 ≤ (nI i))) = true := decide_eq_true (cm_ge.mp h1)
      exact absurd (Eq.trans (Eq.symm (kn_le (m := 136) rfl (by omega) (by omega))) h1) (by decide)
    · have h1 : (decide (136 ≤ (nI i))) = false := decide_eq_false (cn_ge.mp h1)
      refine z_rcs hc hH 1 (pc' := 136) (lv' := [(5, .int (nI i)), (7, .int kv), (6, .int jv), (3, .long x), (0, .ref 50), (1, .long sd)]) (st' := [.ref 50]) (μ' := μ1) (by rfl) ?_
      refine zq_gfr hc hH (by rfl) (ci := 6) (f := 28) (q := 60) (by rfl) (by decide +kernel) (by rfl) (by decide +kernel) ?_
      refine z_rcs hc hH 2 (pc' := 142) (lv' := [(5, .int (nI i)), (7, .int kv), (6, .int jv), (3, .long x), (0, .ref 50), (1, .long sd)]) (st' := [.int 0, .int (nI i), .ref 60]) (μ' := μ1) (by rfl) ?_
      refine zq_iast hc hH (by rfl) 136 (oka_i (by decide +kernel)).2 (vp_in_nI (by omega) (by decide)) ?_
      rw [nI_clamp (by omega)]
      show Z 0 143 [(5, .int (nI i)), (7, .int kv), (6, .int jv), (3, .long x), (0, .ref 50), (1, .long sd)] [] (z_ui μ1 60 i 0)
      refine z_rcs hc hH 2 (pc' := 125) (lv' := [(5, .int ((nI i) + 1)), (7, .int kv), (6, .int jv), (3, .long x), (0, .ref 50), (1, .long sd)]) (st' := []) (μ' := z_ui μ1 60 i 0) (by rfl) ?_
      rw [nI_s1]
      exact ih (i + 1) (by omega) _ g1.nx
theorem dm152 (d' : Nat) (Z : zK) (hc : z_clo z_x0 mi_X7_deal (z_C d') Z) (hd : 2 ≤ d') (x sd : Int64) (kv jv : Int32) (dl : Nat) (hdl4 : dl < 4) (s0 : Int64) (μ0 : zM) (hdl : μ0.1 50 40 = nI dl) (hW : ∀ k, k < 136 → μ0.1 59 k = wlF s0 k) (K : ∀ μ1, GVd dl (wlF s0) 52 μ0 μ1 → Z 0 189 [(5, .int (nI 52)), (7, .int kv), (6, .int jv), (3, .long x), (0, .ref 50), (1, .long sd)] [] μ1) : ∀ n i, i + n = 52 → ∀ μ1, GVd dl (wlF s0) i μ0 μ1 → Z 0 152 [(5, .int (nI i)), (7, .int kv), (6, .int jv), (3, .long x), (0, .ref 50), (1, .long sd)] [] μ1 := by
  have hH := zh_X7_deal
  intro n
  induction n with
  | zero =>
    intro i hi μ1 g1
    have hi : i = 52 := by omega
    subst hi
    refine z_rcs hc hH 2 (pc' := 156) (lv' := [(5, .int (nI 52)), (7, .int kv), (6, .int jv), (3, .long x), (0, .ref 50), (1, .long sd)]) (st' := [.int 52, .int (nI 52)]) (μ' := μ1) (by rfl) ?_
    refine zq_ic hc hH (by rfl) (tg := 189) (by rfl) (fun h1 => ?_) (fun h1 => ?_)
    · have h1 : (decide (52 ≤ (nI 52))) = true := decide_eq_true (cm_ge.mp h1)
      exact K μ1 g1
    · have h1 : (decide (52 ≤ (nI 52))) = false := decide_eq_false (cn_ge.mp h1)
      exact absurd (Eq.trans (Eq.symm (kn_le2 (m := 52) rfl (by omega) (by omega))) h1) (by decide)
  | succ n ih =>
    intro i hi μ1 g1
    refine z_rcs hc hH 2 (pc' := 156) (lv' := [(5, .int (nI i)), (7, .int kv), (6, .int jv), (3, .long x), (0, .ref 50), (1, .long sd)]) (st' := [.int 52, .int (nI i)]) (μ' := μ1) (by rfl) ?_
    refine zq_ic hc hH (by rfl) (tg := 189) (by rfl) (fun h1 => ?_) (fun h1 => ?_)
    · have h1 : (decide (52 ≤ (nI i))) = true := decide_eq_true (cm_ge.mp h1)
      exact absurd (Eq.trans (Eq.symm (kn_le (m := 52) rfl (by omega) (by omega))) h1) (by decide)
    · have h1 : (decide (52 ≤ (nI i))) = false := decide_eq_false (cn_ge.mp h1)
      refine z_rcs hc hH 2 (pc' := 161) (lv' := [(5, .int (nI i)), (7, .int kv), (6, .int jv), (3, .long x), (0, .ref 50), (1, .long sd)]) (st' := [.ref 50, .ref 50]) (μ' := μ1) (by rfl) ?_
      refine zq_gfi hc hH (by rfl) (ci := 6) (f := 40) (by rfl) (by decide +kernel) (by rfl) ?_
      rw [((g1.2.1 50 40 (by decide)).trans hdl)]
      refine z_rcs hc hH 6 (pc' := 172) (lv' := [(5, .int (nI i)), (7, .int kv), (6, .int jv), (3, .long x), (0, .ref 50), (1, .long sd)]) (st' := [.int (((nI dl) + ((nI i) / 13)) - ((nI dl) + ((nI i) / 13)) / 4 * 4), .ref 50]) (μ' := μ1) (by rfl) ?_
      rw [nI_dm dl hdl4 i (by omega)]
      refine z_rcs hc hH 1 (pc' := 173) (lv' := [(5, .int (nI i)), (7, .int kv), (6, .int jv), (3, .long x), (0, .ref 50), (1, .long sd)]) (st' := [.ref 50, .int (nI ((dl + i / 13) % 4)), .ref 50]) (μ' := μ1) (by rfl) ?_
      refine zq_gfr hc hH (by rfl) (ci := 6) (f := 27) (q := 59) (by rfl) (by decide +kernel) (by rfl) (by decide +kernel) ?_
      refine z_rcs hc hH 1 (pc' := 178) (lv' := [(5, .int (nI i)), (7, .int kv), (6, .int jv), (3, .long x), (0, .ref 50), (1, .long sd)]) (st' := [.int (nI i), .ref 59, .int (nI ((dl + i / 13) % 4)), .ref 50]) (μ' := μ1) (by rfl) ?_
      refine zq_iald hc hH (by rfl) 136 (oka_i (by decide +kernel)) (vp_in_nI (by omega) (by decide)) ?_
      rw [nI_clamp (by omega)]
      rw [((g1.2.1 59 i (by decide)).trans ((hW i (by omega)).trans (wlN_e s0 (by omega)).1))]
      refine z_rcs hc hH 1 (pc' := 180) (lv' := [(5, .int (nI i)), (7, .int kv), (6, .int jv), (3, .long x), (0, .ref 50), (1, .long sd)]) (st' := [.int 1, .int (nI (wlN s0 i)), .int (nI ((dl + i / 13) % 4)), .ref 50]) (μ' := μ1) (by rfl) ?_
      refine zq_call hc (z_cx_ok hH (by rfl)) (fc_X7_gives d' (by omega) μ1 ((dl + i / 13) % 4) (wlN s0 i) 1 (Nat.mod_lt _ (by decide)) (wlN_e s0 (by omega)).2) (by decide +kernel) (fun r9 μ9 hq => ?_)
      obtain ⟨rfl, rfl⟩ := hq
      show Z 0 183 [(5, .int (nI i)), (7, .int kv), (6, .int jv), (3, .long x), (0, .ref 50), (1, .long sd)] [] (z_giv μ1 ((dl + i / 13) % 4) (wlN s0 i) 1)
      refine z_rcs0 hc hH 2 (pc' := 152) (lv' := [(5, .int ((nI i) + 1)), (7, .int kv), (6, .int jv), (3, .long x), (0, .ref 50), (1, .long sd)]) (st' := []) (by rfl) ?_
      rw [nI_s1]
      exact ih (i + 1) (by omega) _ (g1.nx (wlN_e s0 (by omega)).2 (wlN_e s0 (by omega)).1)
noncomputable def dlM (μ3 : zM) (dl : Nat) (sd : Int64) : zM := dM0 (z_ui (z_ui (z_ui (z_ui (z_ui (z_ui (z_ui (z_ui (z_ui (z_ui (z_ui (z_ui (z_ui (z_ui (z_ui (z_ui (z_ui (z_ui (z_ui (z_ui (z_ui (z_ui (z_ui (z_ui (z_ui (z_ui (z_ui (z_ui (z_ui (z_ui (z_ui (z_ui (z_ui (z_ui (z_ui μ3 64 0 0) 66 0 0) 67 0 0) 68 0 0) 69 0 0) 70 0 0) 71 0 0) 64 1 0) 66 1 0) 67 1 0) 68 1 0) 69 1 0) 70 1 0) 71 1 0) 64 2 0) 66 2 0) 67 2 0) 68 2 0) 69 2 0) 70 2 0) 71 2 0) 64 3 0) 66 3 0) 67 3 0) 68 3 0) 69 3 0) 70 3 0) 71 3 0) 50 46 52) 50 47 0) 50 48 0) 50 53 0) 50 56 1) 50 59 0) 50 55 1) dl 52 (wlN sd 52)
theorem gm_deal (d : Nat) (hd : 5 ≤ d) (μ : zM) (sd : Int64) (dl : Nat) (hdl : μ.1 50 40 = nI dl) (hdl4 : dl < 4) (hp : decide (μ.1 50 44 = 0) = true) (he : decide (μ.1 50 54 = 0) = true) : z_C d mi_X7_deal [.ref 50, .long sd] μ (fun r μ' => r = some (.int 1) ∧ ∃ μ3, DLM dl sd (z_ui μ 50 0 0) μ3 ∧ μ' = dlM μ3 dl sd) := by
  refine z_C_in (by decide) (by omega) (fun d' Z ed hc hr => ?_)
  have hH : zH mi_X7_deal zt_X7_deal 79 7 8 := hh_X7_deal
  refine z_rcs hc hH 2 (pc' := 2) (lv' := [(0, .ref 50), (1, .long sd)]) (st' := [.int 0, .ref 50]) (μ' := μ) (by rfl) ?_
  refine zq_pfi hc hH (by rfl) (ci := 6) (f := 0) (by rfl) (by decide +kernel) (by rfl) ?_
  show Z 0 5 [(0, .ref 50), (1, .long sd)] [] (z_ui μ 50 0 0)
  refine z_rcs hc hH 1 (pc' := 6) (lv' := [(0, .ref 50), (1, .long sd)]) (st' := [.ref 50]) (μ' := z_ui μ 50 0 0) (by rfl) ?_
  refine zq_gfi hc hH (by rfl) (ci := 6) (f := 44) (by rfl) (by decide +kernel) (by rfl) ?_
  refine zV1 (Z := Z) (ui_k (by first | decide | omega)) ?_
  refine zq_if hc hH (by rfl) (tg := 19) (by rfl) (fun h1 => ?_) (fun h1 => ?_)
  · have h1 : (decide ((μ.1 50 44) = 0)) = false := decide_eq_false (cm_ne.mp h1)
    exact absurd (Eq.trans (Eq.symm (hp)) h1) (by decide)
  · have h1 : (decide ((μ.1 50 44) = 0)) = true := decide_eq_true (cn_ne.mp h1)
    refine z_rcs hc hH 1 (pc' := 13) (lv' := [(0, .ref 50), (1, .long sd)]) (st' := [.ref 50]) (μ' := z_ui μ 50 0 0) (by rfl) ?_
    refine zq_gfi hc hH (by rfl) (ci := 6) (f := 54) (by rfl) (by decide +kernel) (by rfl) ?_
    refine zV1 (Z := Z) (ui_k (by first | decide | omega)) ?_
    refine zq_if hc hH (by rfl) (tg := 21) (by rfl) (fun h2 => ?_) (fun h2 => ?_)
    · have h2 : (decide ((μ.1 50 54) = 0)) = true := decide_eq_true (cm_eq9.mp h2)
      refine z_rcs hc hH 4 (pc' := 26) (lv' := [(5, .int 0), (3, .long sd), (0, .ref 50), (1, .long sd)]) (st' := []) (μ' := z_ui μ 50 0 0) (by rfl) ?_
      refine wm1 d' Z hc sd (z_ui μ 50 0 0) (fun μ1 g1 => wm3 d' Z hc sd (z_ui μ 50 0 0) (fun x kv jv μ2 g2 => ?_) μ1 g1) 136 0 (by omega) (z_ui μ 50 0 0) ⟨fun k hk => absurd hk (by omega), fun _ _ _ => rfl, rfl⟩
      refine z_rcs hc hH 2 (pc' := 125) (lv' := [(5, .int (nI 0)), (7, .int kv), (6, .int jv), (3, .long x), (0, .ref 50), (1, .long sd)]) (st' := []) (μ' := μ2) (by rfl) ?_
      refine dm125 d' Z hc x sd kv jv μ2 (fun μa ga => ?_) 136 0 (by omega) μ2 ⟨fun k hk => absurd hk (by omega), fun _ _ _ => rfl, rfl⟩
      refine z_rcs hc hH 2 (pc' := 152) (lv' := [(5, .int (nI 0)), (7, .int kv), (6, .int jv), (3, .long x), (0, .ref 50), (1, .long sd)]) (st' := []) (μ' := μa) (by rfl) ?_
      have hda : μa.1 50 40 = nI dl := by rw [ga.2.1 50 40 (by decide), g2.2.1 50 40 (by decide), ui_k (by decide)]; exact hdl
      refine dm152 d' Z hc (by omega) x sd kv jv dl hdl4 sd μa hda (fun k hk => by rw [ga.2.1 59 k (by decide)]; exact g2.1 k hk) (fun μ3 gb => ?_) 52 0 (by omega) μa ⟨fun s k hs hk => ga.1 _ (by omega), fun _ _ _ => rfl, rfl⟩
      have hM : DLM dl sd (z_ui μ 50 0 0) μ3 := ⟨fun k hk => by rw [gb.2.1 59 k (by decide), ga.2.1 59 k (by decide)]; exact g2.1 k hk, gb.1, fun r k h1 h2 => by rw [gb.2.1 r k h2, ga.2.1 r k h2]; exact g2.2.1 r k h1, by rw [gb.2.2, ga.2.2]; exact g2.2.2⟩
      refine z_rcs hc hH 6 (pc' := 199) (lv' := [(5, .int 0), (7, .int kv), (6, .int jv), (3, .long x), (0, .ref 50), (1, .long sd)]) (st' := [.ref 50]) (μ' := μ3) (by rfl) ?_
      refine zq_gfr hc hH (by rfl) (ci := 6) (f := 32) (q := 64) (by rfl) (by decide +kernel) (by rfl) (by decide +kernel) ?_
      refine z_rcs hc hH 2 (pc' := 205) (lv' := [(5, .int 0), (7, .int kv), (6, .int jv), (3, .long x), (0, .ref 50), (1, .long sd)]) (st' := [.int 0, .int 0, .ref 64]) (μ' := μ3) (by rfl) ?_
      refine zq_iast hc hH (by rfl) 4 (oka_i (by decide +kernel)).2 (show vp_in (nI 0) 4 from vp_in_nI (by decide) (by decide)) ?_
      rw [show (0 : Int32).toNatClampNeg = 0 from rfl]
      show Z 0 206 [(5, .int 0), (7, .int kv), (6, .int jv), (3, .long x), (0, .ref 50), (1, .long sd)] [] (z_ui μ3 64 0 0)
      refine z_rcs hc hH 1 (pc' := 207) (lv' := [(5, .int 0), (7, .int kv), (6, .int jv), (3, .long x), (0, .ref 50), (1, .long sd)]) (st' := [.ref 50]) (μ' := z_ui μ3 64 0 0) (by rfl) ?_
      refine zq_gfr hc hH (by rfl) (ci := 6) (f := 34) (q := 66) (by rfl) (by decide +kernel) (by rfl) (by decide +kernel) ?_
      refine z_rcs hc hH 2 (pc' := 213) (lv' := [(5, .int 0), (7, .int kv), (6, .int jv), (3, .long x), (0, .ref 50), (1, .long sd)]) (st' := [.int 0, .int 0, .ref 66]) (μ' := z_ui μ3 64 0 0) (by rfl) ?_
      refine zq_iast hc hH (by rfl) 4 (oka_i (by decide +kernel)).2 (show vp_in (nI 0) 4 from vp_in_nI (by decide) (by decide)) ?_
      rw [show (0 : Int32).toNatClampNeg = 0 from rfl]
      show Z 0 214 [(5, .int 0), (7, .int kv), (6, .int jv), (3, .long x), (0, .ref 50), (1, .long sd)] [] (z_ui (z_ui μ3 64 0 0) 66 0 0)
      refine z_rcs0 hc hH 1 (pc' := 215) (lv' := [(5, .int 0), (7, .int kv), (6, .int jv), (3, .long x), (0, .ref 50), (1, .long sd)]) (st' := [.ref 50]) (by rfl) ?_
      refine zq_gfr hc hH (by rfl) (ci := 6) (f := 35) (q := 67) (by rfl) (by decide +kernel) (by rfl) (by decide +kernel) ?_
      refine z_rcs0 hc hH 2 (pc' := 221) (lv' := [(5, .int 0), (7, .int kv), (6, .int jv), (3, .long x), (0, .ref 50), (1, .long sd)]) (st' := [.int 0, .int 0, .ref 67]) (by rfl) ?_
      refine zq_iast hc hH (by rfl) 4 (oka_i (by decide +kernel)).2 (show vp_in (nI 0) 4 from vp_in_nI (by decide) (by decide)) ?_
      rw [show (0 : Int32).toNatClampNeg = 0 from rfl]
      show Z 0 222 [(5, .int 0), (7, .int kv), (6, .int jv), (3, .long x), (0, .ref 50), (1, .long sd)] [] (z_ui (z_ui (z_ui μ3 64 0 0) 66 0 0) 67 0 0)
      refine z_rcs0 hc hH 1 (pc' := 223) (lv' := [(5, .int 0), (7, .int kv), (6, .int jv), (3, .long x), (0, .ref 50), (1, .long sd)]) (st' := [.ref 50]) (by rfl) ?_
      refine zq_gfr hc hH (by rfl) (ci := 6) (f := 36) (q := 68) (by rfl) (by decide +kernel) (by rfl) (by decide +kernel) ?_
      refine z_rcs0 hc hH 2 (pc' := 229) (lv' := [(5, .int 0), (7, .int kv), (6, .int jv), (3, .long x), (0, .ref 50), (1, .long sd)]) (st' := [.int 0, .int 0, .ref 68]) (by rfl) ?_
      refine zq_iast hc hH (by rfl) 4 (oka_i (by decide +kernel)).2 (show vp_in (nI 0) 4 from vp_in_nI (by decide) (by decide)) ?_
      rw [show (0 : Int32).toNatClampNeg = 0 from rfl]
      show Z 0 230 [(5, .int 0), (7, .int kv), (6, .int jv), (3, .long x), (0, .ref 50), (1, .long sd)] [] (z_ui (z_ui (z_ui (z_ui μ3 64 0 0) 66 0 0) 67 0 0) 68 0 0)
      refine z_rcs0 hc hH 1 (pc' := 231) (lv' := [(5, .int 0), (7, .int kv), (6, .int jv), (3, .long x), (0, .ref 50), (1, .long sd)]) (st' := [.ref 50]) (by rfl) ?_
      refine zq_gfr hc hH (by rfl) (ci := 6) (f := 37) (q := 69) (by rfl) (by decide +kernel) (by rfl) (by decide +kernel) ?_
      refine z_rcs0 hc hH 2 (pc' := 237) (lv' := [(5, .int 0), (7, .int kv), (6, .int jv), (3, .long x), (0, .ref 50), (1, .long sd)]) (st' := [.int 0, .int 0, .ref 69]) (by rfl) ?_
      refine zq_bast hc hH (by rfl) 4 (by decide +kernel) (show vp_in (nI 0) 4 from vp_in_nI (by decide) (by decide)) (by decide) ?_
      rw [show (0 : Int32).toNatClampNeg = 0 from rfl]
      show Z 0 238 [(5, .int 0), (7, .int kv), (6, .int jv), (3, .long x), (0, .ref 50), (1, .long sd)] [] (z_ui (z_ui (z_ui (z_ui (z_ui μ3 64 0 0) 66 0 0) 67 0 0) 68 0 0) 69 0 0)
      refine z_rcs0 hc hH 1 (pc' := 239) (lv' := [(5, .int 0), (7, .int kv), (6, .int jv), (3, .long x), (0, .ref 50), (1, .long sd)]) (st' := [.ref 50]) (by rfl) ?_
      refine zq_gfr hc hH (by rfl) (ci := 6) (f := 38) (q := 70) (by rfl) (by decide +kernel) (by rfl) (by decide +kernel) ?_
      refine z_rcs0 hc hH 2 (pc' := 245) (lv' := [(5, .int 0), (7, .int kv), (6, .int jv), (3, .long x), (0, .ref 50), (1, .long sd)]) (st' := [.int 0, .int 0, .ref 70]) (by rfl) ?_
      refine zq_bast hc hH (by rfl) 4 (by decide +kernel) (show vp_in (nI 0) 4 from vp_in_nI (by decide) (by decide)) (by decide) ?_
      rw [show (0 : Int32).toNatClampNeg = 0 from rfl]
      show Z 0 246 [(5, .int 0), (7, .int kv), (6, .int jv), (3, .long x), (0, .ref 50), (1, .long sd)] [] (z_ui (z_ui (z_ui (z_ui (z_ui (z_ui μ3 64 0 0) 66 0 0) 67 0 0) 68 0 0) 69 0 0) 70 0 0)
      refine z_rcs0 hc hH 1 (pc' := 247) (lv' := [(5, .int 0), (7, .int kv), (6, .int jv), (3, .long x), (0, .ref 50), (1, .long sd)]) (st' := [.ref 50]) (by rfl) ?_
      refine zq_gfr hc hH (by rfl) (ci := 6) (f := 39) (q := 71) (by rfl) (by decide +kernel) (by rfl) (by decide +kernel) ?_
      refine z_rcs0 hc hH 2 (pc' := 253) (lv' := [(5, .int 0), (7, .int kv), (6, .int jv), (3, .long x), (0, .ref 50), (1, .long sd)]) (st' := [.int 0, .int 0, .ref 71]) (by rfl) ?_
      refine zq_bast hc hH (by rfl) 4 (by decide +kernel) (show vp_in (nI 0) 4 from vp_in_nI (by decide) (by decide)) (by decide) ?_
      rw [show (0 : Int32).toNatClampNeg = 0 from rfl]
      show Z 0 254 [(5, .int 0), (7, .int kv), (6, .int jv), (3, .long x), (0, .ref 50), (1, .long sd)] [] (z_ui (z_ui (z_ui (z_ui (z_ui (z_ui (z_ui μ3 64 0 0) 66 0 0) 67 0 0) 68 0 0) 69 0 0) 70 0 0) 71 0 0)
      refine z_rcs0 hc hH 6 (pc' := 199) (lv' := [(5, .int 1), (7, .int kv), (6, .int jv), (3, .long x), (0, .ref 50), (1, .long sd)]) (st' := [.ref 50]) (by rfl) ?_
      refine zq_gfr hc hH (by rfl) (ci := 6) (f := 32) (q := 64) (by rfl) (by decide +kernel) (by rfl) (by decide +kernel) ?_
      refine z_rcs0 hc hH 2 (pc' := 205) (lv' := [(5, .int 1), (7, .int kv), (6, .int jv), (3, .long x), (0, .ref 50), (1, .long sd)]) (st' := [.int 0, .int 1, .ref 64]) (by rfl) ?_
      refine zq_iast hc hH (by rfl) 4 (oka_i (by decide +kernel)).2 (show vp_in (nI 1) 4 from vp_in_nI (by decide) (by decide)) ?_
      rw [show (1 : Int32).toNatClampNeg = 1 from rfl]
      show Z 0 206 [(5, .int 1), (7, .int kv), (6, .int jv), (3, .long x), (0, .ref 50), (1, .long sd)] [] (z_ui (z_ui (z_ui (z_ui (z_ui (z_ui (z_ui (z_ui μ3 64 0 0) 66 0 0) 67 0 0) 68 0 0) 69 0 0) 70 0 0) 71 0 0) 64 1 0)
      refine z_rcs0 hc hH 1 (pc' := 207) (lv' := [(5, .int 1), (7, .int kv), (6, .int jv), (3, .long x), (0, .ref 50), (1, .long sd)]) (st' := [.ref 50]) (by rfl) ?_
      refine zq_gfr hc hH (by rfl) (ci := 6) (f := 34) (q := 66) (by rfl) (by decide +kernel) (by rfl) (by decide +kernel) ?_
      refine z_rcs0 hc hH 2 (pc' := 213) (lv' := [(5, .int 1), (7, .int kv), (6, .int jv), (3, .long x), (0, .ref 50), (1, .long sd)]) (st' := [.int 0, .int 1, .ref 66]) (by rfl) ?_
      refine zq_iast hc hH (by rfl) 4 (oka_i (by decide +kernel)).2 (show vp_in (nI 1) 4 from vp_in_nI (by decide) (by decide)) ?_
      rw [show (1 : Int32).toNatClampNeg = 1 from rfl]
      show Z 0 214 [(5, .int 1), (7, .int kv), (6, .int jv), (3, .long x), (0, .ref 50), (1, .long sd)] [] (z_ui (z_ui (z_ui (z_ui (z_ui (z_ui (z_ui (z_ui (z_ui μ3 64 0 0) 66 0 0) 67 0 0) 68 0 0) 69 0 0) 70 0 0) 71 0 0) 64 1 0) 66 1 0)
      refine z_rcs0 hc hH 1 (pc' := 215) (lv' := [(5, .int 1), (7, .int kv), (6, .int jv), (3, .long x), (0, .ref 50), (1, .long sd)]) (st' := [.ref 50]) (by rfl) ?_
      refine zq_gfr hc hH (by rfl) (ci := 6) (f := 35) (q := 67) (by rfl) (by decide +kernel) (by rfl) (by decide +kernel) ?_
      refine z_rcs0 hc hH 2 (pc' := 221) (lv' := [(5, .int 1), (7, .int kv), (6, .int jv), (3, .long x), (0, .ref 50), (1, .long sd)]) (st' := [.int 0, .int 1, .ref 67]) (by rfl) ?_
      refine zq_iast hc hH (by rfl) 4 (oka_i (by decide +kernel)).2 (show vp_in (nI 1) 4 from vp_in_nI (by decide) (by decide)) ?_
      rw [show (1 : Int32).toNatClampNeg = 1 from rfl]
      show Z 0 222 [(5, .int 1), (7, .int kv), (6, .int jv), (3, .long x), (0, .ref 50), (1, .long sd)] [] (z_ui (z_ui (z_ui (z_ui (z_ui (z_ui (z_ui (z_ui (z_ui (z_ui μ3 64 0 0) 66 0 0) 67 0 0) 68 0 0) 69 0 0) 70 0 0) 71 0 0) 64 1 0) 66 1 0) 67 1 0)
      refine z_rcs0 hc hH 1 (pc' := 223) (lv' := [(5, .int 1), (7, .int kv), (6, .int jv), (3, .long x), (0, .ref 50), (1, .long sd)]) (st' := [.ref 50]) (by rfl) ?_
      refine zq_gfr hc hH (by rfl) (ci := 6) (f := 36) (q := 68) (by rfl) (by decide +kernel) (by rfl) (by decide +kernel) ?_
      refine z_rcs0 hc hH 2 (pc' := 229) (lv' := [(5, .int 1), (7, .int kv), (6, .int jv), (3, .long x), (0, .ref 50), (1, .long sd)]) (st' := [.int 0, .int 1, .ref 68]) (by rfl) ?_
      refine zq_iast hc hH (by rfl) 4 (oka_i (by decide +kernel)).2 (show vp_in (nI 1) 4 from vp_in_nI (by decide) (by decide)) ?_
      rw [show (1 : Int32).toNatClampNeg = 1 from rfl]
      show Z 0 230 [(5, .int 1), (7, .int kv), (6, .int jv), (3, .long x), (0, .ref 50), (1, .long sd)] [] (z_ui (z_ui (z_ui (z_ui (z_ui (z_ui (z_ui (z_ui (z_ui (z_ui (z_ui μ3 64 0 0) 66 0 0) 67 0 0) 68 0 0) 69 0 0) 70 0 0) 71 0 0) 64 1 0) 66 1 0) 67 1 0) 68 1 0)
      refine z_rcs0 hc hH 1 (pc' := 231) (lv' := [(5, .int 1), (7, .int kv), (6, .int jv), (3, .long x), (0, .ref 50), (1, .long sd)]) (st' := [.ref 50]) (by rfl) ?_
      refine zq_gfr hc hH (by rfl) (ci := 6) (f := 37) (q := 69) (by rfl) (by decide +kernel) (by rfl) (by decide +kernel) ?_
      refine z_rcs0 hc hH 2 (pc' := 237) (lv' := [(5, .int 1), (7, .int kv), (6, .int jv), (3, .long x), (0, .ref 50), (1, .long sd)]) (st' := [.int 0, .int 1, .ref 69]) (by rfl) ?_
      refine zq_bast hc hH (by rfl) 4 (by decide +kernel) (show vp_in (nI 1) 4 from vp_in_nI (by decide) (by decide)) (by decide) ?_
      rw [show (1 : Int32).toNatClampNeg = 1 from rfl]
      show Z 0 238 [(5, .int 1), (7, .int kv), (6, .int jv), (3, .long x), (0, .ref 50), (1, .long sd)] [] (z_ui (z_ui (z_ui (z_ui (z_ui (z_ui (z_ui (z_ui (z_ui (z_ui (z_ui (z_ui μ3 64 0 0) 66 0 0) 67 0 0) 68 0 0) 69 0 0) 70 0 0) 71 0 0) 64 1 0) 66 1 0) 67 1 0) 68 1 0) 69 1 0)
      refine z_rcs0 hc hH 1 (pc' := 239) (lv' := [(5, .int 1), (7, .int kv), (6, .int jv), (3, .long x), (0, .ref 50), (1, .long sd)]) (st' := [.ref 50]) (by rfl) ?_
      refine zq_gfr hc hH (by rfl) (ci := 6) (f := 38) (q := 70) (by rfl) (by decide +kernel) (by rfl) (by decide +kernel) ?_
      refine z_rcs0 hc hH 2 (pc' := 245) (lv' := [(5, .int 1), (7, .int kv), (6, .int jv), (3, .long x), (0, .ref 50), (1, .long sd)]) (st' := [.int 0, .int 1, .ref 70]) (by rfl) ?_
      refine zq_bast hc hH (by rfl) 4 (by decide +kernel) (show vp_in (nI 1) 4 from vp_in_nI (by decide) (by decide)) (by decide) ?_
      rw [show (1 : Int32).toNatClampNeg = 1 from rfl]
      show Z 0 246 [(5, .int 1), (7, .int kv), (6, .int jv), (3, .long x), (0, .ref 50), (1, .long sd)] [] (z_ui (z_ui (z_ui (z_ui (z_ui (z_ui (z_ui (z_ui (z_ui (z_ui (z_ui (z_ui (z_ui μ3 64 0 0) 66 0 0) 67 0 0) 68 0 0) 69 0 0) 70 0 0) 71 0 0) 64 1 0) 66 1 0) 67 1 0) 68 1 0) 69 1 0) 70 1 0)
      refine z_rcs0 hc hH 1 (pc' := 247) (lv' := [(5, .int 1), (7, .int kv), (6, .int jv), (3, .long x), (0, .ref 50), (1, .long sd)]) (st' := [.ref 50]) (by rfl) ?_
      refine zq_gfr hc hH (by rfl) (ci := 6) (f := 39) (q := 71) (by rfl) (by decide +kernel) (by rfl) (by decide +kernel) ?_
      refine z_rcs0 hc hH 2 (pc' := 253) (lv' := [(5, .int 1), (7, .int kv), (6, .int jv), (3, .long x), (0, .ref 50), (1, .long sd)]) (st' := [.int 0, .int 1, .ref 71]) (by rfl) ?_
      refine zq_bast hc hH (by rfl) 4 (by decide +kernel) (show vp_in (nI 1) 4 from vp_in_nI (by decide) (by decide)) (by decide) ?_
      rw [show (1 : Int32).toNatClampNeg = 1 from rfl]
      show Z 0 254 [(5, .int 1), (7, .int kv), (6, .int jv), (3, .long x), (0, .ref 50), (1, .long sd)] [] (z_ui (z_ui (z_ui (z_ui (z_ui (z_ui (z_ui (z_ui (z_ui (z_ui (z_ui (z_ui (z_ui (z_ui μ3 64 0 0) 66 0 0) 67 0 0) 68 0 0) 69 0 0) 70 0 0) 71 0 0) 64 1 0) 66 1 0) 67 1 0) 68 1 0) 69 1 0) 70 1 0) 71 1 0)
      refine z_rcs0 hc hH 6 (pc' := 199) (lv' := [(5, .int 2), (7, .int kv), (6, .int jv), (3, .long x), (0, .ref 50), (1, .long sd)]) (st' := [.ref 50]) (by rfl) ?_
      refine zq_gfr hc hH (by rfl) (ci := 6) (f := 32) (q := 64) (by rfl) (by decide +kernel) (by rfl) (by decide +kernel) ?_
      refine z_rcs0 hc hH 2 (pc' := 205) (lv' := [(5, .int 2), (7, .int kv), (6, .int jv), (3, .long x), (0, .ref 50), (1, .long sd)]) (st' := [.int 0, .int 2, .ref 64]) (by rfl) ?_
      refine zq_iast hc hH (by rfl) 4 (oka_i (by decide +kernel)).2 (show vp_in (nI 2) 4 from vp_in_nI (by decide) (by decide)) ?_
      rw [show (2 : Int32).toNatClampNeg = 2 from rfl]
      show Z 0 206 [(5, .int 2), (7, .int kv), (6, .int jv), (3, .long x), (0, .ref 50), (1, .long sd)] [] (z_ui (z_ui (z_ui (z_ui (z_ui (z_ui (z_ui (z_ui (z_ui (z_ui (z_ui (z_ui (z_ui (z_ui (z_ui μ3 64 0 0) 66 0 0) 67 0 0) 68 0 0) 69 0 0) 70 0 0) 71 0 0) 64 1 0) 66 1 0) 67 1 0) 68 1 0) 69 1 0) 70 1 0) 71 1 0) 64 2 0)
      refine z_rcs0 hc hH 1 (pc' := 207) (lv' := [(5, .int 2), (7, .int kv), (6, .int jv), (3, .long x), (0, .ref 50), (1, .long sd)]) (st' := [.ref 50]) (by rfl) ?_
      refine zq_gfr hc hH (by rfl) (ci := 6) (f := 34) (q := 66) (by rfl) (by decide +kernel) (by rfl) (by decide +kernel) ?_
      refine z_rcs0 hc hH 2 (pc' := 213) (lv' := [(5, .int 2), (7, .int kv), (6, .int jv), (3, .long x), (0, .ref 50), (1, .long sd)]) (st' := [.int 0, .int 2, .ref 66]) (by rfl) ?_
      refine zq_iast hc hH (by rfl) 4 (oka_i (by decide +kernel)).2 (show vp_in (nI 2) 4 from vp_in_nI (by decide) (by decide)) ?_
      rw [show (2 : Int32).toNatClampNeg = 2 from rfl]
      show Z 0 214 [(5, .int 2), (7, .int kv), (6, .int jv), (3, .long x), (0, .ref 50), (1, .long sd)] [] (z_ui (z_ui (z_ui (z_ui (z_ui (z_ui (z_ui (z_ui (z_ui (z_ui (z_ui (z_ui (z_ui (z_ui (z_ui (z_ui μ3 64 0 0) 66 0 0) 67 0 0) 68 0 0) 69 0 0) 70 0 0) 71 0 0) 64 1 0) 66 1 0) 67 1 0) 68 1 0) 69 1 0) 70 1 0) 71 1 0) 64 2 0) 66 2 0)
      refine z_rcs0 hc hH 1 (pc' := 215) (lv' := [(5, .int 2), (7, .int kv), (6, .int jv), (3, .long x), (0, .ref 50), (1, .long sd)]) (st' := [.ref 50]) (by rfl) ?_
      refine zq_gfr hc hH (by rfl) (ci := 6) (f := 35) (q := 67) (by rfl) (by decide +kernel) (by rfl) (by decide +kernel) ?_
      refine z_rcs0 hc hH 2 (pc' := 221) (lv' := [(5, .int 2), (7, .int kv), (6, .int jv), (3, .long x), (0, .ref 50), (1, .long sd)]) (st' := [.int 0, .int 2, .ref 67]) (by rfl) ?_
      refine zq_iast hc hH (by rfl) 4 (oka_i (by decide +kernel)).2 (show vp_in (nI 2) 4 from vp_in_nI (by decide) (by decide)) ?_
      rw [show (2 : Int32).toNatClampNeg = 2 from rfl]
      show Z 0 222 [(5, .int 2), (7, .int kv), (6, .int jv), (3, .long x), (0, .ref 50), (1, .long sd)] [] (z_ui (z_ui (z_ui (z_ui (z_ui (z_ui (z_ui (z_ui (z_ui (z_ui (z_ui (z_ui (z_ui (z_ui (z_ui (z_ui (z_ui μ3 64 0 0) 66 0 0) 67 0 0) 68 0 0) 69 0 0) 70 0 0) 71 0 0) 64 1 0) 66 1 0) 67 1 0) 68 1 0) 69 1 0) 70 1 0) 71 1 0) 64 2 0) 66 2 0) 67 2 0)
      refine z_rcs0 hc hH 1 (pc' := 223) (lv' := [(5, .int 2), (7, .int kv), (6, .int jv), (3, .long x), (0, .ref 50), (1, .long sd)]) (st' := [.ref 50]) (by rfl) ?_
      refine zq_gfr hc hH (by rfl) (ci := 6) (f := 36) (q := 68) (by rfl) (by decide +kernel) (by rfl) (by decide +kernel) ?_
      refine z_rcs0 hc hH 2 (pc' := 229) (lv' := [(5, .int 2), (7, .int kv), (6, .int jv), (3, .long x), (0, .ref 50), (1, .long sd)]) (st' := [.int 0, .int 2, .ref 68]) (by rfl) ?_
      refine zq_iast hc hH (by rfl) 4 (oka_i (by decide +kernel)).2 (show vp_in (nI 2) 4 from vp_in_nI (by decide) (by decide)) ?_
      rw [show (2 : Int32).toNatClampNeg = 2 from rfl]
      show Z 0 230 [(5, .int 2), (7, .int kv), (6, .int jv), (3, .long x), (0, .ref 50), (1, .long sd)] [] (z_ui (z_ui (z_ui (z_ui (z_ui (z_ui (z_ui (z_ui (z_ui (z_ui (z_ui (z_ui (z_ui (z_ui (z_ui (z_ui (z_ui (z_ui μ3 64 0 0) 66 0 0) 67 0 0) 68 0 0) 69 0 0) 70 0 0) 71 0 0) 64 1 0) 66 1 0) 67 1 0) 68 1 0) 69 1 0) 70 1 0) 71 1 0) 64 2 0) 66 2 0) 67 2 0) 68 2 0)
      refine z_rcs0 hc hH 1 (pc' := 231) (lv' := [(5, .int 2), (7, .int kv), (6, .int jv), (3, .long x), (0, .ref 50), (1, .long sd)]) (st' := [.ref 50]) (by rfl) ?_
      refine zq_gfr hc hH (by rfl) (ci := 6) (f := 37) (q := 69) (by rfl) (by decide +kernel) (by rfl) (by decide +kernel) ?_
      refine z_rcs0 hc hH 2 (pc' := 237) (lv' := [(5, .int 2), (7, .int kv), (6, .int jv), (3, .long x), (0, .ref 50), (1, .long sd)]) (st' := [.int 0, .int 2, .ref 69]) (by rfl) ?_
      refine zq_bast hc hH (by rfl) 4 (by decide +kernel) (show vp_in (nI 2) 4 from vp_in_nI (by decide) (by decide)) (by decide) ?_
      rw [show (2 : Int32).toNatClampNeg = 2 from rfl]
      show Z 0 238 [(5, .int 2), (7, .int kv), (6, .int jv), (3, .long x), (0, .ref 50), (1, .long sd)] [] (z_ui (z_ui (z_ui (z_ui (z_ui (z_ui (z_ui (z_ui (z_ui (z_ui (z_ui (z_ui (z_ui (z_ui (z_ui (z_ui (z_ui (z_ui (z_ui μ3 64 0 0) 66 0 0) 67 0 0) 68 0 0) 69 0 0) 70 0 0) 71 0 0) 64 1 0) 66 1 0) 67 1 0) 68 1 0) 69 1 0) 70 1 0) 71 1 0) 64 2 0) 66 2 0) 67 2 0) 68 2 0) 69 2 0)
      refine z_rcs0 hc hH 1 (pc' := 239) (lv' := [(5, .int 2), (7, .int kv), (6, .int jv), (3, .long x), (0, .ref 50), (1, .long sd)]) (st' := [.ref 50]) (by rfl) ?_
      refine zq_gfr hc hH (by rfl) (ci := 6) (f := 38) (q := 70) (by rfl) (by decide +kernel) (by rfl) (by decide +kernel) ?_
      refine z_rcs0 hc hH 2 (pc' := 245) (lv' := [(5, .int 2), (7, .int kv), (6, .int jv), (3, .long x), (0, .ref 50), (1, .long sd)]) (st' := [.int 0, .int 2, .ref 70]) (by rfl) ?_
      refine zq_bast hc hH (by rfl) 4 (by decide +kernel) (show vp_in (nI 2) 4 from vp_in_nI (by decide) (by decide)) (by decide) ?_
      rw [show (2 : Int32).toNatClampNeg = 2 from rfl]
      show Z 0 246 [(5, .int 2), (7, .int kv), (6, .int jv), (3, .long x), (0, .ref 50), (1, .long sd)] [] (z_ui (z_ui (z_ui (z_ui (z_ui (z_ui (z_ui (z_ui (z_ui (z_ui (z_ui (z_ui (z_ui (z_ui (z_ui (z_ui (z_ui (z_ui (z_ui (z_ui μ3 64 0 0) 66 0 0) 67 0 0) 68 0 0) 69 0 0) 70 0 0) 71 0 0) 64 1 0) 66 1 0) 67 1 0) 68 1 0) 69 1 0) 70 1 0) 71 1 0) 64 2 0) 66 2 0) 67 2 0) 68 2 0) 69 2 0) 70 2 0)
      refine z_rcs0 hc hH 1 (pc' := 247) (lv' := [(5, .int 2), (7, .int kv), (6, .int jv), (3, .long x), (0, .ref 50), (1, .long sd)]) (st' := [.ref 50]) (by rfl) ?_
      refine zq_gfr hc hH (by rfl) (ci := 6) (f := 39) (q := 71) (by rfl) (by decide +kernel) (by rfl) (by decide +kernel) ?_
      refine z_rcs0 hc hH 2 (pc' := 253) (lv' := [(5, .int 2), (7, .int kv), (6, .int jv), (3, .long x), (0, .ref 50), (1, .long sd)]) (st' := [.int 0, .int 2, .ref 71]) (by rfl) ?_
      refine zq_bast hc hH (by rfl) 4 (by decide +kernel) (show vp_in (nI 2) 4 from vp_in_nI (by decide) (by decide)) (by decide) ?_
      rw [show (2 : Int32).toNatClampNeg = 2 from rfl]
      show Z 0 254 [(5, .int 2), (7, .int kv), (6, .int jv), (3, .long x), (0, .ref 50), (1, .long sd)] [] (z_ui (z_ui (z_ui (z_ui (z_ui (z_ui (z_ui (z_ui (z_ui (z_ui (z_ui (z_ui (z_ui (z_ui (z_ui (z_ui (z_ui (z_ui (z_ui (z_ui (z_ui μ3 64 0 0) 66 0 0) 67 0 0) 68 0 0) 69 0 0) 70 0 0) 71 0 0) 64 1 0) 66 1 0) 67 1 0) 68 1 0) 69 1 0) 70 1 0) 71 1 0) 64 2 0) 66 2 0) 67 2 0) 68 2 0) 69 2 0) 70 2 0) 71 2 0)
      refine z_rcs0 hc hH 6 (pc' := 199) (lv' := [(5, .int 3), (7, .int kv), (6, .int jv), (3, .long x), (0, .ref 50), (1, .long sd)]) (st' := [.ref 50]) (by rfl) ?_
      refine zq_gfr hc hH (by rfl) (ci := 6) (f := 32) (q := 64) (by rfl) (by decide +kernel) (by rfl) (by decide +kernel) ?_
      refine z_rcs0 hc hH 2 (pc' := 205) (lv' := [(5, .int 3), (7, .int kv), (6, .int jv), (3, .long x), (0, .ref 50), (1, .long sd)]) (st' := [.int 0, .int 3, .ref 64]) (by rfl) ?_
      refine zq_iast hc hH (by rfl) 4 (oka_i (by decide +kernel)).2 (show vp_in (nI 3) 4 from vp_in_nI (by decide) (by decide)) ?_
      rw [show (3 : Int32).toNatClampNeg = 3 from rfl]
      show Z 0 206 [(5, .int 3), (7, .int kv), (6, .int jv), (3, .long x), (0, .ref 50), (1, .long sd)] [] (z_ui (z_ui (z_ui (z_ui (z_ui (z_ui (z_ui (z_ui (z_ui (z_ui (z_ui (z_ui (z_ui (z_ui (z_ui (z_ui (z_ui (z_ui (z_ui (z_ui (z_ui (z_ui μ3 64 0 0) 66 0 0) 67 0 0) 68 0 0) 69 0 0) 70 0 0) 71 0 0) 64 1 0) 66 1 0) 67 1 0) 68 1 0) 69 1 0) 70 1 0) 71 1 0) 64 2 0) 66 2 0) 67 2 0) 68 2 0) 69 2 0) 70 2 0) 71 2 0) 64 3 0)
      refine z_rcs0 hc hH 1 (pc' := 207) (lv' := [(5, .int 3), (7, .int kv), (6, .int jv), (3, .long x), (0, .ref 50), (1, .long sd)]) (st' := [.ref 50]) (by rfl) ?_
      refine zq_gfr hc hH (by rfl) (ci := 6) (f := 34) (q := 66) (by rfl) (by decide +kernel) (by rfl) (by decide +kernel) ?_
      refine z_rcs0 hc hH 2 (pc' := 213) (lv' := [(5, .int 3), (7, .int kv), (6, .int jv), (3, .long x), (0, .ref 50), (1, .long sd)]) (st' := [.int 0, .int 3, .ref 66]) (by rfl) ?_
      refine zq_iast hc hH (by rfl) 4 (oka_i (by decide +kernel)).2 (show vp_in (nI 3) 4 from vp_in_nI (by decide) (by decide)) ?_
      rw [show (3 : Int32).toNatClampNeg = 3 from rfl]
      show Z 0 214 [(5, .int 3), (7, .int kv), (6, .int jv), (3, .long x), (0, .ref 50), (1, .long sd)] [] (z_ui (z_ui (z_ui (z_ui (z_ui (z_ui (z_ui (z_ui (z_ui (z_ui (z_ui (z_ui (z_ui (z_ui (z_ui (z_ui (z_ui (z_ui (z_ui (z_ui (z_ui (z_ui (z_ui μ3 64 0 0) 66 0 0) 67 0 0) 68 0 0) 69 0 0) 70 0 0) 71 0 0) 64 1 0) 66 1 0) 67 1 0) 68 1 0) 69 1 0) 70 1 0) 71 1 0) 64 2 0) 66 2 0) 67 2 0) 68 2 0) 69 2 0) 70 2 0) 71 2 0) 64 3 0) 66 3 0)
      refine z_rcs0 hc hH 1 (pc' := 215) (lv' := [(5, .int 3), (7, .int kv), (6, .int jv), (3, .long x), (0, .ref 50), (1, .long sd)]) (st' := [.ref 50]) (by rfl) ?_
      refine zq_gfr hc hH (by rfl) (ci := 6) (f := 35) (q := 67) (by rfl) (by decide +kernel) (by rfl) (by decide +kernel) ?_
      refine z_rcs0 hc hH 2 (pc' := 221) (lv' := [(5, .int 3), (7, .int kv), (6, .int jv), (3, .long x), (0, .ref 50), (1, .long sd)]) (st' := [.int 0, .int 3, .ref 67]) (by rfl) ?_
      refine zq_iast hc hH (by rfl) 4 (oka_i (by decide +kernel)).2 (show vp_in (nI 3) 4 from vp_in_nI (by decide) (by decide)) ?_
      rw [show (3 : Int32).toNatClampNeg = 3 from rfl]
      show Z 0 222 [(5, .int 3), (7, .int kv), (6, .int jv), (3, .long x), (0, .ref 50), (1, .long sd)] [] (z_ui (z_ui (z_ui (z_ui (z_ui (z_ui (z_ui (z_ui (z_ui (z_ui (z_ui (z_ui (z_ui (z_ui (z_ui (z_ui (z_ui (z_ui (z_ui (z_ui (z_ui (z_ui (z_ui (z_ui μ3 64 0 0) 66 0 0) 67 0 0) 68 0 0) 69 0 0) 70 0 0) 71 0 0) 64 1 0) 66 1 0) 67 1 0) 68 1 0) 69 1 0) 70 1 0) 71 1 0) 64 2 0) 66 2 0) 67 2 0) 68 2 0) 69 2 0) 70 2 0) 71 2 0) 64 3 0) 66 3 0) 67 3 0)
      refine z_rcs0 hc hH 1 (pc' := 223) (lv' := [(5, .int 3), (7, .int kv), (6, .int jv), (3, .long x), (0, .ref 50), (1, .long sd)]) (st' := [.ref 50]) (by rfl) ?_
      refine zq_gfr hc hH (by rfl) (ci := 6) (f := 36) (q := 68) (by rfl) (by decide +kernel) (by rfl) (by decide +kernel) ?_
      refine z_rcs0 hc hH 2 (pc' := 229) (lv' := [(5, .int 3), (7, .int kv), (6, .int jv), (3, .long x), (0, .ref 50), (1, .long sd)]) (st' := [.int 0, .int 3, .ref 68]) (by rfl) ?_
      refine zq_iast hc hH (by rfl) 4 (oka_i (by decide +kernel)).2 (show vp_in (nI 3) 4 from vp_in_nI (by decide) (by decide)) ?_
      rw [show (3 : Int32).toNatClampNeg = 3 from rfl]
      show Z 0 230 [(5, .int 3), (7, .int kv), (6, .int jv), (3, .long x), (0, .ref 50), (1, .long sd)] [] (z_ui (z_ui (z_ui (z_ui (z_ui (z_ui (z_ui (z_ui (z_ui (z_ui (z_ui (z_ui (z_ui (z_ui (z_ui (z_ui (z_ui (z_ui (z_ui (z_ui (z_ui (z_ui (z_ui (z_ui (z_ui μ3 64 0 0) 66 0 0) 67 0 0) 68 0 0) 69 0 0) 70 0 0) 71 0 0) 64 1 0) 66 1 0) 67 1 0) 68 1 0) 69 1 0) 70 1 0) 71 1 0) 64 2 0) 66 2 0) 67 2 0) 68 2 0) 69 2 0) 70 2 0) 71 2 0) 64 3 0) 66 3 0) 67 3 0) 68 3 0)
      refine z_rcs0 hc hH 1 (pc' := 231) (lv' := [(5, .int 3), (7, .int kv), (6, .int jv), (3, .long x), (0, .ref 50), (1, .long sd)]) (st' := [.ref 50]) (by rfl) ?_
      refine zq_gfr hc hH (by rfl) (ci := 6) (f := 37) (q := 69) (by rfl) (by decide +kernel) (by rfl) (by decide +kernel) ?_
      refine z_rcs0 hc hH 2 (pc' := 237) (lv' := [(5, .int 3), (7, .int kv), (6, .int jv), (3, .long x), (0, .ref 50), (1, .long sd)]) (st' := [.int 0, .int 3, .ref 69]) (by rfl) ?_
      refine zq_bast hc hH (by rfl) 4 (by decide +kernel) (show vp_in (nI 3) 4 from vp_in_nI (by decide) (by decide)) (by decide) ?_
      rw [show (3 : Int32).toNatClampNeg = 3 from rfl]
      show Z 0 238 [(5, .int 3), (7, .int kv), (6, .int jv), (3, .long x), (0, .ref 50), (1, .long sd)] [] (z_ui (z_ui (z_ui (z_ui (z_ui (z_ui (z_ui (z_ui (z_ui (z_ui (z_ui (z_ui (z_ui (z_ui (z_ui (z_ui (z_ui (z_ui (z_ui (z_ui (z_ui (z_ui (z_ui (z_ui (z_ui (z_ui μ3 64 0 0) 66 0 0) 67 0 0) 68 0 0) 69 0 0) 70 0 0) 71 0 0) 64 1 0) 66 1 0) 67 1 0) 68 1 0) 69 1 0) 70 1 0) 71 1 0) 64 2 0) 66 2 0) 67 2 0) 68 2 0) 69 2 0) 70 2 0) 71 2 0) 64 3 0) 66 3 0) 67 3 0) 68 3 0) 69 3 0)
      refine z_rcs0 hc hH 1 (pc' := 239) (lv' := [(5, .int 3), (7, .int kv), (6, .int jv), (3, .long x), (0, .ref 50), (1, .long sd)]) (st' := [.ref 50]) (by rfl) ?_
      refine zq_gfr hc hH (by rfl) (ci := 6) (f := 38) (q := 70) (by rfl) (by decide +kernel) (by rfl) (by decide +kernel) ?_
      refine z_rcs0 hc hH 2 (pc' := 245) (lv' := [(5, .int 3), (7, .int kv), (6, .int jv), (3, .long x), (0, .ref 50), (1, .long sd)]) (st' := [.int 0, .int 3, .ref 70]) (by rfl) ?_
      refine zq_bast hc hH (by rfl) 4 (by decide +kernel) (show vp_in (nI 3) 4 from vp_in_nI (by decide) (by decide)) (by decide) ?_
      rw [show (3 : Int32).toNatClampNeg = 3 from rfl]
      show Z 0 246 [(5, .int 3), (7, .int kv), (6, .int jv), (3, .long x), (0, .ref 50), (1, .long sd)] [] (z_ui (z_ui (z_ui (z_ui (z_ui (z_ui (z_ui (z_ui (z_ui (z_ui (z_ui (z_ui (z_ui (z_ui (z_ui (z_ui (z_ui (z_ui (z_ui (z_ui (z_ui (z_ui (z_ui (z_ui (z_ui (z_ui (z_ui μ3 64 0 0) 66 0 0) 67 0 0) 68 0 0) 69 0 0) 70 0 0) 71 0 0) 64 1 0) 66 1 0) 67 1 0) 68 1 0) 69 1 0) 70 1 0) 71 1 0) 64 2 0) 66 2 0) 67 2 0) 68 2 0) 69 2 0) 70 2 0) 71 2 0) 64 3 0) 66 3 0) 67 3 0) 68 3 0) 69 3 0) 70 3 0)
      refine z_rcs0 hc hH 1 (pc' := 247) (lv' := [(5, .int 3), (7, .int kv), (6, .int jv), (3, .long x), (0, .ref 50), (1, .long sd)]) (st' := [.ref 50]) (by rfl) ?_
      refine zq_gfr hc hH (by rfl) (ci := 6) (f := 39) (q := 71) (by rfl) (by decide +kernel) (by rfl) (by decide +kernel) ?_
      refine z_rcs0 hc hH 2 (pc' := 253) (lv' := [(5, .int 3), (7, .int kv), (6, .int jv), (3, .long x), (0, .ref 50), (1, .long sd)]) (st' := [.int 0, .int 3, .ref 71]) (by rfl) ?_
      refine zq_bast hc hH (by rfl) 4 (by decide +kernel) (show vp_in (nI 3) 4 from vp_in_nI (by decide) (by decide)) (by decide) ?_
      rw [show (3 : Int32).toNatClampNeg = 3 from rfl]
      show Z 0 254 [(5, .int 3), (7, .int kv), (6, .int jv), (3, .long x), (0, .ref 50), (1, .long sd)] [] (z_ui (z_ui (z_ui (z_ui (z_ui (z_ui (z_ui (z_ui (z_ui (z_ui (z_ui (z_ui (z_ui (z_ui (z_ui (z_ui (z_ui (z_ui (z_ui (z_ui (z_ui (z_ui (z_ui (z_ui (z_ui (z_ui (z_ui (z_ui μ3 64 0 0) 66 0 0) 67 0 0) 68 0 0) 69 0 0) 70 0 0) 71 0 0) 64 1 0) 66 1 0) 67 1 0) 68 1 0) 69 1 0) 70 1 0) 71 1 0) 64 2 0) 66 2 0) 67 2 0) 68 2 0) 69 2 0) 70 2 0) 71 2 0) 64 3 0) 66 3 0) 67 3 0) 68 3 0) 69 3 0) 70 3 0) 71 3 0)
      refine z_rcs0 hc hH 7 (pc' := 263) (lv' := [(5, .int 4), (7, .int kv), (6, .int jv), (3, .long x), (0, .ref 50), (1, .long sd)]) (st' := [.int 52, .ref 50]) (by rfl) ?_
      refine zq_pfi hc hH (by rfl) (ci := 6) (f := 46) (by rfl) (by decide +kernel) (by rfl) ?_
      show Z 0 266 [(5, .int 4), (7, .int kv), (6, .int jv), (3, .long x), (0, .ref 50), (1, .long sd)] [] (z_ui (z_ui (z_ui (z_ui (z_ui (z_ui (z_ui (z_ui (z_ui (z_ui (z_ui (z_ui (z_ui (z_ui (z_ui (z_ui (z_ui (z_ui (z_ui (z_ui (z_ui (z_ui (z_ui (z_ui (z_ui (z_ui (z_ui (z_ui (z_ui μ3 64 0 0) 66 0 0) 67 0 0) 68 0 0) 69 0 0) 70 0 0) 71 0 0) 64 1 0) 66 1 0) 67 1 0) 68 1 0) 69 1 0) 70 1 0) 71 1 0) 64 2 0) 66 2 0) 67 2 0) 68 2 0) 69 2 0) 70 2 0) 71 2 0) 64 3 0) 66 3 0) 67 3 0) 68 3 0) 69 3 0) 70 3 0) 71 3 0) 50 46 52)
      refine z_rcs0 hc hH 2 (pc' := 268) (lv' := [(5, .int 4), (7, .int kv), (6, .int jv), (3, .long x), (0, .ref 50), (1, .long sd)]) (st' := [.int 0, .ref 50]) (by rfl) ?_
      refine zq_pfi hc hH (by rfl) (ci := 6) (f := 47) (by rfl) (by decide +kernel) (by rfl) ?_
      show Z 0 271 [(5, .int 4), (7, .int kv), (6, .int jv), (3, .long x), (0, .ref 50), (1, .long sd)] [] (z_ui (z_ui (z_ui (z_ui (z_ui (z_ui (z_ui (z_ui (z_ui (z_ui (z_ui (z_ui (z_ui (z_ui (z_ui (z_ui (z_ui (z_ui (z_ui (z_ui (z_ui (z_ui (z_ui (z_ui (z_ui (z_ui (z_ui (z_ui (z_ui (z_ui μ3 64 0 0) 66 0 0) 67 0 0) 68 0 0) 69 0 0) 70 0 0) 71 0 0) 64 1 0) 66 1 0) 67 1 0) 68 1 0) 69 1 0) 70 1 0) 71 1 0) 64 2 0) 66 2 0) 67 2 0) 68 2 0) 69 2 0) 70 2 0) 71 2 0) 64 3 0) 66 3 0) 67 3 0) 68 3 0) 69 3 0) 70 3 0) 71 3 0) 50 46 52) 50 47 0)
      refine z_rcs0 hc hH 2 (pc' := 273) (lv' := [(5, .int 4), (7, .int kv), (6, .int jv), (3, .long x), (0, .ref 50), (1, .long sd)]) (st' := [.int 0, .ref 50]) (by rfl) ?_
      refine zq_pfi hc hH (by rfl) (ci := 6) (f := 48) (by rfl) (by decide +kernel) (by rfl) ?_
      show Z 0 276 [(5, .int 4), (7, .int kv), (6, .int jv), (3, .long x), (0, .ref 50), (1, .long sd)] [] (z_ui (z_ui (z_ui (z_ui (z_ui (z_ui (z_ui (z_ui (z_ui (z_ui (z_ui (z_ui (z_ui (z_ui (z_ui (z_ui (z_ui (z_ui (z_ui (z_ui (z_ui (z_ui (z_ui (z_ui (z_ui (z_ui (z_ui (z_ui (z_ui (z_ui (z_ui μ3 64 0 0) 66 0 0) 67 0 0) 68 0 0) 69 0 0) 70 0 0) 71 0 0) 64 1 0) 66 1 0) 67 1 0) 68 1 0) 69 1 0) 70 1 0) 71 1 0) 64 2 0) 66 2 0) 67 2 0) 68 2 0) 69 2 0) 70 2 0) 71 2 0) 64 3 0) 66 3 0) 67 3 0) 68 3 0) 69 3 0) 70 3 0) 71 3 0) 50 46 52) 50 47 0) 50 48 0)
      refine z_rcs0 hc hH 2 (pc' := 278) (lv' := [(5, .int 4), (7, .int kv), (6, .int jv), (3, .long x), (0, .ref 50), (1, .long sd)]) (st' := [.int 0, .ref 50]) (by rfl) ?_
      refine zq_pfi hc hH (by rfl) (ci := 6) (f := 53) (by rfl) (by decide +kernel) (by rfl) ?_
      show Z 0 281 [(5, .int 4), (7, .int kv), (6, .int jv), (3, .long x), (0, .ref 50), (1, .long sd)] [] (z_ui (z_ui (z_ui (z_ui (z_ui (z_ui (z_ui (z_ui (z_ui (z_ui (z_ui (z_ui (z_ui (z_ui (z_ui (z_ui (z_ui (z_ui (z_ui (z_ui (z_ui (z_ui (z_ui (z_ui (z_ui (z_ui (z_ui (z_ui (z_ui (z_ui (z_ui (z_ui μ3 64 0 0) 66 0 0) 67 0 0) 68 0 0) 69 0 0) 70 0 0) 71 0 0) 64 1 0) 66 1 0) 67 1 0) 68 1 0) 69 1 0) 70 1 0) 71 1 0) 64 2 0) 66 2 0) 67 2 0) 68 2 0) 69 2 0) 70 2 0) 71 2 0) 64 3 0) 66 3 0) 67 3 0) 68 3 0) 69 3 0) 70 3 0) 71 3 0) 50 46 52) 50 47 0) 50 48 0) 50 53 0)
      refine z_rcs0 hc hH 2 (pc' := 283) (lv' := [(5, .int 4), (7, .int kv), (6, .int jv), (3, .long x), (0, .ref 50), (1, .long sd)]) (st' := [.int 1, .ref 50]) (by rfl) ?_
      refine zq_pfb hc hH (by rfl) (ci := 6) (f := 56) (by rfl) (by decide +kernel) (by rfl) (by decide) ?_
      show Z 0 286 [(5, .int 4), (7, .int kv), (6, .int jv), (3, .long x), (0, .ref 50), (1, .long sd)] [] (z_ui (z_ui (z_ui (z_ui (z_ui (z_ui (z_ui (z_ui (z_ui (z_ui (z_ui (z_ui (z_ui (z_ui (z_ui (z_ui (z_ui (z_ui (z_ui (z_ui (z_ui (z_ui (z_ui (z_ui (z_ui (z_ui (z_ui (z_ui (z_ui (z_ui (z_ui (z_ui (z_ui μ3 64 0 0) 66 0 0) 67 0 0) 68 0 0) 69 0 0) 70 0 0) 71 0 0) 64 1 0) 66 1 0) 67 1 0) 68 1 0) 69 1 0) 70 1 0) 71 1 0) 64 2 0) 66 2 0) 67 2 0) 68 2 0) 69 2 0) 70 2 0) 71 2 0) 64 3 0) 66 3 0) 67 3 0) 68 3 0) 69 3 0) 70 3 0) 71 3 0) 50 46 52) 50 47 0) 50 48 0) 50 53 0) 50 56 1)
      refine z_rcs0 hc hH 2 (pc' := 288) (lv' := [(5, .int 4), (7, .int kv), (6, .int jv), (3, .long x), (0, .ref 50), (1, .long sd)]) (st' := [.int 0, .ref 50]) (by rfl) ?_
      refine zq_pfb hc hH (by rfl) (ci := 6) (f := 59) (by rfl) (by decide +kernel) (by rfl) (by decide) ?_
      show Z 0 291 [(5, .int 4), (7, .int kv), (6, .int jv), (3, .long x), (0, .ref 50), (1, .long sd)] [] (z_ui (z_ui (z_ui (z_ui (z_ui (z_ui (z_ui (z_ui (z_ui (z_ui (z_ui (z_ui (z_ui (z_ui (z_ui (z_ui (z_ui (z_ui (z_ui (z_ui (z_ui (z_ui (z_ui (z_ui (z_ui (z_ui (z_ui (z_ui (z_ui (z_ui (z_ui (z_ui (z_ui (z_ui μ3 64 0 0) 66 0 0) 67 0 0) 68 0 0) 69 0 0) 70 0 0) 71 0 0) 64 1 0) 66 1 0) 67 1 0) 68 1 0) 69 1 0) 70 1 0) 71 1 0) 64 2 0) 66 2 0) 67 2 0) 68 2 0) 69 2 0) 70 2 0) 71 2 0) 64 3 0) 66 3 0) 67 3 0) 68 3 0) 69 3 0) 70 3 0) 71 3 0) 50 46 52) 50 47 0) 50 48 0) 50 53 0) 50 56 1) 50 59 0)
      refine z_rcs0 hc hH 2 (pc' := 293) (lv' := [(5, .int 4), (7, .int kv), (6, .int jv), (3, .long x), (0, .ref 50), (1, .long sd)]) (st' := [.int 1, .ref 50]) (by rfl) ?_
      refine zq_pfb hc hH (by rfl) (ci := 6) (f := 55) (by rfl) (by decide +kernel) (by rfl) (by decide) ?_
      show Z 0 296 [(5, .int 4), (7, .int kv), (6, .int jv), (3, .long x), (0, .ref 50), (1, .long sd)] [] (z_ui (z_ui (z_ui (z_ui (z_ui (z_ui (z_ui (z_ui (z_ui (z_ui (z_ui (z_ui (z_ui (z_ui (z_ui (z_ui (z_ui (z_ui (z_ui (z_ui (z_ui (z_ui (z_ui (z_ui (z_ui (z_ui (z_ui (z_ui (z_ui (z_ui (z_ui (z_ui (z_ui (z_ui (z_ui μ3 64 0 0) 66 0 0) 67 0 0) 68 0 0) 69 0 0) 70 0 0) 71 0 0) 64 1 0) 66 1 0) 67 1 0) 68 1 0) 69 1 0) 70 1 0) 71 1 0) 64 2 0) 66 2 0) 67 2 0) 68 2 0) 69 2 0) 70 2 0) 71 2 0) 64 3 0) 66 3 0) 67 3 0) 68 3 0) 69 3 0) 70 3 0) 71 3 0) 50 46 52) 50 47 0) 50 48 0) 50 53 0) 50 56 1) 50 59 0) 50 55 1)
      refine z_rcs0 hc hH 2 (pc' := 298) (lv' := [(5, .int 4), (7, .int kv), (6, .int jv), (3, .long x), (0, .ref 50), (1, .long sd)]) (st' := [.ref 50, .ref 50]) (by rfl) ?_
      refine zq_gfi hc hH (by rfl) (ci := 6) (f := 40) (by rfl) (by decide +kernel) (by rfl) ?_
      refine zV1 (Z := Z) (Eq.trans (ui_k (by first | decide | omega)) (Eq.trans (ui_k (by first | decide | omega)) (Eq.trans (ui_k (by first | decide | omega)) (Eq.trans (ui_k (by first | decide | omega)) (Eq.trans (ui_k (by first | decide | omega)) (Eq.trans (ui_k (by first | decide | omega)) (Eq.trans (ui_k (by first | decide | omega)) (Eq.trans (ui_o (by first | decide | omega)) (Eq.trans (ui_o (by first | decide | omega)) (Eq.trans (ui_o (by first | decide | omega)) (Eq.trans (ui_o (by first | decide | omega)) (Eq.trans (ui_o (by first | decide | omega)) (Eq.trans (ui_o (by first | decide | omega)) (Eq.trans (ui_o (by first | decide | omega)) (Eq.trans (ui_o (by first | decide | omega)) (Eq.trans (ui_o (by first | decide | omega)) (Eq.trans (ui_o (by first | decide | omega)) (Eq.trans (ui_o (by first | decide | omega)) (Eq.trans (ui_o (by first | decide | omega)) (Eq.trans (ui_o (by first | decide | omega)) (Eq.trans (ui_o (by first | decide | omega)) (Eq.trans (ui_o (by first | decide | omega)) (Eq.trans (ui_o (by first | decide | omega)) (Eq.trans (ui_o (by first | decide | omega)) (Eq.trans (ui_o (by first | decide | omega)) (Eq.trans (ui_o (by first | decide | omega)) (Eq.trans (ui_o (by first | decide | omega)) (Eq.trans (ui_o (by first | decide | omega)) (Eq.trans (ui_o (by first | decide | omega)) (Eq.trans (ui_o (by first | decide | omega)) (Eq.trans (ui_o (by first | decide | omega)) (Eq.trans (ui_o (by first | decide | omega)) (Eq.trans (ui_o (by first | decide | omega)) (Eq.trans (ui_o (by first | decide | omega)) (ui_o (by first | decide | omega)))))))))))))))))))))))))))))))))))) ?_
      rw [((hM.2.2.1 50 40 (by decide) (by decide)).trans ((ui_k (by decide)).trans hdl))]
      refine z_rcs0 hc hH 1 (pc' := 302) (lv' := [(5, .int 4), (7, .int kv), (6, .int jv), (3, .long x), (0, .ref 50), (1, .long sd)]) (st' := [.int 0, .int (nI dl), .ref 50]) (by rfl) ?_
      refine zq_call hc (z_cx_ok hH (by rfl)) (gm_draws0 d' (by omega) (z_ui (z_ui (z_ui (z_ui (z_ui (z_ui (z_ui (z_ui (z_ui (z_ui (z_ui (z_ui (z_ui (z_ui (z_ui (z_ui (z_ui (z_ui (z_ui (z_ui (z_ui (z_ui (z_ui (z_ui (z_ui (z_ui (z_ui (z_ui (z_ui (z_ui (z_ui (z_ui (z_ui (z_ui (z_ui μ3 64 0 0) 66 0 0) 67 0 0) 68 0 0) 69 0 0) 70 0 0) 71 0 0) 64 1 0) 66 1 0) 67 1 0) 68 1 0) 69 1 0) 70 1 0) 71 1 0) 64 2 0) 66 2 0) 67 2 0) 68 2 0) 69 2 0) 70 2 0) 71 2 0) 64 3 0) 66 3 0) 67 3 0) 68 3 0) 69 3 0) 70 3 0) 71 3 0) 50 46 52) 50 47 0) 50 48 0) 50 53 0) 50 56 1) 50 59 0) 50 55 1) dl 52 (wlN sd 52) hdl4 (by decide) (by rw [ui_k (by first | decide | omega), ui_k (by first | decide | omega), ui_k (by first | decide | omega), ui_k (by first | decide | omega), ui_k (by first | decide | omega), ui_k (by first | decide | omega), ui_s]; exact rfl) (wlN_e sd (by decide)).2 (by rw [ui_o (by first | decide | omega), ui_o (by first | decide | omega), ui_o (by first | decide | omega), ui_o (by first | decide | omega), ui_o (by first | decide | omega), ui_o (by first | decide | omega), ui_o (by first | decide | omega), ui_o (by first | decide | omega), ui_o (by first | decide | omega), ui_o (by first | decide | omega), ui_o (by first | decide | omega), ui_o (by first | decide | omega), ui_o (by first | decide | omega), ui_o (by first | decide | omega), ui_o (by first | decide | omega), ui_o (by first | decide | omega), ui_o (by first | decide | omega), ui_o (by first | decide | omega), ui_o (by first | decide | omega), ui_o (by first | decide | omega), ui_o (by first | decide | omega), ui_o (by first | decide | omega), ui_o (by first | decide | omega), ui_o (by first | decide | omega), ui_o (by first | decide | omega), ui_o (by first | decide | omega), ui_o (by first | decide | omega), ui_o (by first | decide | omega), ui_o (by first | decide | omega), ui_o (by first | decide | omega), ui_o (by first | decide | omega), ui_o (by first | decide | omega), ui_o (by first | decide | omega), ui_o (by first | decide | omega), ui_o (by first | decide | omega)]; exact ((hM.1 52 (by decide)).trans (wlN_e sd (by decide)).1))) (by decide +kernel) (fun r9 μ9 hq => ?_)
      obtain ⟨rfl, rfl⟩ := hq
      show Z 0 305 [(5, .int 4), (7, .int kv), (6, .int jv), (3, .long x), (0, .ref 50), (1, .long sd)] [] (dM0 (z_ui (z_ui (z_ui (z_ui (z_ui (z_ui (z_ui (z_ui (z_ui (z_ui (z_ui (z_ui (z_ui (z_ui (z_ui (z_ui (z_ui (z_ui (z_ui (z_ui (z_ui (z_ui (z_ui (z_ui (z_ui (z_ui (z_ui (z_ui (z_ui (z_ui (z_ui (z_ui (z_ui (z_ui (z_ui μ3 64 0 0) 66 0 0) 67 0 0) 68 0 0) 69 0 0) 70 0 0) 71 0 0) 64 1 0) 66 1 0) 67 1 0) 68 1 0) 69 1 0) 70 1 0) 71 1 0) 64 2 0) 66 2 0) 67 2 0) 68 2 0) 69 2 0) 70 2 0) 71 2 0) 64 3 0) 66 3 0) 67 3 0) 68 3 0) 69 3 0) 70 3 0) 71 3 0) 50 46 52) 50 47 0) 50 48 0) 50 53 0) 50 56 1) 50 59 0) 50 55 1) dl 52 (wlN sd 52))
      refine z_rcs0 hc hH 1 (pc' := 306) (lv' := [(5, .int 4), (7, .int kv), (6, .int jv), (3, .long x), (0, .ref 50), (1, .long sd)]) (st' := [.int 1]) (by rfl) ?_
      exact hr 0 306 _ _ _ (some (.int 1)) (by decide +kernel) (z_rx_ok hH (by rfl)) (⟨rfl, μ3, hM, rfl⟩)
    · have h2 : (decide ((μ.1 50 54) = 0)) = false := decide_eq_false (cn_eq.mp h2)
      exact absurd (Eq.trans (Eq.symm (he)) h2) (by decide)
/-! the game: deal of the class -/
set_option maxRecDepth 8000
noncomputable def SDx (f : Nat → Int32) (μ : zM) (s p : Nat) : Prop := (∀ k, k < 34 → μ.1 (20 + 8 * s) k = nI (cW f (13 * p) k 13) ∧ μ.1 (21 + 8 * s) k = nI (cW f (13 * p) k 13)) ∧ μ.1 (19 + 8 * s) 4 = 0 ∧ μ.1 (19 + 8 * s) 5 = nI 13 ∧ μ.1 (18 + 8 * s) 2 = 0 ∧ μ.1 (18 + 8 * s) 5 = 0 ∧ μ.1 (18 + 8 * s) 6 = 0 ∧ μ.1 (18 + 8 * s) 7 = 0 ∧ μ.1 (18 + 8 * s) 8 = 0 ∧ μ.1 (18 + 8 * s) 9 = 0 ∧ μ.2.1 (18 + 8 * s) 3 = 0
/-- SETS, discards, points, records as before -/
noncomputable def DFr (μ0 μ1 : zM) : Prop := (∀ r k, (r < 18 ∨ 49 < r ∨ r % 8 = 6 ∨ r % 8 = 7 ∨ r % 8 = 0 ∨ r % 8 = 1 ∨ (r % 8 = 2 ∧ k = 4)) → μ1.1 r k = μ0.1 r k) ∧ ∀ r k, (r < 18 ∨ 49 < r ∨ k ≠ 3) → μ1.2.1 r k = μ0.2.1 r k
noncomputable def CDR (μb : zM) (f : Nat → Int32) (dl I : Nat) (μ1 : zM) : Prop := (∀ p, p < I → SDx f μ1 ((dl + p) % 4) p) ∧ DFr μb μ1
noncomputable def PTR (f : Nat → Int32) (u I j : Nat) (μs μ1 : zM) : Prop := (∀ k, k < 34 → μ1.1 (20 + 8 * u) k = nI (cW f (13 * I) k j) ∧ μ1.1 (21 + 8 * u) k = nI (cW f (13 * I) k j)) ∧ μ1.1 (19 + 8 * u) 5 = nI j ∧ (∀ r k, r ≠ 20 + 8 * u → r ≠ 21 + 8 * u → ¬ (r = 19 + 8 * u ∧ k = 5) → μ1.1 r k = μs.1 r k) ∧ μ1.2 = μs.2
theorem pS_20 {μ : zM} {j k k' : Nat} {n : Int32} : (pS μ j k n).1 (20 + 8 * j) k' = if k' = k then μ.1 (20 + 8 * j) k + n else μ.1 (20 + 8 * j) k' := by
  unfold pS
  rw [ui_o (by first | decide | omega), ui_o (by first | decide | omega)]
  by_cases e : k' = k
  · rw [if_pos e, e, ui_s]
  · rw [if_neg e, ui_k e]
theorem pS_21 {μ : zM} {j k k' : Nat} {n : Int32} : (pS μ j k n).1 (21 + 8 * j) k' = if k' = k then μ.1 (21 + 8 * j) k + n else μ.1 (21 + 8 * j) k' := by
  unfold pS
  rw [ui_o (by first | decide | omega)]
  by_cases e : k' = k
  · rw [if_pos e, e, ui_s]
  · rw [if_neg e, ui_k e, ui_o (by first | decide | omega)]
theorem pS_5 {μ : zM} {j k : Nat} {n : Int32} : (pS μ j k n).1 (19 + 8 * j) 5 = μ.1 (19 + 8 * j) 5 + n := by unfold pS; rw [ui_s]
theorem cW_s {f : Nat → Int32} {a k n v : Nat} (hv : v < 34) (hk : k < 34) (hf : f (a + n) = nI v) : cW f a k (n + 1) = cW f a k n + (if k = v then 1 else 0) := by
  show cW f a k n + (if f (a + n) = nI k then 1 else 0) = _
  rw [hf]
  by_cases e : k = v
  · rw [if_pos e, if_pos (by rw [e])]
  · rw [if_neg e, if_neg (fun q => e ((nI_eq (a := v) (b := k) (by omega) (by omega)).mp q).symm)]
theorem PTR.nx {f : Nat → Int32} {u I j v : Nat} {μs μ1 : zM} (h : PTR f u I j μs μ1) (hv : v < 34) (hf : f (13 * I + j) = nI v) : PTR f u I (j + 1) μs (pS μ1 u v 1) := by
  refine ⟨fun k hk => ?_, by rw [pS_5, h.2.1, nI_s1], fun r k h1 h2 h3 => by rw [pS_g (by omega)]; exact h.2.2.1 r k h1 h2 h3, h.2.2.2⟩
  rw [pS_20, pS_21, cW_s hv hk hf]
  by_cases e : k = v
  · rw [if_pos e, if_pos e, if_pos e, ← e, (h.1 k hk).1, (h.1 k hk).2, nI_s1]; exact ⟨rfl, rfl⟩
  · rw [if_neg e, if_neg e, if_neg e, Nat.add_zero]; exact h.1 k hk
theorem sHm_o {μ : zM} {j r k : Nat} (h : r ≠ 18 + 8 * j) : (sHm μ j).1 r k = μ.1 r k := by unfold sHm; rw [ui_o h, ui_o h, ui_o h, ui_o h, ui_o h, uj_i, ui_o h]
theorem sHm_4 {μ : zM} {j r : Nat} : (sHm μ j).1 r 4 = μ.1 r 4 := by unfold sHm; rw [ui_k (by decide), ui_k (by decide), ui_k (by decide), ui_k (by decide), ui_k (by decide), uj_i, ui_k (by decide)]
theorem sHm_j {μ : zM} {j r k : Nat} (h : r ≠ 18 + 8 * j ∨ k ≠ 3) : (sHm μ j).2.1 r k = μ.2.1 r k := by
  unfold sHm
  rw [ui_j, ui_j, ui_j, ui_j, ui_j]
  rcases h with h | h
  · rw [uj_o h, ui_j]
  · rw [uj_k h, ui_j]
theorem sHm_s {μ : zM} {j : Nat} : (sHm μ j).1 (18 + 8 * j) 2 = 0 ∧ (sHm μ j).1 (18 + 8 * j) 5 = 0 ∧ (sHm μ j).1 (18 + 8 * j) 6 = 0 ∧ (sHm μ j).1 (18 + 8 * j) 7 = 0 ∧ (sHm μ j).1 (18 + 8 * j) 8 = 0 ∧ (sHm μ j).1 (18 + 8 * j) 9 = 0 ∧ (sHm μ j).2.1 (18 + 8 * j) 3 = 0 := by
  unfold sHm
  refine ⟨?_, ?_, ?_, ?_, ?_, ?_, ?_⟩
  · rw [ui_k (by decide), ui_k (by decide), ui_k (by decide), ui_k (by decide), ui_k (by decide), uj_i, ui_s]
  · rw [ui_k (by decide), ui_k (by decide), ui_k (by decide), ui_k (by decide), ui_s]
  · rw [ui_k (by decide), ui_k (by decide), ui_k (by decide), ui_s]
  · rw [ui_k (by decide), ui_k (by decide), ui_s]
  · rw [ui_k (by decide), ui_s]
  · rw [ui_s]
  · rw [ui_j, ui_j, ui_j, ui_j, ui_j, uj_s]
theorem eMt.pt {f : Nat → Int32} {u I : Nat} {μ1 μe : zM} (h : eMt μ1 u μe) : PTR f u I 0 (sHm μe u) (sHm μe u) := ⟨fun k hk => by rw [sHm_o (by omega), sHm_o (by omega)]; exact h.1 k hk, by rw [sHm_o (by omega)]; exact h.2.2.1, fun _ _ _ _ _ => rfl, rfl⟩
theorem CDR.nx {μb : zM} {f : Nat → Int32} {dl I u : Nat} {μ1 μe μ2 : zM} (h : CDR μb f dl I μ1) (he : eMt μ1 u μe) (hp : PTR f u I 13 (sHm μe u) μ2) (hu : (dl + I) % 4 = u) (hI : I < 4) : CDR μb f dl (I + 1) μ2 := by
  have hu4 : u < 4 := by omega
  have rd : ∀ r k, r ≠ 20 + 8 * u → r ≠ 21 + 8 * u → ¬ (r = 19 + 8 * u ∧ (k = 4 ∨ k = 5)) → (r ≠ 18 + 8 * u ∨ k = 4) → μ2.1 r k = μ1.1 r k := fun r k h1 h2 h3 h4 => by
    rw [hp.2.2.1 r k h1 h2 (fun q => h3 ⟨q.1, Or.inr q.2⟩)]
    rcases h4 with h4 | h4
    · rw [sHm_o h4]; exact he.2.2.2.1 r k h1 h2 h3
    · rw [h4, sHm_4]; rw [h4] at h3; exact he.2.2.2.1 r 4 h1 h2 h3
  have rj : ∀ r k, (r ≠ 18 + 8 * u ∨ k ≠ 3) → μ2.2.1 r k = μ1.2.1 r k := fun r k h1 => by rw [hp.2.2.2, sHm_j h1, he.2.2.2.2]
  refine ⟨fun p hp2 => ?_, fun r k hr => ?_, fun r k hr => ?_⟩
  · by_cases e : p = I
    · subst e
      rw [hu]
      have z := sHm_s (μ := μe) (j := u)
      refine ⟨hp.1, ?_, hp.2.1, ?_, ?_, ?_, ?_, ?_, ?_, ?_⟩
      · rw [hp.2.2.1 _ _ (by omega) (by omega) (by omega), sHm_o (by omega)]; exact he.2.1
      · rw [hp.2.2.1 _ _ (by omega) (by omega) (by omega)]; exact z.1
      · rw [hp.2.2.1 _ _ (by omega) (by omega) (by omega)]; exact z.2.1
      · rw [hp.2.2.1 _ _ (by omega) (by omega) (by omega)]; exact z.2.2.1
      · rw [hp.2.2.1 _ _ (by omega) (by omega) (by omega)]; exact z.2.2.2.1
      · rw [hp.2.2.1 _ _ (by omega) (by omega) (by omega)]; exact z.2.2.2.2.1
      · rw [hp.2.2.1 _ _ (by omega) (by omega) (by omega)]; exact z.2.2.2.2.2.1
      · rw [hp.2.2.2]; exact z.2.2.2.2.2.2
    · have g := h.1 p (by omega)
      have hne : (dl + p) % 4 ≠ u := by omega
      generalize (dl + p) % 4 = v at g hne ⊢
      refine ⟨fun k hk => ?_, ?_, ?_, ?_, ?_, ?_, ?_, ?_, ?_, ?_⟩
      · rw [rd _ _ (by omega) (by omega) (by omega) (by omega), rd _ _ (by omega) (by omega) (by omega) (by omega)]; exact g.1 k hk
      · rw [rd _ _ (by omega) (by omega) (by omega) (by omega)]; exact g.2.1
      · rw [rd _ _ (by omega) (by omega) (by omega) (by omega)]; exact g.2.2.1
      · rw [rd _ _ (by omega) (by omega) (by omega) (by omega)]; exact g.2.2.2.1
      · rw [rd _ _ (by omega) (by omega) (by omega) (by omega)]; exact g.2.2.2.2.1
      · rw [rd _ _ (by omega) (by omega) (by omega) (by omega)]; exact g.2.2.2.2.2.1
      · rw [rd _ _ (by omega) (by omega) (by omega) (by omega)]; exact g.2.2.2.2.2.2.1
      · rw [rd _ _ (by omega) (by omega) (by omega) (by omega)]; exact g.2.2.2.2.2.2.2.1
      · rw [rd _ _ (by omega) (by omega) (by omega) (by omega)]; exact g.2.2.2.2.2.2.2.2.1
      · rw [rj _ _ (by omega)]; exact g.2.2.2.2.2.2.2.2.2
  · rw [rd r k (by omega) (by omega) (by omega) (by omega)]; exact h.2.1 r k hr
  · rw [rj r k (by omega)]; exact h.2.2 r k hr
theorem nI_13 {I j : Nat} : (13 * (nI I)) + (nI j) = nI (13 * I + j) := by rw [show (13 : Int32) = nI 13 from rfl, nI_ml, nI_add]
noncomputable def DLX (dl : Nat) (sd : Int64) (μ μ3 : zM) : Prop := ∃ μb, CDR μb (wlF sd) dl 4 μ3 ∧ (∀ k, k < 136 → μb.1 3 k = wlF sd k) ∧ μb.1 2 1 = 1 ∧ μb.1 2 2 = 52 ∧ μb.1 2 3 = 0 ∧ (∀ r k, r ≠ 3 → (r ≠ 2 ∨ (k ≠ 1 ∧ k ≠ 2 ∧ k ≠ 3)) → μb.1 r k = μ.1 r k) ∧ μb.2 = μ.2
theorem zhx_X6_deal : zH mi_X6_deal zt_X6_deal 79 6 6 := hh_X6_deal
theorem dx51 (d' : Nat) (Z : zK) (hc : z_clo z_x0 mi_X6_deal (z_C d') Z) (hd : 3 ≤ d') (sd s0 : Int64) (u I : Nat) (hu4 : u < 4) (hI : I < 4) (μs : zM) (hS1 : μs.1 2 1 = 1) (hW : ∀ k, k < 136 → μs.1 3 k = wlF s0 k) (K : ∀ μ2, PTR (wlF s0) u I 13 μs μ2 → Z 0 87 [(5, .int (nI 13)), (4, .ref (18 + 8 * u)), (3, .int (nI I)), (0, .ref 0), (1, .long sd)] [] μ2) : ∀ n j, j + n = 13 → ∀ μ1, PTR (wlF s0) u I j μs μ1 → Z 0 51 [(5, .int (nI j)), (4, .ref (18 + 8 * u)), (3, .int (nI I)), (0, .ref 0), (1, .long sd)] [] μ1 := by
  have hH := zhx_X6_deal
  intro n
  induction n with
  | zero =>
    intro j hj μ1 g1
    have hj : j = 13 := by omega
    subst hj
    refine z_rcs hc hH 2 (pc' := 55) (lv' := [(5, .int (nI 13)), (4, .ref (18 + 8 * u)), (3, .int (nI I)), (0, .ref 0), (1, .long sd)]) (st' := [.int 13, .int (nI 13)]) (μ' := μ1) (by rfl) ?_
    refine zq_ic hc hH (by rfl) (tg := 87) (by rfl) (fun h1 => ?_) (fun h1 => ?_)
    · have h1 : (decide (13 ≤ (nI 13))) = true := decide_eq_true (cm_ge.mp h1)
      exact K μ1 g1
    · have h1 : (decide (13 ≤ (nI 13))) = false := decide_eq_false (cn_ge.mp h1)
      exact absurd (Eq.trans (Eq.symm (kn_le2 (m := 13) rfl (by omega) (by omega))) h1) (by decide)
  | succ n ih =>
    intro j hj μ1 g1
    refine z_rcs hc hH 2 (pc' := 55) (lv' := [(5, .int (nI j)), (4, .ref (18 + 8 * u)), (3, .int (nI I)), (0, .ref 0), (1, .long sd)]) (st' := [.int 13, .int (nI j)]) (μ' := μ1) (by rfl) ?_
    refine zq_ic hc hH (by rfl) (tg := 87) (by rfl) (fun h1 => ?_) (fun h1 => ?_)
    · have h1 : (decide (13 ≤ (nI j))) = true := decide_eq_true (cm_ge.mp h1)
      exact absurd (Eq.trans (Eq.symm (kn_le (m := 13) rfl (by omega) (by omega))) h1) (by decide)
    · have h1 : (decide (13 ≤ (nI j))) = false := decide_eq_false (cn_ge.mp h1)
      refine z_rcs hc hH 1 (pc' := 60) (lv' := [(5, .int (nI j)), (4, .ref (18 + 8 * u)), (3, .int (nI I)), (0, .ref 0), (1, .long sd)]) (st' := [.ref (18 + 8 * u)]) (μ' := μ1) (by rfl) ?_
      refine zq_gfr hc hH (by rfl) (ci := 1) (f := 0) (q := 19 + 8 * u) (by rfl) (sj (P := fun i => okf 79 1 0 (18 + 8 * i)) hu4 (by decide +kernel)) (by rfl) (sj (P := fun i => Nat.beq (z_gr (18 + 8 * i) 0) (19 + 8 * i)) hu4 (by decide +kernel)) ?_
      refine z_rcs hc hH 1 (pc' := 64) (lv' := [(5, .int (nI j)), (4, .ref (18 + 8 * u)), (3, .int (nI I)), (0, .ref 0), (1, .long sd)]) (st' := [.ref 0, .ref (19 + 8 * u)]) (μ' := μ1) (by rfl) ?_
      refine zq_gfr hc hH (by rfl) (ci := 5) (f := 1) (q := 2) (by rfl) (by decide +kernel) (by rfl) (by decide +kernel) ?_
      refine z_rcs hc hH 5 (pc' := 74) (lv' := [(5, .int (nI j)), (4, .ref (18 + 8 * u)), (3, .int (nI I)), (0, .ref 0), (1, .long sd)]) (st' := [.int ((13 * (nI I)) + (nI j)), .ref 2, .ref (19 + 8 * u)]) (μ' := μ1) (by rfl) ?_
      rw [nI_13]
      have ek : μ1.1 3 (13 * I + j) = nI (wlN s0 (13 * I + j)) := by rw [g1.2.2.1 3 _ (by omega) (by omega) (by omega), hW _ (by omega)]; exact (wlN_e s0 (by omega)).1
      refine zq_call hc (z_cx_ok hH (by rfl)) (gc_kindAtN d' (by omega) μ1 (13 * I + j) (by omega) (by rw [g1.2.2.1 2 1 (by omega) (by omega) (by omega)]; exact hS1)) (by decide +kernel) (fun r9 μ9 hq => ?_)
      obtain ⟨hμ9, rfl⟩ := hq
      rw [hμ9]
      clear hμ9 μ9
      rw [ek]
      show Z 0 77 [(5, .int (nI j)), (4, .ref (18 + 8 * u)), (3, .int (nI I)), (0, .ref 0), (1, .long sd)] [.int (nI (wlN s0 (13 * I + j))), .ref (19 + 8 * u)] μ1
      refine z_rcs hc hH 1 (pc' := 78) (lv' := [(5, .int (nI j)), (4, .ref (18 + 8 * u)), (3, .int (nI I)), (0, .ref 0), (1, .long sd)]) (st' := [.int 1, .int (nI (wlN s0 (13 * I + j))), .ref (19 + 8 * u)]) (μ' := μ1) (by rfl) ?_
      refine zq_call hc (z_clv9 hH (by rfl) (by rfl) (by rfl) (by rfl) (sj (P := fun i => okr 79 2 (19 + 8 * i)) hu4 (by decide +kernel)) (by rfl) (by rfl)) (gc_put d' (by omega) μ1 u hu4 (wlN s0 (13 * I + j)) (wlN_e s0 (by omega)).2 1) (by decide +kernel) (fun r9 μ9 hq => ?_)
      obtain ⟨rfl, rfl⟩ := hq
      show Z 0 81 [(5, .int (nI j)), (4, .ref (18 + 8 * u)), (3, .int (nI I)), (0, .ref 0), (1, .long sd)] [] (pS μ1 u (wlN s0 (13 * I + j)) 1)
      refine z_rcs0 hc hH 2 (pc' := 51) (lv' := [(5, .int ((nI j) + 1)), (4, .ref (18 + 8 * u)), (3, .int (nI I)), (0, .ref 0), (1, .long sd)]) (st' := []) (by rfl) ?_
      rw [nI_s1]
      exact ih (j + 1) (by omega) _ (g1.nx (wlN_e s0 (by omega)).2 (wlN_e s0 (by omega)).1)
theorem dx26 (d' : Nat) (Z : zK) (hc : z_clo z_x0 mi_X6_deal (z_C d') Z) (hd : 4 ≤ d') (sd : Int64) (dl : Nat) (hdl4 : dl < 4) (μb : zM) (hdl : μb.1 0 9 = nI dl) (hS1 : μb.1 2 1 = 1) (hW : ∀ k, k < 136 → μb.1 3 k = wlF sd k) (K : ∀ v μ2, v < 4 → CDR μb (wlF sd) dl 4 μ2 → Z 0 93 [(3, .int (nI 4)), (5, .int (nI 13)), (4, .ref (18 + 8 * v)), (0, .ref 0), (1, .long sd)] [] μ2) : ∀ n I, I + n = 4 → ∀ v μ1, v < 4 → CDR μb (wlF sd) dl I μ1 → Z 0 26 [(3, .int (nI I)), (5, .int (nI 13)), (4, .ref (18 + 8 * v)), (0, .ref 0), (1, .long sd)] [] μ1 := by
  have hH := zhx_X6_deal
  intro n
  induction n with
  | zero =>
    intro I hI v μ1 hv g1
    have hI : I = 4 := by omega
    subst hI
    refine z_rcs hc hH 2 (pc' := 28) (lv' := [(3, .int (nI 4)), (5, .int (nI 13)), (4, .ref (18 + 8 * v)), (0, .ref 0), (1, .long sd)]) (st' := [.int 4, .int (nI 4)]) (μ' := μ1) (by rfl) ?_
    refine zq_ic hc hH (by rfl) (tg := 93) (by rfl) (fun h1 => ?_) (fun h1 => ?_)
    · have h1 : (decide (4 ≤ (nI 4))) = true := decide_eq_true (cm_ge.mp h1)
      exact K v μ1 hv g1
    · have h1 : (decide (4 ≤ (nI 4))) = false := decide_eq_false (cn_ge.mp h1)
      exact absurd (Eq.trans (Eq.symm (kn_le2 (m := 4) rfl (by omega) (by omega))) h1) (by decide)
  | succ n ih =>
    intro I hI v μ1 hv g1
    have hu : (dl + I) % 4 < 4 := Nat.mod_lt _ (by decide)
    obtain ⟨u, hu1⟩ : ∃ u, (dl + I) % 4 = u := ⟨_, rfl⟩
    have hu4 : u < 4 := by omega
    refine z_rcs hc hH 2 (pc' := 28) (lv' := [(3, .int (nI I)), (5, .int (nI 13)), (4, .ref (18 + 8 * v)), (0, .ref 0), (1, .long sd)]) (st' := [.int 4, .int (nI I)]) (μ' := μ1) (by rfl) ?_
    refine zq_ic hc hH (by rfl) (tg := 93) (by rfl) (fun h1 => ?_) (fun h1 => ?_)
    · have h1 : (decide (4 ≤ (nI I))) = true := decide_eq_true (cm_ge.mp h1)
      exact absurd (Eq.trans (Eq.symm (kn_le (m := 4) rfl (by omega) (by omega))) h1) (by decide)
    · have h1 : (decide (4 ≤ (nI I))) = false := decide_eq_false (cn_ge.mp h1)
      refine z_rcs hc hH 2 (pc' := 33) (lv' := [(3, .int (nI I)), (5, .int (nI 13)), (4, .ref (18 + 8 * v)), (0, .ref 0), (1, .long sd)]) (st' := [.ref 0, .ref 0]) (μ' := μ1) (by rfl) ?_
      refine zq_gfi hc hH (by rfl) (ci := 5) (f := 9) (by rfl) (by decide +kernel) (by rfl) ?_
      rw [((g1.2.1 0 9 (by omega)).trans hdl)]
      refine z_rcs hc hH 2 (pc' := 38) (lv' := [(3, .int (nI I)), (5, .int (nI 13)), (4, .ref (18 + 8 * v)), (0, .ref 0), (1, .long sd)]) (st' := [.int ((nI dl) + (nI I)), .ref 0]) (μ' := μ1) (by rfl) ?_
      rw [nI_add dl I]
      refine zq_call hc (z_cx_ok hH (by rfl)) (gc_atm d' (by omega) μ1 (dl + I) u (by omega) hu1) (by decide +kernel) (fun r9 μ9 hq => ?_)
      obtain ⟨hμ9, rfl⟩ := hq
      rw [hμ9]
      clear hμ9 μ9
      show Z 0 41 [(3, .int (nI I)), (5, .int (nI 13)), (4, .ref (18 + 8 * v)), (0, .ref 0), (1, .long sd)] [.ref (18 + 8 * u)] μ1
      refine z_rcs hc hH 2 (pc' := 45) (lv' := [(4, .ref (18 + 8 * u)), (3, .int (nI I)), (5, .int (nI 13)), (0, .ref 0), (1, .long sd)]) (st' := [.ref (18 + 8 * u)]) (μ' := μ1) (by rfl) ?_
      refine zq_call hc (z_clv9 hH (by rfl) (by rfl) (by rfl) (by rfl) (sj (P := fun i => okr 79 1 (18 + 8 * i)) hu4 (by decide +kernel)) (by rfl) (by rfl)) (gc_startHand d' (by omega) μ1 u hu4) (by decide +kernel) (fun r9 μ9 hq => ?_)
      obtain ⟨rfl, μe, he, rfl⟩ := hq
      show Z 0 48 [(4, .ref (18 + 8 * u)), (3, .int (nI I)), (5, .int (nI 13)), (0, .ref 0), (1, .long sd)] [] (sHm μe u)
      refine z_rcs hc hH 2 (pc' := 51) (lv' := [(5, .int 0), (4, .ref (18 + 8 * u)), (3, .int (nI I)), (0, .ref 0), (1, .long sd)]) (st' := []) (μ' := sHm μe u) (by rfl) ?_
      refine dx51 d' Z hc (by omega) sd sd u I hu4 (by omega) (sHm μe u) (by rw [sHm_o (by omega), he.2.2.2.1 2 1 (by omega) (by omega) (by omega), g1.2.1 2 1 (by omega)]; exact hS1) (fun k hk => by rw [sHm_o (by omega), he.2.2.2.1 3 k (by omega) (by omega) (by omega), g1.2.1 3 k (by omega)]; exact hW k hk) (fun μ2 g2 => ?_) 13 0 (by omega) _ he.pt
      refine z_rcs hc hH 2 (pc' := 26) (lv' := [(3, .int ((nI I) + 1)), (5, .int (nI 13)), (4, .ref (18 + 8 * u)), (0, .ref 0), (1, .long sd)]) (st' := []) (μ' := μ2) (by rfl) ?_
      rw [nI_s1]
      exact ih (I + 1) (by omega) u _ hu4 (g1.nx he g2 hu1 (by omega))
theorem dx26f (d' : Nat) (Z : zK) (hc : z_clo z_x0 mi_X6_deal (z_C d') Z) (hd : 4 ≤ d') (sd : Int64) (dl : Nat) (hdl4 : dl < 4) (μb : zM) (hdl : μb.1 0 9 = nI dl) (hS1 : μb.1 2 1 = 1) (hW : ∀ k, k < 136 → μb.1 3 k = wlF sd k) (K : ∀ v μ2, v < 4 → CDR μb (wlF sd) dl 4 μ2 → Z 0 93 [(3, .int (nI 4)), (5, .int (nI 13)), (4, .ref (18 + 8 * v)), (0, .ref 0), (1, .long sd)] [] μ2) (μ1 : zM) (g1 : CDR μb (wlF sd) dl 0 μ1) : ∀ I, I = 0 → Z 0 26 [(3, .int (nI I)), (0, .ref 0), (1, .long sd)] [] μ1 := by
  have hH := zhx_X6_deal
  intro I hI0
  have g1 : CDR μb (wlF sd) dl I μ1 := by rw [hI0]; exact g1
  have hu : (dl + I) % 4 < 4 := Nat.mod_lt _ (by decide)
  obtain ⟨u, hu1⟩ : ∃ u, (dl + I) % 4 = u := ⟨_, rfl⟩
  have hu4 : u < 4 := by omega
  refine z_rcs hc hH 2 (pc' := 28) (lv' := [(3, .int (nI I)), (0, .ref 0), (1, .long sd)]) (st' := [.int 4, .int (nI I)]) (μ' := μ1) (by rfl) ?_
  refine zq_ic hc hH (by rfl) (tg := 93) (by rfl) (fun h1 => ?_) (fun h1 => ?_)
  · have h1 : (decide (4 ≤ (nI I))) = true := decide_eq_true (cm_ge.mp h1)
    exact absurd (Eq.trans (Eq.symm (kn_le (m := 4) rfl (by omega) (by omega))) h1) (by decide)
  · have h1 : (decide (4 ≤ (nI I))) = false := decide_eq_false (cn_ge.mp h1)
    refine z_rcs hc hH 2 (pc' := 33) (lv' := [(3, .int (nI I)), (0, .ref 0), (1, .long sd)]) (st' := [.ref 0, .ref 0]) (μ' := μ1) (by rfl) ?_
    refine zq_gfi hc hH (by rfl) (ci := 5) (f := 9) (by rfl) (by decide +kernel) (by rfl) ?_
    rw [((g1.2.1 0 9 (by omega)).trans hdl)]
    refine z_rcs hc hH 2 (pc' := 38) (lv' := [(3, .int (nI I)), (0, .ref 0), (1, .long sd)]) (st' := [.int ((nI dl) + (nI I)), .ref 0]) (μ' := μ1) (by rfl) ?_
    rw [nI_add dl I]
    refine zq_call hc (z_cx_ok hH (by rfl)) (gc_atm d' (by omega) μ1 (dl + I) u (by omega) hu1) (by decide +kernel) (fun r9 μ9 hq => ?_)
    obtain ⟨hμ9, rfl⟩ := hq
    rw [hμ9]
    clear hμ9 μ9
    show Z 0 41 [(3, .int (nI I)), (0, .ref 0), (1, .long sd)] [.ref (18 + 8 * u)] μ1
    refine z_rcs hc hH 2 (pc' := 45) (lv' := [(4, .ref (18 + 8 * u)), (3, .int (nI I)), (0, .ref 0), (1, .long sd)]) (st' := [.ref (18 + 8 * u)]) (μ' := μ1) (by rfl) ?_
    refine zq_call hc (z_clv9 hH (by rfl) (by rfl) (by rfl) (by rfl) (sj (P := fun i => okr 79 1 (18 + 8 * i)) hu4 (by decide +kernel)) (by rfl) (by rfl)) (gc_startHand d' (by omega) μ1 u hu4) (by decide +kernel) (fun r9 μ9 hq => ?_)
    obtain ⟨rfl, μe, he, rfl⟩ := hq
    show Z 0 48 [(4, .ref (18 + 8 * u)), (3, .int (nI I)), (0, .ref 0), (1, .long sd)] [] (sHm μe u)
    refine z_rcs hc hH 2 (pc' := 51) (lv' := [(5, .int 0), (4, .ref (18 + 8 * u)), (3, .int (nI I)), (0, .ref 0), (1, .long sd)]) (st' := []) (μ' := sHm μe u) (by rfl) ?_
    refine dx51 d' Z hc (by omega) sd sd u I hu4 (by omega) (sHm μe u) (by rw [sHm_o (by omega), he.2.2.2.1 2 1 (by omega) (by omega) (by omega), g1.2.1 2 1 (by omega)]; exact hS1) (fun k hk => by rw [sHm_o (by omega), he.2.2.2.1 3 k (by omega) (by omega) (by omega), g1.2.1 3 k (by omega)]; exact hW k hk) (fun μ2 g2 => ?_) 13 0 (by omega) _ he.pt
    refine z_rcs hc hH 2 (pc' := 26) (lv' := [(3, .int ((nI I) + 1)), (5, .int (nI 13)), (4, .ref (18 + 8 * u)), (0, .ref 0), (1, .long sd)]) (st' := []) (μ' := μ2) (by rfl) ?_
    rw [nI_s1]
    exact dx26 d' Z hc hd sd dl hdl4 μb hdl hS1 hW K 3 (I + 1) (by omega) u _ hu4 (g1.nx he g2 hu1 (by omega))
theorem gc_deal (d : Nat) (hd : 6 ≤ d) (μ : zM) (sd : Int64) (dl : Nat) (hdl : μ.1 0 9 = nI dl) (hdl4 : dl < 4) (hp : decide (μ.1 0 7 = 0) = true) (he : decide (μ.1 0 13 = 0) = true) : z_C d mi_X6_deal [.ref 0, .long sd] μ (fun r μ' => r = some (.int 1) ∧ ∃ μ3, DLX dl sd μ μ3 ∧ μ' = dT0 (z_ui (z_ui μ3 0 6 0) 0 17 0) dl 52 (wlN sd 52)) := by
  refine z_C_in (by decide) (by omega) (fun d' Z ed hc hr => ?_)
  have hH := zhx_X6_deal
  refine z_rcs hc hH 1 (pc' := 1) (lv' := [(0, .ref 0), (1, .long sd)]) (st' := [.ref 0]) (μ' := μ) (by rfl) ?_
  refine zq_gfi hc hH (by rfl) (ci := 5) (f := 7) (by rfl) (by decide +kernel) (by rfl) ?_
  refine zq_if hc hH (by rfl) (tg := 14) (by rfl) (fun h1 => ?_) (fun h1 => ?_)
  · have h1 : (decide ((μ.1 0 7) = 0)) = false := decide_eq_false (cm_ne.mp h1)
    exact absurd (Eq.trans (Eq.symm (hp)) h1) (by decide)
  · have h1 : (decide ((μ.1 0 7) = 0)) = true := decide_eq_true (cn_ne.mp h1)
    refine z_rcs hc hH 1 (pc' := 8) (lv' := [(0, .ref 0), (1, .long sd)]) (st' := [.ref 0]) (μ' := μ) (by rfl) ?_
    refine zq_gfi hc hH (by rfl) (ci := 5) (f := 13) (by rfl) (by decide +kernel) (by rfl) ?_
    refine zq_if hc hH (by rfl) (tg := 16) (by rfl) (fun h2 => ?_) (fun h2 => ?_)
    · have h2 : (decide ((μ.1 0 13) = 0)) = true := decide_eq_true (cm_eq9.mp h2)
      refine z_rcs hc hH 1 (pc' := 17) (lv' := [(0, .ref 0), (1, .long sd)]) (st' := [.ref 0]) (μ' := μ) (by rfl) ?_
      refine zq_gfr hc hH (by rfl) (ci := 5) (f := 1) (q := 2) (by rfl) (by decide +kernel) (by rfl) (by decide +kernel) ?_
      refine z_rcs hc hH 1 (pc' := 21) (lv' := [(0, .ref 0), (1, .long sd)]) (st' := [.long sd, .ref 2]) (μ' := μ) (by rfl) ?_
      refine zq_call hc (z_cx_ok hH (by rfl)) (gc_build d' (by omega) μ sd) (by decide +kernel) (fun r9 μ9 hq => ?_)
      obtain ⟨rfl, μ1, hw1, rfl⟩ := hq
      show Z 0 24 [(0, .ref 0), (1, .long sd)] [] (z_ui (z_ui (z_ui μ1 2 1 1) 2 2 52) 2 3 0)
      refine z_rcs0 hc hH 2 (pc' := 26) (lv' := [(3, .int 0), (0, .ref 0), (1, .long sd)]) (st' := []) (by rfl) ?_
      obtain ⟨μb, hμb⟩ : ∃ μb, z_ui (z_ui (z_ui μ1 2 1 1) 2 2 52) 2 3 0 = μb := ⟨_, rfl⟩
      have b3 : ∀ k, k < 136 → μb.1 3 k = wlF sd k := fun k hk => by rw [← hμb, ui_o (by decide), ui_o (by decide), ui_o (by decide)]; exact hw1.1 k hk
      have b21 : μb.1 2 1 = 1 := by rw [← hμb, ui_k (by decide), ui_k (by decide), ui_s]
      have b22 : μb.1 2 2 = 52 := by rw [← hμb, ui_k (by decide), ui_s]
      have b23 : μb.1 2 3 = 0 := by rw [← hμb, ui_s]
      have bf : ∀ r k, r ≠ 3 → (r ≠ 2 ∨ (k ≠ 1 ∧ k ≠ 2 ∧ k ≠ 3)) → μb.1 r k = μ.1 r k := fun r k h1 h2 => by
        rw [← hμb]
        rcases h2 with h2 | h2
        · rw [ui_o h2, ui_o h2, ui_o h2]; exact hw1.2.1 r k h1
        · rw [ui_k h2.2.2, ui_k h2.2.1, ui_k h2.1]; exact hw1.2.1 r k h1
      have bj : μb.2 = μ.2 := by rw [← hμb]; exact hw1.2.2
      rw [hμb]
      have b9 : μb.1 0 9 = nI dl := by rw [bf 0 9 (by decide) (by decide)]; exact hdl
      refine dx26f d' Z hc (by omega) sd dl hdl4 μb b9 b21 b3 (fun v μ3 hv g3 => ?_) μb ⟨fun p hp => absurd hp (by omega), fun _ _ _ => rfl, fun _ _ _ => rfl⟩ 0 rfl
      have hX : DLX dl sd μ μ3 := ⟨μb, g3, b3, b21, b22, b23, bf, bj⟩
      refine z_rcs hc hH 2 (pc' := 95) (lv' := [(3, .int (nI 4)), (5, .int (nI 13)), (4, .ref (18 + 8 * v)), (0, .ref 0), (1, .long sd)]) (st' := [.int 0, .ref 0]) (μ' := μ3) (by rfl) ?_
      refine zq_pfi hc hH (by rfl) (ci := 5) (f := 6) (by rfl) (by decide +kernel) (by rfl) ?_
      show Z 0 98 [(3, .int (nI 4)), (5, .int (nI 13)), (4, .ref (18 + 8 * v)), (0, .ref 0), (1, .long sd)] [] (z_ui μ3 0 6 0)
      refine z_rcs hc hH 2 (pc' := 100) (lv' := [(3, .int (nI 4)), (5, .int (nI 13)), (4, .ref (18 + 8 * v)), (0, .ref 0), (1, .long sd)]) (st' := [.int 0, .ref 0]) (μ' := z_ui μ3 0 6 0) (by rfl) ?_
      refine zq_pfb hc hH (by rfl) (ci := 5) (f := 17) (by rfl) (by decide +kernel) (by rfl) (by decide) ?_
      show Z 0 103 [(3, .int (nI 4)), (5, .int (nI 13)), (4, .ref (18 + 8 * v)), (0, .ref 0), (1, .long sd)] [] (z_ui (z_ui μ3 0 6 0) 0 17 0)
      refine z_rcs0 hc hH 2 (pc' := 105) (lv' := [(3, .int (nI 4)), (5, .int (nI 13)), (4, .ref (18 + 8 * v)), (0, .ref 0), (1, .long sd)]) (st' := [.ref 0, .ref 0]) (by rfl) ?_
      refine zq_gfi hc hH (by rfl) (ci := 5) (f := 9) (by rfl) (by decide +kernel) (by rfl) ?_
      refine zV1 (Z := Z) (Eq.trans (ui_k (by first | decide | omega)) (ui_k (by first | decide | omega))) ?_
      rw [((g3.2.1 0 9 (by omega)).trans b9)]
      refine z_rcs0 hc hH 1 (pc' := 109) (lv' := [(3, .int (nI 4)), (5, .int (nI 13)), (4, .ref (18 + 8 * v)), (0, .ref 0), (1, .long sd)]) (st' := [.int 0, .int (nI dl), .ref 0]) (by rfl) ?_
      refine zq_call hc (z_cx_ok hH (by rfl)) (gc_drawTile0 d' (by omega) (z_ui (z_ui μ3 0 6 0) 0 17 0) dl dl 52 (wlN sd 52) (by omega) hdl4 (Nat.mod_eq_of_lt hdl4) (by decide) (by rw [ui_o (by first | decide | omega), ui_o (by first | decide | omega)]; exact ((g3.2.1 2 2 (by omega)).trans b22)) (by rw [ui_o (by first | decide | omega), ui_o (by first | decide | omega)]; exact ((g3.2.1 2 1 (by omega)).trans b21)) (wlN_e sd (by decide)).2 (by rw [ui_o (by first | decide | omega), ui_o (by first | decide | omega)]; exact ((g3.2.1 3 52 (by omega)).trans ((b3 52 (by decide)).trans (wlN_e sd (by decide)).1)))) (by decide +kernel) (fun r9 μ9 hq => ?_)
      obtain ⟨rfl, rfl⟩ := hq
      show Z 0 112 [(3, .int (nI 4)), (5, .int (nI 13)), (4, .ref (18 + 8 * v)), (0, .ref 0), (1, .long sd)] [] (dT0 (z_ui (z_ui μ3 0 6 0) 0 17 0) dl 52 (wlN sd 52))
      refine z_rcs0 hc hH 1 (pc' := 113) (lv' := [(3, .int (nI 4)), (5, .int (nI 13)), (4, .ref (18 + 8 * v)), (0, .ref 0), (1, .long sd)]) (st' := [.int 1]) (by rfl) ?_
      exact hr 0 113 _ _ _ (some (.int 1)) (by decide +kernel) (z_rx_ok hH (by rfl)) (⟨rfl, μ3, hX, rfl⟩)
    · have h2 : (decide ((μ.1 0 13) = 0)) = false := decide_eq_false (cn_eq.mp h2)
      exact absurd (Eq.trans (Eq.symm (he)) h2) (by decide)
/-! the two games side by side -/
set_option maxRecDepth 8000
/-- what may not be discarded with a claim -/
noncomputable def barM (m : zM) : Int64 := bif decide (m.1 50 57 = 0) then 0 else ((1 : Int64) <<< ((m.1 50 50).toInt64 &&& 63)) ||| (bif decide (m.1 50 51 = -1) then (0 : Int64) else 1 <<< ((m.1 50 51).toInt64 &&& 63))
noncomputable def tkM (m : zM) (s b : Nat) : Bool := kA (fun i => decide (m.1 65 (136 * s + i) = nI b)) (m.1 66 s).toNatClampNeg
noncomputable def fW (m : zM) (i : Nat) : Int32 := m.1 59 i
/-- cells that are alike, at all times -/
noncomputable def RCl (x m : zM) : Prop := (x.1 0 9 = m.1 50 40) ∧ (x.1 0 10 = m.1 50 41) ∧ (x.1 0 11 = m.1 50 42) ∧ (x.1 0 12 = m.1 50 43) ∧ (x.1 0 13 = m.1 50 54) ∧ (x.1 0 14 = m.1 50 52) ∧ (x.1 0 6 = m.1 50 53) ∧ (x.1 2 1 = m.1 50 55) ∧ (x.1 2 2 = m.1 50 46) ∧ (∀ i, i < 136 → x.1 3 i = m.1 59 i) ∧ (∀ s, s < 4 → x.1 (18 + 8 * s) 4 = m.1 61 s) ∧ (∀ s, s < 4 → x.1 (18 + 8 * s) 5 = m.1 67 s) ∧ (∀ s, s < 4 → x.1 (18 + 8 * s) 7 = m.1 69 s) ∧ (∀ s, s < 4 → x.1 (18 + 8 * s) 8 = m.1 70 s) ∧ (∀ s, s < 4 → x.1 (18 + 8 * s) 9 = m.1 71 s) ∧ (∀ s, s < 4 → x.1 (18 + 8 * s) 2 = m.1 66 s) ∧ (∀ s, s < 4 → x.1 (19 + 8 * s) 4 = m.1 64 s) ∧ (∀ s k, s < 4 → k < 34 → x.1 (20 + 8 * s) k = m.1 60 (34 * s + k)) ∧ (∀ s i, s < 4 → i < 4 → x.1 (22 + 8 * s) i = m.1 62 (4 * s + i)) ∧ (∀ s i, s < 4 → i < 4 → x.1 (23 + 8 * s) i = m.1 63 (4 * s + i)) ∧ (∀ s i, s < 4 → i < 86 → x.1 (24 + 8 * s) i = m.1 65 (136 * s + i)) ∧ (∀ i f, i < 4 → f < 7 → f ≠ 4 → x.1 (25 + 8 * i) f = m.1 72 (7 * i + f)) ∧ (∀ i, i < 4 → x.2.1 (25 + 8 * i) 7 = m.2.1 73 i) ∧ (∀ s k, s < 4 → k < 34 → x.1 (21 + 8 * s) k = ofv (m.1 60 (34 * s + k)) (fun i => m.1 62 (4 * s + i)) (fun i => m.1 63 (4 * s + i)) (nI k) (m.1 64 s).toNatClampNeg) ∧ (∀ s, s < 4 → x.1 (19 + 8 * s) 5 = sm (fun k => m.1 60 (34 * s + k)) 34) ∧ (∀ s i, s < 4 → i < (m.1 64 s).toNatClampNeg → SVd (m.1 62 (4 * s + i)) (m.1 63 (4 * s + i))) ∧ (∀ s, s < 4 → x.2.1 (18 + 8 * s) 3 = kb (tkM m s) 34) ∧ (∀ s, s < 4 → (m.1 66 s).toNatClampNeg ≤ 86) ∧ (∀ s i, s < 4 → i < (m.1 66 s).toNatClampNeg → ∃ k, k < 34 ∧ m.1 65 (136 * s + i) = nI k) ∧ (m.1 50 41 = 0 ∨ m.1 50 41 = 1) ∧ (∀ s, s < 4 → m.1 67 s = 0 ∨ m.1 67 s = 1 ∨ m.1 67 s = 2) ∧ (m.1 50 55 = 1 → ∃ sd, ∀ i, i < 136 → m.1 59 i = wlF sd i)
theorem RCl.dl {x m : zM} (h : RCl x m) : x.1 0 9 = m.1 50 40 := h.1
theorem RCl.rn {x m : zM} (h : RCl x m) : x.1 0 10 = m.1 50 41 := h.2.1
theorem RCl.st {x m : zM} (h : RCl x m) : x.1 0 11 = m.1 50 42 := h.2.2.1
theorem RCl.bt {x m : zM} (h : RCl x m) : x.1 0 12 = m.1 50 43 := h.2.2.2.1
theorem RCl.en {x m : zM} (h : RCl x m) : x.1 0 13 = m.1 50 54 := h.2.2.2.2.1
theorem RCl.he {x m : zM} (h : RCl x m) : x.1 0 14 = m.1 50 52 := h.2.2.2.2.2.1
theorem RCl.wc {x m : zM} (h : RCl x m) : x.1 0 6 = m.1 50 53 := h.2.2.2.2.2.2.1
theorem RCl.sd {x m : zM} (h : RCl x m) : x.1 2 1 = m.1 50 55 := h.2.2.2.2.2.2.2.1
theorem RCl.nx {x m : zM} (h : RCl x m) : x.1 2 2 = m.1 50 46 := h.2.2.2.2.2.2.2.2.1
theorem RCl.wl {x m : zM} (h : RCl x m) : ∀ i, i < 136 → x.1 3 i = m.1 59 i := h.2.2.2.2.2.2.2.2.2.1
theorem RCl.pt {x m : zM} (h : RCl x m) : ∀ s, s < 4 → x.1 (18 + 8 * s) 4 = m.1 61 s := h.2.2.2.2.2.2.2.2.2.2.1
theorem RCl.be {x m : zM} (h : RCl x m) : ∀ s, s < 4 → x.1 (18 + 8 * s) 5 = m.1 67 s := h.2.2.2.2.2.2.2.2.2.2.2.1
theorem RCl.ao {x m : zM} (h : RCl x m) : ∀ s, s < 4 → x.1 (18 + 8 * s) 7 = m.1 69 s := h.2.2.2.2.2.2.2.2.2.2.2.2.1
theorem RCl.lg {x m : zM} (h : RCl x m) : ∀ s, s < 4 → x.1 (18 + 8 * s) 8 = m.1 70 s := h.2.2.2.2.2.2.2.2.2.2.2.2.2.1
theorem RCl.sy {x m : zM} (h : RCl x m) : ∀ s, s < 4 → x.1 (18 + 8 * s) 9 = m.1 71 s := h.2.2.2.2.2.2.2.2.2.2.2.2.2.2.1
theorem RCl.ds {x m : zM} (h : RCl x m) : ∀ s, s < 4 → x.1 (18 + 8 * s) 2 = m.1 66 s := h.2.2.2.2.2.2.2.2.2.2.2.2.2.2.2.1
theorem RCl.lm {x m : zM} (h : RCl x m) : ∀ s, s < 4 → x.1 (19 + 8 * s) 4 = m.1 64 s := h.2.2.2.2.2.2.2.2.2.2.2.2.2.2.2.2.1
theorem RCl.hd {x m : zM} (h : RCl x m) : ∀ s k, s < 4 → k < 34 → x.1 (20 + 8 * s) k = m.1 60 (34 * s + k) := h.2.2.2.2.2.2.2.2.2.2.2.2.2.2.2.2.2.1
theorem RCl.so {x m : zM} (h : RCl x m) : ∀ s i, s < 4 → i < 4 → x.1 (22 + 8 * s) i = m.1 62 (4 * s + i) := h.2.2.2.2.2.2.2.2.2.2.2.2.2.2.2.2.2.2.1
theorem RCl.lo {x m : zM} (h : RCl x m) : ∀ s i, s < 4 → i < 4 → x.1 (23 + 8 * s) i = m.1 63 (4 * s + i) := h.2.2.2.2.2.2.2.2.2.2.2.2.2.2.2.2.2.2.2.1
theorem RCl.rv {x m : zM} (h : RCl x m) : ∀ s i, s < 4 → i < 86 → x.1 (24 + 8 * s) i = m.1 65 (136 * s + i) := h.2.2.2.2.2.2.2.2.2.2.2.2.2.2.2.2.2.2.2.2.1
theorem RCl.wi {x m : zM} (h : RCl x m) : ∀ i f, i < 4 → f < 7 → f ≠ 4 → x.1 (25 + 8 * i) f = m.1 72 (7 * i + f) := h.2.2.2.2.2.2.2.2.2.2.2.2.2.2.2.2.2.2.2.2.2.1
theorem RCl.wf {x m : zM} (h : RCl x m) : ∀ i, i < 4 → x.2.1 (25 + 8 * i) 7 = m.2.1 73 i := h.2.2.2.2.2.2.2.2.2.2.2.2.2.2.2.2.2.2.2.2.2.2.1
theorem RCl.al {x m : zM} (h : RCl x m) : ∀ s k, s < 4 → k < 34 → x.1 (21 + 8 * s) k = ofv (m.1 60 (34 * s + k)) (fun i => m.1 62 (4 * s + i)) (fun i => m.1 63 (4 * s + i)) (nI k) (m.1 64 s).toNatClampNeg := h.2.2.2.2.2.2.2.2.2.2.2.2.2.2.2.2.2.2.2.2.2.2.2.1
theorem RCl.lz {x m : zM} (h : RCl x m) : ∀ s, s < 4 → x.1 (19 + 8 * s) 5 = sm (fun k => m.1 60 (34 * s + k)) 34 := h.2.2.2.2.2.2.2.2.2.2.2.2.2.2.2.2.2.2.2.2.2.2.2.2.1
theorem RCl.sv {x m : zM} (h : RCl x m) : ∀ s i, s < 4 → i < (m.1 64 s).toNatClampNeg → SVd (m.1 62 (4 * s + i)) (m.1 63 (4 * s + i)) := h.2.2.2.2.2.2.2.2.2.2.2.2.2.2.2.2.2.2.2.2.2.2.2.2.2.1
theorem RCl.tk {x m : zM} (h : RCl x m) : ∀ s, s < 4 → x.2.1 (18 + 8 * s) 3 = kb (tkM m s) 34 := h.2.2.2.2.2.2.2.2.2.2.2.2.2.2.2.2.2.2.2.2.2.2.2.2.2.2.1
theorem RCl.rb {x m : zM} (h : RCl x m) : ∀ s, s < 4 → (m.1 66 s).toNatClampNeg ≤ 86 := h.2.2.2.2.2.2.2.2.2.2.2.2.2.2.2.2.2.2.2.2.2.2.2.2.2.2.2.1
theorem RCl.rk {x m : zM} (h : RCl x m) : ∀ s i, s < 4 → i < (m.1 66 s).toNatClampNeg → ∃ k, k < 34 ∧ m.1 65 (136 * s + i) = nI k := h.2.2.2.2.2.2.2.2.2.2.2.2.2.2.2.2.2.2.2.2.2.2.2.2.2.2.2.2.1
theorem RCl.rd {x m : zM} (h : RCl x m) : m.1 50 41 = 0 ∨ m.1 50 41 = 1 := h.2.2.2.2.2.2.2.2.2.2.2.2.2.2.2.2.2.2.2.2.2.2.2.2.2.2.2.2.2.1
theorem RCl.bb {x m : zM} (h : RCl x m) : ∀ s, s < 4 → m.1 67 s = 0 ∨ m.1 67 s = 1 ∨ m.1 67 s = 2 := h.2.2.2.2.2.2.2.2.2.2.2.2.2.2.2.2.2.2.2.2.2.2.2.2.2.2.2.2.2.2.1
theorem RCl.wp {x m : zM} (h : RCl x m) : m.1 50 55 = 1 → ∃ sd, ∀ i, i < 136 → m.1 59 i = wlF sd i := h.2.2.2.2.2.2.2.2.2.2.2.2.2.2.2.2.2.2.2.2.2.2.2.2.2.2.2.2.2.2.2
theorem v1_ne {v : Int32} (h : ¬ v = -1) : ¬ v + 1 = 0 := fun e => h (by rw [← Int32.add_zero v, show (0 : Int32) = 1 + -1 from by decide, ← Int32.add_assoc, e]; decide)
/-- what may not be discarded is a kind, or none -/
noncomputable def BN (m : zM) : Prop := ∃ b, b < 34 ∧ m.1 50 50 = nI b ∧ (m.1 50 51 = -1 ∨ ∃ e, e < 34 ∧ m.1 50 51 = nI e)
/-- within a hand: the phase p, who has the turn t, the tile c (34: none, just claimed) -/
noncomputable def RPh (x m : zM) (p t c : Nat) : Prop := (x.1 2 3 = m.1 50 47) ∧ (x.1 0 7 = nI p) ∧ (m.1 50 44 = nI p) ∧ (x.1 0 8 = nI t) ∧ (m.1 50 45 = nI t) ∧ (t < 4) ∧ (p = 1 ∨ p = 2 ∨ p = 3) ∧ (x.1 0 15 = (if c = 34 then (-1 : Int32) else nI c)) ∧ (m.1 50 49 = (if c = 34 then (-1 : Int32) else nI c)) ∧ (c < 34 ∨ (c = 34 ∧ p = 1)) ∧ (p = 1 → m.1 50 57 = (if c = 34 then 1 else 0)) ∧ (x.1 0 17 = nB (decide (m.1 50 56 = 0))) ∧ (¬ m.1 50 56 = 0 → ∀ s, s < 4 → m.1 64 s = 0) ∧ (p = 1 → c < 34 → x.1 0 16 = m.1 50 58) ∧ (p = 1 → x.2.1 0 18 = barM m) ∧ (p = 1 → c = 34 → BN m ∧ m.1 50 56 = 0) ∧ (p = 1 → c < 34 → ¬ m.1 60 (34 * t + c) = 0) ∧ (p = 3 → ¬ x.1 (21 + 8 * t) c = 0) ∧ (∀ s, s < 4 → x.1 (18 + 8 * s) 6 = (if s = t then m.1 50 59 else 0)) ∧ (p ≠ 2 → m.1 50 59 = 0) ∧ (m.1 50 55 = 1) ∧ (m.1 71 t = 0) ∧ (p = 1 → ∀ s, s < 4 → m.1 71 s = 0) ∧ (m.1 50 53 = 0) ∧ (∀ s, s < 4 → ∃ n, m.1 68 s = nI n ∧ (n : Int) + 52 ≤ (m.1 50 46).toInt + (m.1 50 48).toInt ∧ (m.1 50 40 = nI s → 1 ≤ n)) ∧ (¬ m.1 50 56 = 0 → ∀ s, s < 4 → m.1 68 s = (if p = 1 ∧ s = t then m.1 66 s + 1 else m.1 66 s)) ∧ (m.1 50 56 = 0 → p = 1 → m.1 50 40 = nI t → c < 34 → ¬ m.1 68 t = 1) ∧ (∃ a : Nat → Nat → Nat, (∀ s k, s < 4 → k < 34 → x.1 (21 + 8 * s) k = nI (a s k)) ∧ ∀ k, k < 34 → a 0 k + a 1 k + a 2 k + a 3 k + (if p = 2 ∧ c = k then 1 else 0) ≤ cW (fW m) 0 k (m.1 50 46).toNatClampNeg + cW (fW m) 122 k (m.1 50 48).toNatClampNeg)
theorem RPh.fo {x m : zM} {p t c : Nat} (h : RPh x m p t c) : x.1 2 3 = m.1 50 47 := h.1
theorem RPh.px {x m : zM} {p t c : Nat} (h : RPh x m p t c) : x.1 0 7 = nI p := h.2.1
theorem RPh.pm {x m : zM} {p t c : Nat} (h : RPh x m p t c) : m.1 50 44 = nI p := h.2.2.1
theorem RPh.tx {x m : zM} {p t c : Nat} (h : RPh x m p t c) : x.1 0 8 = nI t := h.2.2.2.1
theorem RPh.tm {x m : zM} {p t c : Nat} (h : RPh x m p t c) : m.1 50 45 = nI t := h.2.2.2.2.1
theorem RPh.t4 {x m : zM} {p t c : Nat} (h : RPh x m p t c) : t < 4 := h.2.2.2.2.2.1
theorem RPh.p3 {x m : zM} {p t c : Nat} (h : RPh x m p t c) : p = 1 ∨ p = 2 ∨ p = 3 := h.2.2.2.2.2.2.1
theorem RPh.cx {x m : zM} {p t c : Nat} (h : RPh x m p t c) : x.1 0 15 = (if c = 34 then (-1 : Int32) else nI c) := h.2.2.2.2.2.2.2.1
theorem RPh.cm {x m : zM} {p t c : Nat} (h : RPh x m p t c) : m.1 50 49 = (if c = 34 then (-1 : Int32) else nI c) := h.2.2.2.2.2.2.2.2.1
theorem RPh.c3 {x m : zM} {p t c : Nat} (h : RPh x m p t c) : c < 34 ∨ (c = 34 ∧ p = 1) := h.2.2.2.2.2.2.2.2.2.1
theorem RPh.jc {x m : zM} {p t c : Nat} (h : RPh x m p t c) : p = 1 → m.1 50 57 = (if c = 34 then 1 else 0) := h.2.2.2.2.2.2.2.2.2.2.1
theorem RPh.br {x m : zM} {p t c : Nat} (h : RPh x m p t c) : x.1 0 17 = nB (decide (m.1 50 56 = 0)) := h.2.2.2.2.2.2.2.2.2.2.2.1
theorem RPh.us {x m : zM} {p t c : Nat} (h : RPh x m p t c) : ¬ m.1 50 56 = 0 → ∀ s, s < 4 → m.1 64 s = 0 := h.2.2.2.2.2.2.2.2.2.2.2.2.1
theorem RPh.bf {x m : zM} {p t c : Nat} (h : RPh x m p t c) : p = 1 → c < 34 → x.1 0 16 = m.1 50 58 := h.2.2.2.2.2.2.2.2.2.2.2.2.2.1
theorem RPh.ba {x m : zM} {p t c : Nat} (h : RPh x m p t c) : p = 1 → x.2.1 0 18 = barM m := h.2.2.2.2.2.2.2.2.2.2.2.2.2.2.1
theorem RPh.bn {x m : zM} {p t c : Nat} (h : RPh x m p t c) : p = 1 → c = 34 → BN m ∧ m.1 50 56 = 0 := h.2.2.2.2.2.2.2.2.2.2.2.2.2.2.2.1
theorem RPh.dt {x m : zM} {p t c : Nat} (h : RPh x m p t c) : p = 1 → c < 34 → ¬ m.1 60 (34 * t + c) = 0 := h.2.2.2.2.2.2.2.2.2.2.2.2.2.2.2.2.1
theorem RPh.a3 {x m : zM} {p t c : Nat} (h : RPh x m p t c) : p = 3 → ¬ x.1 (21 + 8 * t) c = 0 := h.2.2.2.2.2.2.2.2.2.2.2.2.2.2.2.2.2.1
theorem RPh.ow {x m : zM} {p t c : Nat} (h : RPh x m p t c) : ∀ s, s < 4 → x.1 (18 + 8 * s) 6 = (if s = t then m.1 50 59 else 0) := h.2.2.2.2.2.2.2.2.2.2.2.2.2.2.2.2.2.2.1
theorem RPh.o1 {x m : zM} {p t c : Nat} (h : RPh x m p t c) : p ≠ 2 → m.1 50 59 = 0 := h.2.2.2.2.2.2.2.2.2.2.2.2.2.2.2.2.2.2.2.1
theorem RPh.is {x m : zM} {p t c : Nat} (h : RPh x m p t c) : m.1 50 55 = 1 := h.2.2.2.2.2.2.2.2.2.2.2.2.2.2.2.2.2.2.2.2.1
theorem RPh.s0 {x m : zM} {p t c : Nat} (h : RPh x m p t c) : m.1 71 t = 0 := h.2.2.2.2.2.2.2.2.2.2.2.2.2.2.2.2.2.2.2.2.2.1
theorem RPh.s1 {x m : zM} {p t c : Nat} (h : RPh x m p t c) : p = 1 → ∀ s, s < 4 → m.1 71 s = 0 := h.2.2.2.2.2.2.2.2.2.2.2.2.2.2.2.2.2.2.2.2.2.2.1
theorem RPh.w0 {x m : zM} {p t c : Nat} (h : RPh x m p t c) : m.1 50 53 = 0 := h.2.2.2.2.2.2.2.2.2.2.2.2.2.2.2.2.2.2.2.2.2.2.2.1
theorem RPh.dn {x m : zM} {p t c : Nat} (h : RPh x m p t c) : ∀ s, s < 4 → ∃ n, m.1 68 s = nI n ∧ (n : Int) + 52 ≤ (m.1 50 46).toInt + (m.1 50 48).toInt ∧ (m.1 50 40 = nI s → 1 ≤ n) := h.2.2.2.2.2.2.2.2.2.2.2.2.2.2.2.2.2.2.2.2.2.2.2.2.1
theorem RPh.dr {x m : zM} {p t c : Nat} (h : RPh x m p t c) : ¬ m.1 50 56 = 0 → ∀ s, s < 4 → m.1 68 s = (if p = 1 ∧ s = t then m.1 66 s + 1 else m.1 66 s) := h.2.2.2.2.2.2.2.2.2.2.2.2.2.2.2.2.2.2.2.2.2.2.2.2.2.1
theorem RPh.d2 {x m : zM} {p t c : Nat} (h : RPh x m p t c) : m.1 50 56 = 0 → p = 1 → m.1 50 40 = nI t → c < 34 → ¬ m.1 68 t = 1 := h.2.2.2.2.2.2.2.2.2.2.2.2.2.2.2.2.2.2.2.2.2.2.2.2.2.2.1
theorem RPh.tc {x m : zM} {p t c : Nat} (h : RPh x m p t c) : ∃ a : Nat → Nat → Nat, (∀ s k, s < 4 → k < 34 → x.1 (21 + 8 * s) k = nI (a s k)) ∧ ∀ k, k < 34 → a 0 k + a 1 k + a 2 k + a 3 k + (if p = 2 ∧ c = k then 1 else 0) ≤ cW (fW m) 0 k (m.1 50 46).toNatClampNeg + cW (fW m) 122 k (m.1 50 48).toNatClampNeg := h.2.2.2.2.2.2.2.2.2.2.2.2.2.2.2.2.2.2.2.2.2.2.2.2.2.2.2
/-- between calls -/
noncomputable def RG (x m : zM) : Prop := RCl x m ∧ ((x.1 0 7 = 0 ∧ m.1 50 44 = 0 ∧ m.1 50 49 = -1 ∧ x.1 2 3 = m.1 50 47 ∧ x.1 0 8 = m.1 50 45) ∨ ∃ p t c, RPh x m p t c)
/-- the class's cells of the game -/
noncomputable def gXc (r k : Nat) : Prop := (r = 0 ∧ 6 ≤ k) ∨ r = 2 ∨ r = 3 ∨ (18 ≤ r ∧ r < 50)
/-- the reference's cells of the game -/
noncomputable def gMc (r k : Nat) : Prop := (59 ≤ r ∧ r ≤ 73) ∨ (r = 50 ∧ 40 ≤ k ∧ k ≤ 59)
noncomputable def EqX (x x' : zM) : Prop := ∀ r k, gXc r k → x'.1 r k = x.1 r k ∧ x'.2.1 r k = x.2.1 r k
noncomputable def EqM (m m' : zM) : Prop := ∀ r k, gMc r k → m'.1 r k = m.1 r k ∧ m'.2.1 r k = m.2.1 r k
/-! the two games side by side: by their cells alone -/
set_option maxRecDepth 8000
theorem RCl.cg {x : zM} {x' : zM} {m : zM} {m' : zM} (hx : EqX x x') (hm : EqM m m') (h : RCl x m) : RCl x' m' := by
  have X : ∀ r k, gXc r k → x'.1 r k = x.1 r k := fun r k q => (hx r k q).1
  have Y : ∀ r k, gXc r k → x'.2.1 r k = x.2.1 r k := fun r k q => (hx r k q).2
  have M : ∀ r k, gMc r k → m'.1 r k = m.1 r k := fun r k q => (hm r k q).1
  have N : ∀ r k, gMc r k → m'.2.1 r k = m.2.1 r k := fun r k q => (hm r k q).2
  unfold gXc at X Y
  unfold gMc at M N
  have e66 : ∀ s, m'.1 66 s = m.1 66 s := fun s => M 66 s (by omega)
  have eT : ∀ s, tkM m' s = tkM m s := fun s => by
    funext b
    unfold tkM
    rw [e66 s, show (fun i => decide (m'.1 65 (136 * s + i) = nI b)) = (fun i => decide (m.1 65 (136 * s + i) = nI b)) from funext fun i => by rw [M 65 _ (by omega)]]
  exact ⟨(by rw [X _ _ (by omega), M _ _ (by omega)]; exact h.dl), (by rw [X _ _ (by omega), M _ _ (by omega)]; exact h.rn), (by rw [X _ _ (by omega), M _ _ (by omega)]; exact h.st), (by rw [X _ _ (by omega), M _ _ (by omega)]; exact h.bt), (by rw [X _ _ (by omega), M _ _ (by omega)]; exact h.en), (by rw [X _ _ (by omega), M _ _ (by omega)]; exact h.he), (by rw [X _ _ (by omega), M _ _ (by omega)]; exact h.wc), (by rw [X _ _ (by omega), M _ _ (by omega)]; exact h.sd), (by rw [X _ _ (by omega), M _ _ (by omega)]; exact h.nx), fun i h0 => by rw [X _ _ (by omega), M _ _ (by omega)]; exact h.wl i h0, fun s h0 => by rw [X _ _ (by omega), M _ _ (by omega)]; exact h.pt s h0, fun s h0 => by rw [X _ _ (by omega), M _ _ (by omega)]; exact h.be s h0, fun s h0 => by rw [X _ _ (by omega), M _ _ (by omega)]; exact h.ao s h0, fun s h0 => by rw [X _ _ (by omega), M _ _ (by omega)]; exact h.lg s h0, fun s h0 => by rw [X _ _ (by omega), M _ _ (by omega)]; exact h.sy s h0, fun s h0 => by rw [X _ _ (by omega), M _ _ (by omega)]; exact h.ds s h0, fun s h0 => by rw [X _ _ (by omega), M _ _ (by omega)]; exact h.lm s h0, fun s k h0 h1 => by rw [X _ _ (by omega), M _ _ (by omega)]; exact h.hd s k h0 h1, fun s i h0 h1 => by rw [X _ _ (by omega), M _ _ (by omega)]; exact h.so s i h0 h1, fun s i h0 h1 => by rw [X _ _ (by omega), M _ _ (by omega)]; exact h.lo s i h0 h1, fun s i h0 h1 => by rw [X _ _ (by omega), M _ _ (by omega)]; exact h.rv s i h0 h1, fun i f h0 h1 h2 => by rw [X _ _ (by omega), M _ _ (by omega)]; exact h.wi i f h0 h1 h2, fun i hi => by rw [Y _ _ (by omega), N 73 i (by omega)]; exact h.wf i hi, fun s k hs hk => by rw [X _ _ (by omega), M 60 _ (by omega), M 64 s (by omega), show (fun i => m'.1 62 (4 * s + i)) = (fun i => m.1 62 (4 * s + i)) from funext fun i => M 62 _ (by omega), show (fun i => m'.1 63 (4 * s + i)) = (fun i => m.1 63 (4 * s + i)) from funext fun i => M 63 _ (by omega)]; exact h.al s k hs hk, fun s hs => by rw [X _ _ (by omega), show (fun k => m'.1 60 (34 * s + k)) = (fun k => m.1 60 (34 * s + k)) from funext fun i => M 60 _ (by omega)]; exact h.lz s hs, fun s i hs hi => by rw [M 62 _ (by omega), M 63 _ (by omega)]; exact h.sv s i hs (by rw [M 64 s (by omega)] at hi; exact hi), fun s hs => by rw [Y _ _ (by omega), eT s]; exact h.tk s hs, fun s hs => by rw [e66 s]; exact h.rb s hs, fun s i hs hi => by rw [e66 s] at hi; rw [M 65 (136 * s + i) (by omega)]; exact h.rk s i hs hi, (by rw [M 50 41 (by omega)]; exact h.rd), fun s hs => by rw [M 67 s (by omega)]; exact h.bb s hs, fun q => by rw [M 50 55 (by omega)] at q; exact (h.wp q).elim fun sd z => ⟨sd, fun i hi => by rw [M 59 i (by omega)]; exact z i hi⟩⟩
theorem RPh.cg {x : zM} {x' : zM} {m : zM} {m' : zM} (hx : EqX x x') (hm : EqM m m') {p t c : Nat} (h : RPh x m p t c) : RPh x' m' p t c := by
  have X : ∀ r k, gXc r k → x'.1 r k = x.1 r k := fun r k q => (hx r k q).1
  have Y : ∀ r k, gXc r k → x'.2.1 r k = x.2.1 r k := fun r k q => (hx r k q).2
  have M : ∀ r k, gMc r k → m'.1 r k = m.1 r k := fun r k q => (hm r k q).1
  unfold gXc at X Y
  unfold gMc at M
  have m44 := M 50 44 (by omega)
  have m45 := M 50 45 (by omega)
  have m46 := M 50 46 (by omega)
  have m47 := M 50 47 (by omega)
  have m48 := M 50 48 (by omega)
  have m49 := M 50 49 (by omega)
  have m50 := M 50 50 (by omega)
  have m51 := M 50 51 (by omega)
  have m40 := M 50 40 (by omega)
  have m53 := M 50 53 (by omega)
  have m55 := M 50 55 (by omega)
  have m56 := M 50 56 (by omega)
  have m57 := M 50 57 (by omega)
  have m58 := M 50 58 (by omega)
  have m59 := M 50 59 (by omega)
  have m64 : ∀ s, m'.1 64 s = m.1 64 s := fun s => M 64 s (by omega)
  have m66 : ∀ s, m'.1 66 s = m.1 66 s := fun s => M 66 s (by omega)
  have m68 : ∀ s, m'.1 68 s = m.1 68 s := fun s => M 68 s (by omega)
  have m71 : ∀ s, m'.1 71 s = m.1 71 s := fun s => M 71 s (by omega)
  have mW : fW m' = fW m := funext fun i => M 59 i (by omega)
  have mb : barM m' = barM m := by unfold barM; rw [m57, m50, m51]
  exact ⟨(by rw [X 2 3 (by omega), m47]; exact h.fo), (by rw [X 0 7 (by omega)]; exact h.px), (by rw [m44]; exact h.pm), (by rw [X 0 8 (by omega)]; exact h.tx), (by rw [m45]; exact h.tm), h.t4, h.p3, (by rw [X 0 15 (by omega)]; exact h.cx), (by rw [m49]; exact h.cm), h.c3, (by rw [m57]; exact h.jc), (by rw [X 0 17 (by omega), m56]; exact h.br), (by simp only [m56, m64]; exact h.us), (by rw [X 0 16 (by omega), m58]; exact h.bf), (by rw [Y 0 18 (by omega), mb]; exact h.ba), fun a b => ⟨by unfold BN; rw [m50, m51]; exact (h.bn a b).1, by rw [m56]; exact (h.bn a b).2⟩, (by rw [M 60 (34 * t + c) (by omega)]; exact h.dt), (by rw [X (21 + 8 * t) c (by have := h.t4; omega)]; exact h.a3), fun s hs => by rw [X _ 6 (by omega), m59]; exact h.ow s hs, (by rw [m59]; exact h.o1), (by rw [m55]; exact h.is), (by rw [m71]; exact h.s0), (by simp only [m71]; exact h.s1), (by rw [m53]; exact h.w0), (by simp only [m68, m46, m48, m40]; exact h.dn), (by simp only [m56, m68, m66]; exact h.dr), (by rw [m56, m40, m68]; exact h.d2), h.tc.elim fun a z => ⟨a, fun s k hs hk => by rw [X _ _ (by omega)]; exact z.1 s k hs hk, by rw [mW, m46, m48]; exact z.2⟩⟩
theorem RG.cg {x : zM} {x' : zM} {m : zM} {m' : zM} (hx : EqX x x') (hm : EqM m m') (h : RG x m) : RG x' m' := by
  refine ⟨h.1.cg hx hm, h.2.elim (fun z => Or.inl ?_) (fun ⟨p, t, c, z⟩ => Or.inr ⟨p, t, c, z.cg hx hm⟩)⟩
  rw [(hx 0 7 (Or.inl ⟨rfl, by decide⟩)).1, (hx 2 3 (Or.inr (Or.inl rfl))).1, (hm 50 44 (Or.inr ⟨rfl, by decide, by decide⟩)).1, (hm 50 49 (Or.inr ⟨rfl, by decide, by decide⟩)).1, (hm 50 47 (Or.inr ⟨rfl, by decide, by decide⟩)).1, (hx 0 8 (Or.inl ⟨rfl, by decide⟩)).1, (hm 50 45 (Or.inr ⟨rfl, by decide, by decide⟩)).1]
  exact z
/-! the relation is kept: discard -/
set_option maxRecDepth 8000
theorem ofv_add {w d k : Int32} {so lo : Nat → Int32} : ∀ n, ofv (w + d) so lo k n = ofv w so lo k n + d
  | 0 => rfl
  | n + 1 => by
    show ofv (w + d) so lo k n + ct (so n) (lo n) k = (ofv w so lo k n + ct (so n) (lo n) k) + d
    rw [ofv_add n, Int32.add_assoc, Int32.add_assoc, Int32.add_comm d]
theorem sm_cg {f g : Nat → Int32} {n : Nat} (h : ∀ j, j < n → f j = g j) : sm f n = sm g n := by
  induction n with
  | zero => rfl
  | succ n ih =>
    show sm f n + f n = sm g n + g n
    rw [ih (fun j hj => h j (by omega)), h n (by omega)]
theorem sm_up9 {f g : Nat → Int32} {c n : Nat} {d : Int32} (hc : c < n) (h : ∀ j, j < n → j ≠ c → f j = g j) (h2 : f c = g c + d) : sm f n = sm g n + d := by
  induction n with
  | zero => omega
  | succ n ih =>
    show sm f n + f n = (sm g n + g n) + d
    by_cases e : c = n
    · subst e
      rw [sm_cg (fun j hj => h j (by omega) (by omega)), h2, Int32.add_assoc]
    · rw [ih (by omega) (fun j hj => h j (by omega)), h n (by omega) (fun q => e q.symm), Int32.add_assoc, Int32.add_assoc, Int32.add_comm d]
theorem kA_cg {f g : Nat → Bool} {n : Nat} (h : ∀ i, i < n → f i = g i) : kA f n = kA g n := by
  induction n with
  | zero => rfl
  | succ n ih =>
    show (kA f n || f n) = (kA g n || g n)
    rw [ih (fun i hi => h i (by omega)), h n (by omega)]
theorem tkM_cg {m m' : zM} {s : Nat} (hb : (m.1 66 s).toNatClampNeg ≤ 86) (h1 : ∀ i, i < 86 → m'.1 65 (136 * s + i) = m.1 65 (136 * s + i)) (h2 : m'.1 66 s = m.1 66 s) : tkM m s = tkM m' s := by
  funext b
  unfold tkM
  rw [h2]
  exact kA_cg (fun i hi => by rw [h1 i (by omega)])
theorem kb_or {f g : Nat → Bool} {k : Nat} (h : ∀ b, b < 34 → g b = (f b || decide (b = k))) (hk : k < 34) : kb g 34 = kb f 34 ||| (1 <<< ((nI k).toInt64 &&& 63)) := by
  have H : ∀ n, n ≤ 34 → kb g n = (if k < n then kb f n ||| (1 <<< ((nI k).toInt64 &&& 63)) else kb f n) := by
    intro n
    induction n with
    | zero => intro _; rfl
    | succ n ih =>
      intro hn
      have e := ih (by omega)
      show (if g n = true then kb g n ||| (1 <<< ((nI n).toInt64 &&& 63)) else kb g n) = _
      rw [show kb f (n + 1) = (if f n = true then kb f n ||| (1 <<< ((nI n).toInt64 &&& 63)) else kb f n) from rfl, e, h n (by omega)]
      by_cases c1 : k < n
      · rw [if_pos c1, if_pos (show k < n + 1 by omega), decide_eq_false (show ¬ n = k by omega), Bool.or_false]
        cases f n
        · rfl
        · rw [if_pos rfl, if_pos rfl, Int64.or_assoc, Int64.or_comm (1 <<< ((nI k).toInt64 &&& 63)), ← Int64.or_assoc]
      · rw [if_neg c1]
        by_cases c2 : n = k
        · rw [if_pos (show k < n + 1 by omega), decide_eq_true c2, Bool.or_true, if_pos rfl, ← c2]
          cases f n
          · rfl
          · rw [if_pos rfl, Int64.or_assoc, Int64.or_self]
        · rw [if_neg (show ¬ k < n + 1 by omega), decide_eq_false c2, Bool.or_false]
  rw [H 34 (by omega), if_pos hk]
theorem tk_add {m m' : zM} {s k q : Nat} (hk : k < 34) (e66 : m.1 66 s = nI q) (hq : q < 2147483647) (h1 : ∀ i, i < q → m'.1 65 (136 * s + i) = m.1 65 (136 * s + i)) (h2 : m'.1 65 (136 * s + q) = nI k) (h3 : m'.1 66 s = nI (q + 1)) : kb (tkM m s) 34 ||| (1 <<< ((nI k).toInt64 &&& 63)) = kb (tkM m' s) 34 := by
  refine (kb_or (fun b hb => ?_) hk).symm
  unfold tkM
  rw [h3, e66, nI_clamp (by omega), nI_clamp (by omega)]
  show (kA _ q || decide (m'.1 65 (136 * s + q) = nI b)) = _
  rw [kA_cg (fun i hi => by rw [h1 i hi]), h2]
  congr 1
  by_cases e : b = k
  · rw [decide_eq_true e, decide_eq_true (by rw [e])]
  · rw [decide_eq_false e, decide_eq_false (fun z => e ((nI_eq (a := k) (b := b) (by omega) (by omega)).mp z).symm)]
noncomputable def dX0 (x : zM) (t k q : Nat) : zM := z_ui (z_uj (z_ui (tT (z_ui (z_ui (pS x t k (-1)) (18 + 8 * t) 6 0) (18 + 8 * t) 7 0) t k q) 0 15 (nI k)) 0 18 0) 0 7 2
noncomputable def dY0 (m : zM) (t k q : Nat) : zM := z_ui (z_ui (z_ui (z_ui (z_ui (z_ui (z_ui (z_giv m t k (-1)) 65 (136 * t + q) (nI k)) 66 t (nI (q + 1))) 69 t 0) 50 59 0) 50 44 2) 50 49 (nI k)) 50 57 0
theorem rc_discard0 {x m : zM} (R : RCl x m) {t k q : Nat} (ht : t < 4) (hk : k < 34) (hq : q < 86) (e66 : m.1 66 t = nI q) : RCl (dX0 x t k q) (dY0 m t k q) := by
  have e2 : x.1 (18 + 8 * t) 2 = nI q := (R.ds t ht).trans e66
  unfold dX0 dY0 tT pS z_giv
  exact ⟨(by simp (disch := first | decide | exact ad_ne (by decide) | exact ad_m (by decide) | exact ad_l (by decide) | exact ad_g (by decide) | exact ad_lt (by decide) | exact ad_o (by decide) | omega) only [↓ui_s, ↓uj_s, ↓ui_o, ↓ui_k, ↓uj_o, ↓uj_k, ↓ui_j, ↓uj_i, ui_s, uj_s, ui_o, ui_k, uj_o, uj_k, ui_j, uj_i]; exact R.dl), (by simp (disch := first | decide | exact ad_ne (by decide) | exact ad_m (by decide) | exact ad_l (by decide) | exact ad_g (by decide) | exact ad_lt (by decide) | exact ad_o (by decide) | omega) only [↓ui_s, ↓uj_s, ↓ui_o, ↓ui_k, ↓uj_o, ↓uj_k, ↓ui_j, ↓uj_i, ui_s, uj_s, ui_o, ui_k, uj_o, uj_k, ui_j, uj_i]; exact R.rn), (by simp (disch := first | decide | exact ad_ne (by decide) | exact ad_m (by decide) | exact ad_l (by decide) | exact ad_g (by decide) | exact ad_lt (by decide) | exact ad_o (by decide) | omega) only [↓ui_s, ↓uj_s, ↓ui_o, ↓ui_k, ↓uj_o, ↓uj_k, ↓ui_j, ↓uj_i, ui_s, uj_s, ui_o, ui_k, uj_o, uj_k, ui_j, uj_i]; exact R.st), (by simp (disch := first | decide | exact ad_ne (by decide) | exact ad_m (by decide) | exact ad_l (by decide) | exact ad_g (by decide) | exact ad_lt (by decide) | exact ad_o (by decide) | omega) only [↓ui_s, ↓uj_s, ↓ui_o, ↓ui_k, ↓uj_o, ↓uj_k, ↓ui_j, ↓uj_i, ui_s, uj_s, ui_o, ui_k, uj_o, uj_k, ui_j, uj_i]; exact R.bt), (by simp (disch := first | decide | exact ad_ne (by decide) | exact ad_m (by decide) | exact ad_l (by decide) | exact ad_g (by decide) | exact ad_lt (by decide) | exact ad_o (by decide) | omega) only [↓ui_s, ↓uj_s, ↓ui_o, ↓ui_k, ↓uj_o, ↓uj_k, ↓ui_j, ↓uj_i, ui_s, uj_s, ui_o, ui_k, uj_o, uj_k, ui_j, uj_i]; exact R.en), (by simp (disch := first | decide | exact ad_ne (by decide) | exact ad_m (by decide) | exact ad_l (by decide) | exact ad_g (by decide) | exact ad_lt (by decide) | exact ad_o (by decide) | omega) only [↓ui_s, ↓uj_s, ↓ui_o, ↓ui_k, ↓uj_o, ↓uj_k, ↓ui_j, ↓uj_i, ui_s, uj_s, ui_o, ui_k, uj_o, uj_k, ui_j, uj_i]; exact R.he), (by simp (disch := first | decide | exact ad_ne (by decide) | exact ad_m (by decide) | exact ad_l (by decide) | exact ad_g (by decide) | exact ad_lt (by decide) | exact ad_o (by decide) | omega) only [↓ui_s, ↓uj_s, ↓ui_o, ↓ui_k, ↓uj_o, ↓uj_k, ↓ui_j, ↓uj_i, ui_s, uj_s, ui_o, ui_k, uj_o, uj_k, ui_j, uj_i]; exact R.wc), (by simp (disch := first | decide | exact ad_ne (by decide) | exact ad_m (by decide) | exact ad_l (by decide) | exact ad_g (by decide) | exact ad_lt (by decide) | exact ad_o (by decide) | omega) only [↓ui_s, ↓uj_s, ↓ui_o, ↓ui_k, ↓uj_o, ↓uj_k, ↓ui_j, ↓uj_i, ui_s, uj_s, ui_o, ui_k, uj_o, uj_k, ui_j, uj_i]; exact R.sd), (by simp (disch := first | decide | exact ad_ne (by decide) | exact ad_m (by decide) | exact ad_l (by decide) | exact ad_g (by decide) | exact ad_lt (by decide) | exact ad_o (by decide) | omega) only [↓ui_s, ↓uj_s, ↓ui_o, ↓ui_k, ↓uj_o, ↓uj_k, ↓ui_j, ↓uj_i, ui_s, uj_s, ui_o, ui_k, uj_o, uj_k, ui_j, uj_i]; exact R.nx), fun i h0 => by simp (disch := first | decide | exact ad_ne (by decide) | exact ad_m (by decide) | exact ad_l (by decide) | exact ad_g (by decide) | exact ad_lt (by decide) | exact ad_o (by decide) | omega) only [↓ui_s, ↓uj_s, ↓ui_o, ↓ui_k, ↓uj_o, ↓uj_k, ↓ui_j, ↓uj_i, ui_s, uj_s, ui_o, ui_k, uj_o, uj_k, ui_j, uj_i]; exact R.wl i h0, fun s h0 => by simp (disch := first | decide | exact ad_ne (by decide) | exact ad_m (by decide) | exact ad_l (by decide) | exact ad_g (by decide) | exact ad_lt (by decide) | exact ad_o (by decide) | omega) only [↓ui_s, ↓uj_s, ↓ui_o, ↓ui_k, ↓uj_o, ↓uj_k, ↓ui_j, ↓uj_i, ui_s, uj_s, ui_o, ui_k, uj_o, uj_k, ui_j, uj_i]; exact R.pt s h0, (fun s h0 => by
      by_cases e : s = t
      · subst e; simp (disch := first | decide | exact ad_ne (by decide) | exact ad_m (by decide) | exact ad_l (by decide) | exact ad_g (by decide) | exact ad_lt (by decide) | exact ad_o (by decide) | omega) only [↓ui_s, ↓uj_s, ↓ui_o, ↓ui_k, ↓uj_o, ↓uj_k, ↓ui_j, ↓uj_i, ui_s, uj_s, ui_o, ui_k, uj_o, uj_k, ui_j, uj_i]; exact R.be s h0
      · simp (disch := first | decide | exact ad_ne (by decide) | exact ad_m (by decide) | exact ad_l (by decide) | exact ad_g (by decide) | exact ad_lt (by decide) | exact ad_o (by decide) | omega) only [↓ui_s, ↓uj_s, ↓ui_o, ↓ui_k, ↓uj_o, ↓uj_k, ↓ui_j, ↓uj_i, ui_s, uj_s, ui_o, ui_k, uj_o, uj_k, ui_j, uj_i]; exact R.be s h0), (fun s h0 => by
      by_cases e : s = t
      · subst e; simp (disch := first | decide | exact ad_ne (by decide) | exact ad_m (by decide) | exact ad_l (by decide) | exact ad_g (by decide) | exact ad_lt (by decide) | exact ad_o (by decide) | omega) only [↓ui_s, ↓uj_s, ↓ui_o, ↓ui_k, ↓uj_o, ↓uj_k, ↓ui_j, ↓uj_i, ui_s, uj_s, ui_o, ui_k, uj_o, uj_k, ui_j, uj_i]
      · simp (disch := first | decide | exact ad_ne (by decide) | exact ad_m (by decide) | exact ad_l (by decide) | exact ad_g (by decide) | exact ad_lt (by decide) | exact ad_o (by decide) | omega) only [↓ui_s, ↓uj_s, ↓ui_o, ↓ui_k, ↓uj_o, ↓uj_k, ↓ui_j, ↓uj_i, ui_s, uj_s, ui_o, ui_k, uj_o, uj_k, ui_j, uj_i]; exact R.ao s h0), fun s h0 => by simp (disch := first | decide | exact ad_ne (by decide) | exact ad_m (by decide) | exact ad_l (by decide) | exact ad_g (by decide) | exact ad_lt (by decide) | exact ad_o (by decide) | omega) only [↓ui_s, ↓uj_s, ↓ui_o, ↓ui_k, ↓uj_o, ↓uj_k, ↓ui_j, ↓uj_i, ui_s, uj_s, ui_o, ui_k, uj_o, uj_k, ui_j, uj_i]; exact R.lg s h0, fun s h0 => by simp (disch := first | decide | exact ad_ne (by decide) | exact ad_m (by decide) | exact ad_l (by decide) | exact ad_g (by decide) | exact ad_lt (by decide) | exact ad_o (by decide) | omega) only [↓ui_s, ↓uj_s, ↓ui_o, ↓ui_k, ↓uj_o, ↓uj_k, ↓ui_j, ↓uj_i, ui_s, uj_s, ui_o, ui_k, uj_o, uj_k, ui_j, uj_i]; exact R.sy s h0, (fun s h0 => by
      by_cases e : s = t
      · subst e; simp (disch := first | decide | exact ad_ne (by decide) | exact ad_m (by decide) | exact ad_l (by decide) | exact ad_g (by decide) | exact ad_lt (by decide) | exact ad_o (by decide) | omega) only [↓ui_s, ↓uj_s, ↓ui_o, ↓ui_k, ↓uj_o, ↓uj_k, ↓ui_j, ↓uj_i, ui_s, uj_s, ui_o, ui_k, uj_o, uj_k, ui_j, uj_i]
      · simp (disch := first | decide | exact ad_ne (by decide) | exact ad_m (by decide) | exact ad_l (by decide) | exact ad_g (by decide) | exact ad_lt (by decide) | exact ad_o (by decide) | omega) only [↓ui_s, ↓uj_s, ↓ui_o, ↓ui_k, ↓uj_o, ↓uj_k, ↓ui_j, ↓uj_i, ui_s, uj_s, ui_o, ui_k, uj_o, uj_k, ui_j, uj_i]; exact R.ds s h0), fun s h0 => by simp (disch := first | decide | exact ad_ne (by decide) | exact ad_m (by decide) | exact ad_l (by decide) | exact ad_g (by decide) | exact ad_lt (by decide) | exact ad_o (by decide) | omega) only [↓ui_s, ↓uj_s, ↓ui_o, ↓ui_k, ↓uj_o, ↓uj_k, ↓ui_j, ↓uj_i, ui_s, uj_s, ui_o, ui_k, uj_o, uj_k, ui_j, uj_i]; exact R.lm s h0, (fun s k2 h0 h1 => by
      by_cases e : s = t
      · subst e
        by_cases e2 : k2 = k
        · subst e2; simp (disch := first | decide | exact ad_ne (by decide) | exact ad_m (by decide) | exact ad_l (by decide) | exact ad_g (by decide) | exact ad_lt (by decide) | exact ad_o (by decide) | omega) only [↓ui_s, ↓uj_s, ↓ui_o, ↓ui_k, ↓uj_o, ↓uj_k, ↓ui_j, ↓uj_i, ui_s, uj_s, ui_o, ui_k, uj_o, uj_k, ui_j, uj_i]; rw [R.hd s k2 h0 h1]
        · simp (disch := first | decide | exact ad_ne (by decide) | exact ad_m (by decide) | exact ad_l (by decide) | exact ad_g (by decide) | exact ad_lt (by decide) | exact ad_o (by decide) | omega) only [↓ui_s, ↓uj_s, ↓ui_o, ↓ui_k, ↓uj_o, ↓uj_k, ↓ui_j, ↓uj_i, ui_s, uj_s, ui_o, ui_k, uj_o, uj_k, ui_j, uj_i]; exact R.hd s k2 h0 h1
      · simp (disch := first | decide | exact ad_ne (by decide) | exact ad_m (by decide) | exact ad_l (by decide) | exact ad_g (by decide) | exact ad_lt (by decide) | exact ad_o (by decide) | omega) only [↓ui_s, ↓uj_s, ↓ui_o, ↓ui_k, ↓uj_o, ↓uj_k, ↓ui_j, ↓uj_i, ui_s, uj_s, ui_o, ui_k, uj_o, uj_k, ui_j, uj_i]; exact R.hd s k2 h0 h1), fun s i h0 h1 => by simp (disch := first | decide | exact ad_ne (by decide) | exact ad_m (by decide) | exact ad_l (by decide) | exact ad_g (by decide) | exact ad_lt (by decide) | exact ad_o (by decide) | omega) only [↓ui_s, ↓uj_s, ↓ui_o, ↓ui_k, ↓uj_o, ↓uj_k, ↓ui_j, ↓uj_i, ui_s, uj_s, ui_o, ui_k, uj_o, uj_k, ui_j, uj_i]; exact R.so s i h0 h1, fun s i h0 h1 => by simp (disch := first | decide | exact ad_ne (by decide) | exact ad_m (by decide) | exact ad_l (by decide) | exact ad_g (by decide) | exact ad_lt (by decide) | exact ad_o (by decide) | omega) only [↓ui_s, ↓uj_s, ↓ui_o, ↓ui_k, ↓uj_o, ↓uj_k, ↓ui_j, ↓uj_i, ui_s, uj_s, ui_o, ui_k, uj_o, uj_k, ui_j, uj_i]; exact R.lo s i h0 h1, (fun s i h0 h1 => by
      by_cases e : s = t
      · subst e
        by_cases e2 : i = q
        · subst e2; simp (disch := first | decide | exact ad_ne (by decide) | exact ad_m (by decide) | exact ad_l (by decide) | exact ad_g (by decide) | exact ad_lt (by decide) | exact ad_o (by decide) | omega) only [↓ui_s, ↓uj_s, ↓ui_o, ↓ui_k, ↓uj_o, ↓uj_k, ↓ui_j, ↓uj_i, ui_s, uj_s, ui_o, ui_k, uj_o, uj_k, ui_j, uj_i]
        · simp (disch := first | decide | exact ad_ne (by decide) | exact ad_m (by decide) | exact ad_l (by decide) | exact ad_g (by decide) | exact ad_lt (by decide) | exact ad_o (by decide) | omega) only [↓ui_s, ↓uj_s, ↓ui_o, ↓ui_k, ↓uj_o, ↓uj_k, ↓ui_j, ↓uj_i, ui_s, uj_s, ui_o, ui_k, uj_o, uj_k, ui_j, uj_i]; exact R.rv s i h0 h1
      · simp (disch := first | decide | exact ad_ne (by decide) | exact ad_m (by decide) | exact ad_l (by decide) | exact ad_g (by decide) | exact ad_lt (by decide) | exact ad_o (by decide) | omega) only [↓ui_s, ↓uj_s, ↓ui_o, ↓ui_k, ↓uj_o, ↓uj_k, ↓ui_j, ↓uj_i, ui_s, uj_s, ui_o, ui_k, uj_o, uj_k, ui_j, uj_i]; exact R.rv s i h0 h1), fun i f h0 h1 h2 => by simp (disch := first | decide | exact ad_ne (by decide) | exact ad_m (by decide) | exact ad_l (by decide) | exact ad_g (by decide) | exact ad_lt (by decide) | exact ad_o (by decide) | omega) only [↓ui_s, ↓uj_s, ↓ui_o, ↓ui_k, ↓uj_o, ↓uj_k, ↓ui_j, ↓uj_i, ui_s, uj_s, ui_o, ui_k, uj_o, uj_k, ui_j, uj_i]; exact R.wi i f h0 h1 h2, fun i h0 => by simp (disch := first | decide | exact ad_ne (by decide) | exact ad_m (by decide) | exact ad_l (by decide) | exact ad_g (by decide) | exact ad_lt (by decide) | exact ad_o (by decide) | omega) only [↓ui_s, ↓uj_s, ↓ui_o, ↓ui_k, ↓uj_o, ↓uj_k, ↓ui_j, ↓uj_i, ui_s, uj_s, ui_o, ui_k, uj_o, uj_k, ui_j, uj_i]; exact R.wf i h0, (fun s k2 h0 h1 => by
      by_cases e : s = t
      · subst e
        by_cases e2 : k2 = k
        · subst e2; simp (disch := first | decide | exact ad_ne (by decide) | exact ad_m (by decide) | exact ad_l (by decide) | exact ad_g (by decide) | exact ad_lt (by decide) | exact ad_o (by decide) | omega) only [↓ui_s, ↓uj_s, ↓ui_o, ↓ui_k, ↓uj_o, ↓uj_k, ↓ui_j, ↓uj_i, ui_s, uj_s, ui_o, ui_k, uj_o, uj_k, ui_j, uj_i]; rw [ofv_add]; exact congrArg (· + (-1)) (R.al s k2 h0 h1)
        · simp (disch := first | decide | exact ad_ne (by decide) | exact ad_m (by decide) | exact ad_l (by decide) | exact ad_g (by decide) | exact ad_lt (by decide) | exact ad_o (by decide) | omega) only [↓ui_s, ↓uj_s, ↓ui_o, ↓ui_k, ↓uj_o, ↓uj_k, ↓ui_j, ↓uj_i, ui_s, uj_s, ui_o, ui_k, uj_o, uj_k, ui_j, uj_i]; exact R.al s k2 h0 h1
      · simp (disch := first | decide | exact ad_ne (by decide) | exact ad_m (by decide) | exact ad_l (by decide) | exact ad_g (by decide) | exact ad_lt (by decide) | exact ad_o (by decide) | omega) only [↓ui_s, ↓uj_s, ↓ui_o, ↓ui_k, ↓uj_o, ↓uj_k, ↓ui_j, ↓uj_i, ui_s, uj_s, ui_o, ui_k, uj_o, uj_k, ui_j, uj_i]; exact R.al s k2 h0 h1), (fun s h0 => by
      by_cases e : s = t
      · subst e
        simp (disch := first | decide | exact ad_ne (by decide) | exact ad_m (by decide) | exact ad_l (by decide) | exact ad_g (by decide) | exact ad_lt (by decide) | exact ad_o (by decide) | omega) only [↓ui_s, ↓uj_s, ↓ui_o, ↓ui_k, ↓uj_o, ↓uj_k, ↓ui_j, ↓uj_i, ui_s, uj_s, ui_o, ui_k, uj_o, uj_k, ui_j, uj_i]
        rw [R.lz s h0]
        exact (sm_up9 hk (fun j hj hn => by simp (disch := first | decide | exact ad_ne (by decide) | exact ad_m (by decide) | exact ad_l (by decide) | exact ad_g (by decide) | exact ad_lt (by decide) | exact ad_o (by decide) | omega) only [↓ui_s, ↓uj_s, ↓ui_o, ↓ui_k, ↓uj_o, ↓uj_k, ↓ui_j, ↓uj_i, ui_s, uj_s, ui_o, ui_k, uj_o, uj_k, ui_j, uj_i]) (by simp (disch := first | decide | exact ad_ne (by decide) | exact ad_m (by decide) | exact ad_l (by decide) | exact ad_g (by decide) | exact ad_lt (by decide) | exact ad_o (by decide) | omega) only [↓ui_s, ↓uj_s, ↓ui_o, ↓ui_k, ↓uj_o, ↓uj_k, ↓ui_j, ↓uj_i, ui_s, uj_s, ui_o, ui_k, uj_o, uj_k, ui_j, uj_i])).symm
      · simp (disch := first | decide | exact ad_ne (by decide) | exact ad_m (by decide) | exact ad_l (by decide) | exact ad_g (by decide) | exact ad_lt (by decide) | exact ad_o (by decide) | omega) only [↓ui_s, ↓uj_s, ↓ui_o, ↓ui_k, ↓uj_o, ↓uj_k, ↓ui_j, ↓uj_i, ui_s, uj_s, ui_o, ui_k, uj_o, uj_k, ui_j, uj_i]
        rw [R.lz s h0]
        exact sm_cg (fun j hj => by simp (disch := first | decide | exact ad_ne (by decide) | exact ad_m (by decide) | exact ad_l (by decide) | exact ad_g (by decide) | exact ad_lt (by decide) | exact ad_o (by decide) | omega) only [↓ui_s, ↓uj_s, ↓ui_o, ↓ui_k, ↓uj_o, ↓uj_k, ↓ui_j, ↓uj_i, ui_s, uj_s, ui_o, ui_k, uj_o, uj_k, ui_j, uj_i])), fun s i h0 h1 => by simp (disch := first | decide | exact ad_ne (by decide) | exact ad_m (by decide) | exact ad_l (by decide) | exact ad_g (by decide) | exact ad_lt (by decide) | exact ad_o (by decide) | omega) only [↓ui_s, ↓uj_s, ↓ui_o, ↓ui_k, ↓uj_o, ↓uj_k, ↓ui_j, ↓uj_i, ui_s, uj_s, ui_o, ui_k, uj_o, uj_k, ui_j, uj_i] at h1 ⊢; exact R.sv s i h0 h1, (fun s h0 => by
      by_cases e : s = t
      · subst e
        simp (disch := first | decide | exact ad_ne (by decide) | exact ad_m (by decide) | exact ad_l (by decide) | exact ad_g (by decide) | exact ad_lt (by decide) | exact ad_o (by decide) | omega) only [↓ui_s, ↓uj_s, ↓ui_o, ↓ui_k, ↓uj_o, ↓uj_k, ↓ui_j, ↓uj_i, ui_s, uj_s, ui_o, ui_k, uj_o, uj_k, ui_j, uj_i]
        rw [R.tk s h0]
        exact tk_add hk e66 (by omega) (fun i hi => by simp (disch := first | decide | exact ad_ne (by decide) | exact ad_m (by decide) | exact ad_l (by decide) | exact ad_g (by decide) | exact ad_lt (by decide) | exact ad_o (by decide) | omega) only [↓ui_s, ↓uj_s, ↓ui_o, ↓ui_k, ↓uj_o, ↓uj_k, ↓ui_j, ↓uj_i, ui_s, uj_s, ui_o, ui_k, uj_o, uj_k, ui_j, uj_i]) (by simp (disch := first | decide | exact ad_ne (by decide) | exact ad_m (by decide) | exact ad_l (by decide) | exact ad_g (by decide) | exact ad_lt (by decide) | exact ad_o (by decide) | omega) only [↓ui_s, ↓uj_s, ↓ui_o, ↓ui_k, ↓uj_o, ↓uj_k, ↓ui_j, ↓uj_i, ui_s, uj_s, ui_o, ui_k, uj_o, uj_k, ui_j, uj_i]) (by simp (disch := first | decide | exact ad_ne (by decide) | exact ad_m (by decide) | exact ad_l (by decide) | exact ad_g (by decide) | exact ad_lt (by decide) | exact ad_o (by decide) | omega) only [↓ui_s, ↓uj_s, ↓ui_o, ↓ui_k, ↓uj_o, ↓uj_k, ↓ui_j, ↓uj_i, ui_s, uj_s, ui_o, ui_k, uj_o, uj_k, ui_j, uj_i])
      · simp (disch := first | decide | exact ad_ne (by decide) | exact ad_m (by decide) | exact ad_l (by decide) | exact ad_g (by decide) | exact ad_lt (by decide) | exact ad_o (by decide) | omega) only [↓ui_s, ↓uj_s, ↓ui_o, ↓ui_k, ↓uj_o, ↓uj_k, ↓ui_j, ↓uj_i, ui_s, uj_s, ui_o, ui_k, uj_o, uj_k, ui_j, uj_i]
        rw [R.tk s h0]
        exact congrArg (fun f => kb f 34) (tkM_cg (R.rb s h0) (fun i hi => by simp (disch := first | decide | exact ad_ne (by decide) | exact ad_m (by decide) | exact ad_l (by decide) | exact ad_g (by decide) | exact ad_lt (by decide) | exact ad_o (by decide) | omega) only [↓ui_s, ↓uj_s, ↓ui_o, ↓ui_k, ↓uj_o, ↓uj_k, ↓ui_j, ↓uj_i, ui_s, uj_s, ui_o, ui_k, uj_o, uj_k, ui_j, uj_i]) (by simp (disch := first | decide | exact ad_ne (by decide) | exact ad_m (by decide) | exact ad_l (by decide) | exact ad_g (by decide) | exact ad_lt (by decide) | exact ad_o (by decide) | omega) only [↓ui_s, ↓uj_s, ↓ui_o, ↓ui_k, ↓uj_o, ↓uj_k, ↓ui_j, ↓uj_i, ui_s, uj_s, ui_o, ui_k, uj_o, uj_k, ui_j, uj_i]))), (fun s h0 => by
      by_cases e : s = t
      · subst e; simp (disch := first | decide | exact ad_ne (by decide) | exact ad_m (by decide) | exact ad_l (by decide) | exact ad_g (by decide) | exact ad_lt (by decide) | exact ad_o (by decide) | omega) only [↓ui_s, ↓uj_s, ↓ui_o, ↓ui_k, ↓uj_o, ↓uj_k, ↓ui_j, ↓uj_i, ui_s, uj_s, ui_o, ui_k, uj_o, uj_k, ui_j, uj_i]; rw [nI_clamp (by omega)]; omega
      · simp (disch := first | decide | exact ad_ne (by decide) | exact ad_m (by decide) | exact ad_l (by decide) | exact ad_g (by decide) | exact ad_lt (by decide) | exact ad_o (by decide) | omega) only [↓ui_s, ↓uj_s, ↓ui_o, ↓ui_k, ↓uj_o, ↓uj_k, ↓ui_j, ↓uj_i, ui_s, uj_s, ui_o, ui_k, uj_o, uj_k, ui_j, uj_i]; exact R.rb s h0), (fun s i h0 h1 => by
      by_cases e : s = t
      · subst e
        simp (disch := first | decide | exact ad_ne (by decide) | exact ad_m (by decide) | exact ad_l (by decide) | exact ad_g (by decide) | exact ad_lt (by decide) | exact ad_o (by decide) | omega) only [↓ui_s, ↓uj_s, ↓ui_o, ↓ui_k, ↓uj_o, ↓uj_k, ↓ui_j, ↓uj_i, ui_s, uj_s, ui_o, ui_k, uj_o, uj_k, ui_j, uj_i] at h1
        rw [nI_clamp (by omega)] at h1
        by_cases e2 : i = q
        · subst e2; exact ⟨k, hk, by simp (disch := first | decide | exact ad_ne (by decide) | exact ad_m (by decide) | exact ad_l (by decide) | exact ad_g (by decide) | exact ad_lt (by decide) | exact ad_o (by decide) | omega) only [↓ui_s, ↓uj_s, ↓ui_o, ↓ui_k, ↓uj_o, ↓uj_k, ↓ui_j, ↓uj_i, ui_s, uj_s, ui_o, ui_k, uj_o, uj_k, ui_j, uj_i]⟩
        · obtain ⟨k', a, b⟩ := R.rk s i h0 (by rw [e66, nI_clamp (by omega)]; omega)
          exact ⟨k', a, by simp (disch := first | decide | exact ad_ne (by decide) | exact ad_m (by decide) | exact ad_l (by decide) | exact ad_g (by decide) | exact ad_lt (by decide) | exact ad_o (by decide) | omega) only [↓ui_s, ↓uj_s, ↓ui_o, ↓ui_k, ↓uj_o, ↓uj_k, ↓ui_j, ↓uj_i, ui_s, uj_s, ui_o, ui_k, uj_o, uj_k, ui_j, uj_i]; exact b⟩
      · simp (disch := first | decide | exact ad_ne (by decide) | exact ad_m (by decide) | exact ad_l (by decide) | exact ad_g (by decide) | exact ad_lt (by decide) | exact ad_o (by decide) | omega) only [↓ui_s, ↓uj_s, ↓ui_o, ↓ui_k, ↓uj_o, ↓uj_k, ↓ui_j, ↓uj_i, ui_s, uj_s, ui_o, ui_k, uj_o, uj_k, ui_j, uj_i] at h1
        have hb := R.rb s h0
        simp (disch := first | decide | exact ad_ne (by decide) | exact ad_m (by decide) | exact ad_l (by decide) | exact ad_g (by decide) | exact ad_lt (by decide) | exact ad_o (by decide) | omega) only [↓ui_s, ↓uj_s, ↓ui_o, ↓ui_k, ↓uj_o, ↓uj_k, ↓ui_j, ↓uj_i, ui_s, uj_s, ui_o, ui_k, uj_o, uj_k, ui_j, uj_i]
        exact R.rk s i h0 h1), (by simp (disch := first | decide | exact ad_ne (by decide) | exact ad_m (by decide) | exact ad_l (by decide) | exact ad_g (by decide) | exact ad_lt (by decide) | exact ad_o (by decide) | omega) only [↓ui_s, ↓uj_s, ↓ui_o, ↓ui_k, ↓uj_o, ↓uj_k, ↓ui_j, ↓uj_i, ui_s, uj_s, ui_o, ui_k, uj_o, uj_k, ui_j, uj_i]; exact R.rd), fun s h0 => by simp (disch := first | decide | exact ad_ne (by decide) | exact ad_m (by decide) | exact ad_l (by decide) | exact ad_g (by decide) | exact ad_lt (by decide) | exact ad_o (by decide) | omega) only [↓ui_s, ↓uj_s, ↓ui_o, ↓ui_k, ↓uj_o, ↓uj_k, ↓ui_j, ↓uj_i, ui_s, uj_s, ui_o, ui_k, uj_o, uj_k, ui_j, uj_i]; exact R.bb s h0, fun z => by simp (disch := first | decide | exact ad_ne (by decide) | exact ad_m (by decide) | exact ad_l (by decide) | exact ad_g (by decide) | exact ad_lt (by decide) | exact ad_o (by decide) | omega) only [↓ui_s, ↓uj_s, ↓ui_o, ↓ui_k, ↓uj_o, ↓uj_k, ↓ui_j, ↓uj_i, ui_s, uj_s, ui_o, ui_k, uj_o, uj_k, ui_j, uj_i] at z ⊢; exact R.wp z⟩
noncomputable def dX1 (x : zM) (t k q : Nat) (bv : Int32) : zM := z_ui (z_uj (z_ui (tT (z_ui (z_ui (z_ui (pS x t k (-1)) (18 + 8 * t) 5 bv) (18 + 8 * t) 6 1) (18 + 8 * t) 7 1) t k q) 0 15 (nI k)) 0 18 0) 0 7 2
noncomputable def dY1 (m : zM) (t k q : Nat) (bv : Int32) : zM := z_ui (z_ui (z_ui (z_ui (z_ui (z_ui (z_ui (z_ui (z_giv m t k (-1)) 67 t bv) 65 (136 * t + q) (nI k)) 66 t (nI (q + 1))) 69 t 1) 50 59 1) 50 44 2) 50 49 (nI k)) 50 57 0
theorem rc_discard1 {x m : zM} (R : RCl x m) {t k q : Nat} (ht : t < 4) (hk : k < 34) (hq : q < 86) (e66 : m.1 66 t = nI q) {bv : Int32} (hbv : bv = 1 ∨ bv = 2) : RCl (dX1 x t k q bv) (dY1 m t k q bv) := by
  have e2 : x.1 (18 + 8 * t) 2 = nI q := (R.ds t ht).trans e66
  unfold dX1 dY1 tT pS z_giv
  exact ⟨(by simp (disch := first | decide | exact ad_ne (by decide) | exact ad_m (by decide) | exact ad_l (by decide) | exact ad_g (by decide) | exact ad_lt (by decide) | exact ad_o (by decide) | omega) only [↓ui_s, ↓uj_s, ↓ui_o, ↓ui_k, ↓uj_o, ↓uj_k, ↓ui_j, ↓uj_i, ui_s, uj_s, ui_o, ui_k, uj_o, uj_k, ui_j, uj_i]; exact R.dl), (by simp (disch := first | decide | exact ad_ne (by decide) | exact ad_m (by decide) | exact ad_l (by decide) | exact ad_g (by decide) | exact ad_lt (by decide) | exact ad_o (by decide) | omega) only [↓ui_s, ↓uj_s, ↓ui_o, ↓ui_k, ↓uj_o, ↓uj_k, ↓ui_j, ↓uj_i, ui_s, uj_s, ui_o, ui_k, uj_o, uj_k, ui_j, uj_i]; exact R.rn), (by simp (disch := first | decide | exact ad_ne (by decide) | exact ad_m (by decide) | exact ad_l (by decide) | exact ad_g (by decide) | exact ad_lt (by decide) | exact ad_o (by decide) | omega) only [↓ui_s, ↓uj_s, ↓ui_o, ↓ui_k, ↓uj_o, ↓uj_k, ↓ui_j, ↓uj_i, ui_s, uj_s, ui_o, ui_k, uj_o, uj_k, ui_j, uj_i]; exact R.st), (by simp (disch := first | decide | exact ad_ne (by decide) | exact ad_m (by decide) | exact ad_l (by decide) | exact ad_g (by decide) | exact ad_lt (by decide) | exact ad_o (by decide) | omega) only [↓ui_s, ↓uj_s, ↓ui_o, ↓ui_k, ↓uj_o, ↓uj_k, ↓ui_j, ↓uj_i, ui_s, uj_s, ui_o, ui_k, uj_o, uj_k, ui_j, uj_i]; exact R.bt), (by simp (disch := first | decide | exact ad_ne (by decide) | exact ad_m (by decide) | exact ad_l (by decide) | exact ad_g (by decide) | exact ad_lt (by decide) | exact ad_o (by decide) | omega) only [↓ui_s, ↓uj_s, ↓ui_o, ↓ui_k, ↓uj_o, ↓uj_k, ↓ui_j, ↓uj_i, ui_s, uj_s, ui_o, ui_k, uj_o, uj_k, ui_j, uj_i]; exact R.en), (by simp (disch := first | decide | exact ad_ne (by decide) | exact ad_m (by decide) | exact ad_l (by decide) | exact ad_g (by decide) | exact ad_lt (by decide) | exact ad_o (by decide) | omega) only [↓ui_s, ↓uj_s, ↓ui_o, ↓ui_k, ↓uj_o, ↓uj_k, ↓ui_j, ↓uj_i, ui_s, uj_s, ui_o, ui_k, uj_o, uj_k, ui_j, uj_i]; exact R.he), (by simp (disch := first | decide | exact ad_ne (by decide) | exact ad_m (by decide) | exact ad_l (by decide) | exact ad_g (by decide) | exact ad_lt (by decide) | exact ad_o (by decide) | omega) only [↓ui_s, ↓uj_s, ↓ui_o, ↓ui_k, ↓uj_o, ↓uj_k, ↓ui_j, ↓uj_i, ui_s, uj_s, ui_o, ui_k, uj_o, uj_k, ui_j, uj_i]; exact R.wc), (by simp (disch := first | decide | exact ad_ne (by decide) | exact ad_m (by decide) | exact ad_l (by decide) | exact ad_g (by decide) | exact ad_lt (by decide) | exact ad_o (by decide) | omega) only [↓ui_s, ↓uj_s, ↓ui_o, ↓ui_k, ↓uj_o, ↓uj_k, ↓ui_j, ↓uj_i, ui_s, uj_s, ui_o, ui_k, uj_o, uj_k, ui_j, uj_i]; exact R.sd), (by simp (disch := first | decide | exact ad_ne (by decide) | exact ad_m (by decide) | exact ad_l (by decide) | exact ad_g (by decide) | exact ad_lt (by decide) | exact ad_o (by decide) | omega) only [↓ui_s, ↓uj_s, ↓ui_o, ↓ui_k, ↓uj_o, ↓uj_k, ↓ui_j, ↓uj_i, ui_s, uj_s, ui_o, ui_k, uj_o, uj_k, ui_j, uj_i]; exact R.nx), fun i h0 => by simp (disch := first | decide | exact ad_ne (by decide) | exact ad_m (by decide) | exact ad_l (by decide) | exact ad_g (by decide) | exact ad_lt (by decide) | exact ad_o (by decide) | omega) only [↓ui_s, ↓uj_s, ↓ui_o, ↓ui_k, ↓uj_o, ↓uj_k, ↓ui_j, ↓uj_i, ui_s, uj_s, ui_o, ui_k, uj_o, uj_k, ui_j, uj_i]; exact R.wl i h0, fun s h0 => by simp (disch := first | decide | exact ad_ne (by decide) | exact ad_m (by decide) | exact ad_l (by decide) | exact ad_g (by decide) | exact ad_lt (by decide) | exact ad_o (by decide) | omega) only [↓ui_s, ↓uj_s, ↓ui_o, ↓ui_k, ↓uj_o, ↓uj_k, ↓ui_j, ↓uj_i, ui_s, uj_s, ui_o, ui_k, uj_o, uj_k, ui_j, uj_i]; exact R.pt s h0, (fun s h0 => by
      by_cases e : s = t
      · subst e; simp (disch := first | decide | exact ad_ne (by decide) | exact ad_m (by decide) | exact ad_l (by decide) | exact ad_g (by decide) | exact ad_lt (by decide) | exact ad_o (by decide) | omega) only [↓ui_s, ↓uj_s, ↓ui_o, ↓ui_k, ↓uj_o, ↓uj_k, ↓ui_j, ↓uj_i, ui_s, uj_s, ui_o, ui_k, uj_o, uj_k, ui_j, uj_i]
      · simp (disch := first | decide | exact ad_ne (by decide) | exact ad_m (by decide) | exact ad_l (by decide) | exact ad_g (by decide) | exact ad_lt (by decide) | exact ad_o (by decide) | omega) only [↓ui_s, ↓uj_s, ↓ui_o, ↓ui_k, ↓uj_o, ↓uj_k, ↓ui_j, ↓uj_i, ui_s, uj_s, ui_o, ui_k, uj_o, uj_k, ui_j, uj_i]; exact R.be s h0), (fun s h0 => by
      by_cases e : s = t
      · subst e; simp (disch := first | decide | exact ad_ne (by decide) | exact ad_m (by decide) | exact ad_l (by decide) | exact ad_g (by decide) | exact ad_lt (by decide) | exact ad_o (by decide) | omega) only [↓ui_s, ↓uj_s, ↓ui_o, ↓ui_k, ↓uj_o, ↓uj_k, ↓ui_j, ↓uj_i, ui_s, uj_s, ui_o, ui_k, uj_o, uj_k, ui_j, uj_i]
      · simp (disch := first | decide | exact ad_ne (by decide) | exact ad_m (by decide) | exact ad_l (by decide) | exact ad_g (by decide) | exact ad_lt (by decide) | exact ad_o (by decide) | omega) only [↓ui_s, ↓uj_s, ↓ui_o, ↓ui_k, ↓uj_o, ↓uj_k, ↓ui_j, ↓uj_i, ui_s, uj_s, ui_o, ui_k, uj_o, uj_k, ui_j, uj_i]; exact R.ao s h0), fun s h0 => by simp (disch := first | decide | exact ad_ne (by decide) | exact ad_m (by decide) | exact ad_l (by decide) | exact ad_g (by decide) | exact ad_lt (by decide) | exact ad_o (by decide) | omega) only [↓ui_s, ↓uj_s, ↓ui_o, ↓ui_k, ↓uj_o, ↓uj_k, ↓ui_j, ↓uj_i, ui_s, uj_s, ui_o, ui_k, uj_o, uj_k, ui_j, uj_i]; exact R.lg s h0, fun s h0 => by simp (disch := first | decide | exact ad_ne (by decide) | exact ad_m (by decide) | exact ad_l (by decide) | exact ad_g (by decide) | exact ad_lt (by decide) | exact ad_o (by decide) | omega) only [↓ui_s, ↓uj_s, ↓ui_o, ↓ui_k, ↓uj_o, ↓uj_k, ↓ui_j, ↓uj_i, ui_s, uj_s, ui_o, ui_k, uj_o, uj_k, ui_j, uj_i]; exact R.sy s h0, (fun s h0 => by
      by_cases e : s = t
      · subst e; simp (disch := first | decide | exact ad_ne (by decide) | exact ad_m (by decide) | exact ad_l (by decide) | exact ad_g (by decide) | exact ad_lt (by decide) | exact ad_o (by decide) | omega) only [↓ui_s, ↓uj_s, ↓ui_o, ↓ui_k, ↓uj_o, ↓uj_k, ↓ui_j, ↓uj_i, ui_s, uj_s, ui_o, ui_k, uj_o, uj_k, ui_j, uj_i]
      · simp (disch := first | decide | exact ad_ne (by decide) | exact ad_m (by decide) | exact ad_l (by decide) | exact ad_g (by decide) | exact ad_lt (by decide) | exact ad_o (by decide) | omega) only [↓ui_s, ↓uj_s, ↓ui_o, ↓ui_k, ↓uj_o, ↓uj_k, ↓ui_j, ↓uj_i, ui_s, uj_s, ui_o, ui_k, uj_o, uj_k, ui_j, uj_i]; exact R.ds s h0), fun s h0 => by simp (disch := first | decide | exact ad_ne (by decide) | exact ad_m (by decide) | exact ad_l (by decide) | exact ad_g (by decide) | exact ad_lt (by decide) | exact ad_o (by decide) | omega) only [↓ui_s, ↓uj_s, ↓ui_o, ↓ui_k, ↓uj_o, ↓uj_k, ↓ui_j, ↓uj_i, ui_s, uj_s, ui_o, ui_k, uj_o, uj_k, ui_j, uj_i]; exact R.lm s h0, (fun s k2 h0 h1 => by
      by_cases e : s = t
      · subst e
        by_cases e2 : k2 = k
        · subst e2; simp (disch := first | decide | exact ad_ne (by decide) | exact ad_m (by decide) | exact ad_l (by decide) | exact ad_g (by decide) | exact ad_lt (by decide) | exact ad_o (by decide) | omega) only [↓ui_s, ↓uj_s, ↓ui_o, ↓ui_k, ↓uj_o, ↓uj_k, ↓ui_j, ↓uj_i, ui_s, uj_s, ui_o, ui_k, uj_o, uj_k, ui_j, uj_i]; rw [R.hd s k2 h0 h1]
        · simp (disch := first | decide | exact ad_ne (by decide) | exact ad_m (by decide) | exact ad_l (by decide) | exact ad_g (by decide) | exact ad_lt (by decide) | exact ad_o (by decide) | omega) only [↓ui_s, ↓uj_s, ↓ui_o, ↓ui_k, ↓uj_o, ↓uj_k, ↓ui_j, ↓uj_i, ui_s, uj_s, ui_o, ui_k, uj_o, uj_k, ui_j, uj_i]; exact R.hd s k2 h0 h1
      · simp (disch := first | decide | exact ad_ne (by decide) | exact ad_m (by decide) | exact ad_l (by decide) | exact ad_g (by decide) | exact ad_lt (by decide) | exact ad_o (by decide) | omega) only [↓ui_s, ↓uj_s, ↓ui_o, ↓ui_k, ↓uj_o, ↓uj_k, ↓ui_j, ↓uj_i, ui_s, uj_s, ui_o, ui_k, uj_o, uj_k, ui_j, uj_i]; exact R.hd s k2 h0 h1), fun s i h0 h1 => by simp (disch := first | decide | exact ad_ne (by decide) | exact ad_m (by decide) | exact ad_l (by decide) | exact ad_g (by decide) | exact ad_lt (by decide) | exact ad_o (by decide) | omega) only [↓ui_s, ↓uj_s, ↓ui_o, ↓ui_k, ↓uj_o, ↓uj_k, ↓ui_j, ↓uj_i, ui_s, uj_s, ui_o, ui_k, uj_o, uj_k, ui_j, uj_i]; exact R.so s i h0 h1, fun s i h0 h1 => by simp (disch := first | decide | exact ad_ne (by decide) | exact ad_m (by decide) | exact ad_l (by decide) | exact ad_g (by decide) | exact ad_lt (by decide) | exact ad_o (by decide) | omega) only [↓ui_s, ↓uj_s, ↓ui_o, ↓ui_k, ↓uj_o, ↓uj_k, ↓ui_j, ↓uj_i, ui_s, uj_s, ui_o, ui_k, uj_o, uj_k, ui_j, uj_i]; exact R.lo s i h0 h1, (fun s i h0 h1 => by
      by_cases e : s = t
      · subst e
        by_cases e2 : i = q
        · subst e2; simp (disch := first | decide | exact ad_ne (by decide) | exact ad_m (by decide) | exact ad_l (by decide) | exact ad_g (by decide) | exact ad_lt (by decide) | exact ad_o (by decide) | omega) only [↓ui_s, ↓uj_s, ↓ui_o, ↓ui_k, ↓uj_o, ↓uj_k, ↓ui_j, ↓uj_i, ui_s, uj_s, ui_o, ui_k, uj_o, uj_k, ui_j, uj_i]
        · simp (disch := first | decide | exact ad_ne (by decide) | exact ad_m (by decide) | exact ad_l (by decide) | exact ad_g (by decide) | exact ad_lt (by decide) | exact ad_o (by decide) | omega) only [↓ui_s, ↓uj_s, ↓ui_o, ↓ui_k, ↓uj_o, ↓uj_k, ↓ui_j, ↓uj_i, ui_s, uj_s, ui_o, ui_k, uj_o, uj_k, ui_j, uj_i]; exact R.rv s i h0 h1
      · simp (disch := first | decide | exact ad_ne (by decide) | exact ad_m (by decide) | exact ad_l (by decide) | exact ad_g (by decide) | exact ad_lt (by decide) | exact ad_o (by decide) | omega) only [↓ui_s, ↓uj_s, ↓ui_o, ↓ui_k, ↓uj_o, ↓uj_k, ↓ui_j, ↓uj_i, ui_s, uj_s, ui_o, ui_k, uj_o, uj_k, ui_j, uj_i]; exact R.rv s i h0 h1), fun i f h0 h1 h2 => by simp (disch := first | decide | exact ad_ne (by decide) | exact ad_m (by decide) | exact ad_l (by decide) | exact ad_g (by decide) | exact ad_lt (by decide) | exact ad_o (by decide) | omega) only [↓ui_s, ↓uj_s, ↓ui_o, ↓ui_k, ↓uj_o, ↓uj_k, ↓ui_j, ↓uj_i, ui_s, uj_s, ui_o, ui_k, uj_o, uj_k, ui_j, uj_i]; exact R.wi i f h0 h1 h2, fun i h0 => by simp (disch := first | decide | exact ad_ne (by decide) | exact ad_m (by decide) | exact ad_l (by decide) | exact ad_g (by decide) | exact ad_lt (by decide) | exact ad_o (by decide) | omega) only [↓ui_s, ↓uj_s, ↓ui_o, ↓ui_k, ↓uj_o, ↓uj_k, ↓ui_j, ↓uj_i, ui_s, uj_s, ui_o, ui_k, uj_o, uj_k, ui_j, uj_i]; exact R.wf i h0, (fun s k2 h0 h1 => by
      by_cases e : s = t
      · subst e
        by_cases e2 : k2 = k
        · subst e2; simp (disch := first | decide | exact ad_ne (by decide) | exact ad_m (by decide) | exact ad_l (by decide) | exact ad_g (by decide) | exact ad_lt (by decide) | exact ad_o (by decide) | omega) only [↓ui_s, ↓uj_s, ↓ui_o, ↓ui_k, ↓uj_o, ↓uj_k, ↓ui_j, ↓uj_i, ui_s, uj_s, ui_o, ui_k, uj_o, uj_k, ui_j, uj_i]; rw [ofv_add]; exact congrArg (· + (-1)) (R.al s k2 h0 h1)
        · simp (disch := first | decide | exact ad_ne (by decide) | exact ad_m (by decide) | exact ad_l (by decide) | exact ad_g (by decide) | exact ad_lt (by decide) | exact ad_o (by decide) | omega) only [↓ui_s, ↓uj_s, ↓ui_o, ↓ui_k, ↓uj_o, ↓uj_k, ↓ui_j, ↓uj_i, ui_s, uj_s, ui_o, ui_k, uj_o, uj_k, ui_j, uj_i]; exact R.al s k2 h0 h1
      · simp (disch := first | decide | exact ad_ne (by decide) | exact ad_m (by decide) | exact ad_l (by decide) | exact ad_g (by decide) | exact ad_lt (by decide) | exact ad_o (by decide) | omega) only [↓ui_s, ↓uj_s, ↓ui_o, ↓ui_k, ↓uj_o, ↓uj_k, ↓ui_j, ↓uj_i, ui_s, uj_s, ui_o, ui_k, uj_o, uj_k, ui_j, uj_i]; exact R.al s k2 h0 h1), (fun s h0 => by
      by_cases e : s = t
      · subst e
        simp (disch := first | decide | exact ad_ne (by decide) | exact ad_m (by decide) | exact ad_l (by decide) | exact ad_g (by decide) | exact ad_lt (by decide) | exact ad_o (by decide) | omega) only [↓ui_s, ↓uj_s, ↓ui_o, ↓ui_k, ↓uj_o, ↓uj_k, ↓ui_j, ↓uj_i, ui_s, uj_s, ui_o, ui_k, uj_o, uj_k, ui_j, uj_i]
        rw [R.lz s h0]
        exact (sm_up9 hk (fun j hj hn => by simp (disch := first | decide | exact ad_ne (by decide) | exact ad_m (by decide) | exact ad_l (by decide) | exact ad_g (by decide) | exact ad_lt (by decide) | exact ad_o (by decide) | omega) only [↓ui_s, ↓uj_s, ↓ui_o, ↓ui_k, ↓uj_o, ↓uj_k, ↓ui_j, ↓uj_i, ui_s, uj_s, ui_o, ui_k, uj_o, uj_k, ui_j, uj_i]) (by simp (disch := first | decide | exact ad_ne (by decide) | exact ad_m (by decide) | exact ad_l (by decide) | exact ad_g (by decide) | exact ad_lt (by decide) | exact ad_o (by decide) | omega) only [↓ui_s, ↓uj_s, ↓ui_o, ↓ui_k, ↓uj_o, ↓uj_k, ↓ui_j, ↓uj_i, ui_s, uj_s, ui_o, ui_k, uj_o, uj_k, ui_j, uj_i])).symm
      · simp (disch := first | decide | exact ad_ne (by decide) | exact ad_m (by decide) | exact ad_l (by decide) | exact ad_g (by decide) | exact ad_lt (by decide) | exact ad_o (by decide) | omega) only [↓ui_s, ↓uj_s, ↓ui_o, ↓ui_k, ↓uj_o, ↓uj_k, ↓ui_j, ↓uj_i, ui_s, uj_s, ui_o, ui_k, uj_o, uj_k, ui_j, uj_i]
        rw [R.lz s h0]
        exact sm_cg (fun j hj => by simp (disch := first | decide | exact ad_ne (by decide) | exact ad_m (by decide) | exact ad_l (by decide) | exact ad_g (by decide) | exact ad_lt (by decide) | exact ad_o (by decide) | omega) only [↓ui_s, ↓uj_s, ↓ui_o, ↓ui_k, ↓uj_o, ↓uj_k, ↓ui_j, ↓uj_i, ui_s, uj_s, ui_o, ui_k, uj_o, uj_k, ui_j, uj_i])), fun s i h0 h1 => by simp (disch := first | decide | exact ad_ne (by decide) | exact ad_m (by decide) | exact ad_l (by decide) | exact ad_g (by decide) | exact ad_lt (by decide) | exact ad_o (by decide) | omega) only [↓ui_s, ↓uj_s, ↓ui_o, ↓ui_k, ↓uj_o, ↓uj_k, ↓ui_j, ↓uj_i, ui_s, uj_s, ui_o, ui_k, uj_o, uj_k, ui_j, uj_i] at h1 ⊢; exact R.sv s i h0 h1, (fun s h0 => by
      by_cases e : s = t
      · subst e
        simp (disch := first | decide | exact ad_ne (by decide) | exact ad_m (by decide) | exact ad_l (by decide) | exact ad_g (by decide) | exact ad_lt (by decide) | exact ad_o (by decide) | omega) only [↓ui_s, ↓uj_s, ↓ui_o, ↓ui_k, ↓uj_o, ↓uj_k, ↓ui_j, ↓uj_i, ui_s, uj_s, ui_o, ui_k, uj_o, uj_k, ui_j, uj_i]
        rw [R.tk s h0]
        exact tk_add hk e66 (by omega) (fun i hi => by simp (disch := first | decide | exact ad_ne (by decide) | exact ad_m (by decide) | exact ad_l (by decide) | exact ad_g (by decide) | exact ad_lt (by decide) | exact ad_o (by decide) | omega) only [↓ui_s, ↓uj_s, ↓ui_o, ↓ui_k, ↓uj_o, ↓uj_k, ↓ui_j, ↓uj_i, ui_s, uj_s, ui_o, ui_k, uj_o, uj_k, ui_j, uj_i]) (by simp (disch := first | decide | exact ad_ne (by decide) | exact ad_m (by decide) | exact ad_l (by decide) | exact ad_g (by decide) | exact ad_lt (by decide) | exact ad_o (by decide) | omega) only [↓ui_s, ↓uj_s, ↓ui_o, ↓ui_k, ↓uj_o, ↓uj_k, ↓ui_j, ↓uj_i, ui_s, uj_s, ui_o, ui_k, uj_o, uj_k, ui_j, uj_i]) (by simp (disch := first | decide | exact ad_ne (by decide) | exact ad_m (by decide) | exact ad_l (by decide) | exact ad_g (by decide) | exact ad_lt (by decide) | exact ad_o (by decide) | omega) only [↓ui_s, ↓uj_s, ↓ui_o, ↓ui_k, ↓uj_o, ↓uj_k, ↓ui_j, ↓uj_i, ui_s, uj_s, ui_o, ui_k, uj_o, uj_k, ui_j, uj_i])
      · simp (disch := first | decide | exact ad_ne (by decide) | exact ad_m (by decide) | exact ad_l (by decide) | exact ad_g (by decide) | exact ad_lt (by decide) | exact ad_o (by decide) | omega) only [↓ui_s, ↓uj_s, ↓ui_o, ↓ui_k, ↓uj_o, ↓uj_k, ↓ui_j, ↓uj_i, ui_s, uj_s, ui_o, ui_k, uj_o, uj_k, ui_j, uj_i]
        rw [R.tk s h0]
        exact congrArg (fun f => kb f 34) (tkM_cg (R.rb s h0) (fun i hi => by simp (disch := first | decide | exact ad_ne (by decide) | exact ad_m (by decide) | exact ad_l (by decide) | exact ad_g (by decide) | exact ad_lt (by decide) | exact ad_o (by decide) | omega) only [↓ui_s, ↓uj_s, ↓ui_o, ↓ui_k, ↓uj_o, ↓uj_k, ↓ui_j, ↓uj_i, ui_s, uj_s, ui_o, ui_k, uj_o, uj_k, ui_j, uj_i]) (by simp (disch := first | decide | exact ad_ne (by decide) | exact ad_m (by decide) | exact ad_l (by decide) | exact ad_g (by decide) | exact ad_lt (by decide) | exact ad_o (by decide) | omega) only [↓ui_s, ↓uj_s, ↓ui_o, ↓ui_k, ↓uj_o, ↓uj_k, ↓ui_j, ↓uj_i, ui_s, uj_s, ui_o, ui_k, uj_o, uj_k, ui_j, uj_i]))), (fun s h0 => by
      by_cases e : s = t
      · subst e; simp (disch := first | decide | exact ad_ne (by decide) | exact ad_m (by decide) | exact ad_l (by decide) | exact ad_g (by decide) | exact ad_lt (by decide) | exact ad_o (by decide) | omega) only [↓ui_s, ↓uj_s, ↓ui_o, ↓ui_k, ↓uj_o, ↓uj_k, ↓ui_j, ↓uj_i, ui_s, uj_s, ui_o, ui_k, uj_o, uj_k, ui_j, uj_i]; rw [nI_clamp (by omega)]; omega
      · simp (disch := first | decide | exact ad_ne (by decide) | exact ad_m (by decide) | exact ad_l (by decide) | exact ad_g (by decide) | exact ad_lt (by decide) | exact ad_o (by decide) | omega) only [↓ui_s, ↓uj_s, ↓ui_o, ↓ui_k, ↓uj_o, ↓uj_k, ↓ui_j, ↓uj_i, ui_s, uj_s, ui_o, ui_k, uj_o, uj_k, ui_j, uj_i]; exact R.rb s h0), (fun s i h0 h1 => by
      by_cases e : s = t
      · subst e
        simp (disch := first | decide | exact ad_ne (by decide) | exact ad_m (by decide) | exact ad_l (by decide) | exact ad_g (by decide) | exact ad_lt (by decide) | exact ad_o (by decide) | omega) only [↓ui_s, ↓uj_s, ↓ui_o, ↓ui_k, ↓uj_o, ↓uj_k, ↓ui_j, ↓uj_i, ui_s, uj_s, ui_o, ui_k, uj_o, uj_k, ui_j, uj_i] at h1
        rw [nI_clamp (by omega)] at h1
        by_cases e2 : i = q
        · subst e2; exact ⟨k, hk, by simp (disch := first | decide | exact ad_ne (by decide) | exact ad_m (by decide) | exact ad_l (by decide) | exact ad_g (by decide) | exact ad_lt (by decide) | exact ad_o (by decide) | omega) only [↓ui_s, ↓uj_s, ↓ui_o, ↓ui_k, ↓uj_o, ↓uj_k, ↓ui_j, ↓uj_i, ui_s, uj_s, ui_o, ui_k, uj_o, uj_k, ui_j, uj_i]⟩
        · obtain ⟨k', a, b⟩ := R.rk s i h0 (by rw [e66, nI_clamp (by omega)]; omega)
          exact ⟨k', a, by simp (disch := first | decide | exact ad_ne (by decide) | exact ad_m (by decide) | exact ad_l (by decide) | exact ad_g (by decide) | exact ad_lt (by decide) | exact ad_o (by decide) | omega) only [↓ui_s, ↓uj_s, ↓ui_o, ↓ui_k, ↓uj_o, ↓uj_k, ↓ui_j, ↓uj_i, ui_s, uj_s, ui_o, ui_k, uj_o, uj_k, ui_j, uj_i]; exact b⟩
      · simp (disch := first | decide | exact ad_ne (by decide) | exact ad_m (by decide) | exact ad_l (by decide) | exact ad_g (by decide) | exact ad_lt (by decide) | exact ad_o (by decide) | omega) only [↓ui_s, ↓uj_s, ↓ui_o, ↓ui_k, ↓uj_o, ↓uj_k, ↓ui_j, ↓uj_i, ui_s, uj_s, ui_o, ui_k, uj_o, uj_k, ui_j, uj_i] at h1
        have hb := R.rb s h0
        simp (disch := first | decide | exact ad_ne (by decide) | exact ad_m (by decide) | exact ad_l (by decide) | exact ad_g (by decide) | exact ad_lt (by decide) | exact ad_o (by decide) | omega) only [↓ui_s, ↓uj_s, ↓ui_o, ↓ui_k, ↓uj_o, ↓uj_k, ↓ui_j, ↓uj_i, ui_s, uj_s, ui_o, ui_k, uj_o, uj_k, ui_j, uj_i]
        exact R.rk s i h0 h1), (by simp (disch := first | decide | exact ad_ne (by decide) | exact ad_m (by decide) | exact ad_l (by decide) | exact ad_g (by decide) | exact ad_lt (by decide) | exact ad_o (by decide) | omega) only [↓ui_s, ↓uj_s, ↓ui_o, ↓ui_k, ↓uj_o, ↓uj_k, ↓ui_j, ↓uj_i, ui_s, uj_s, ui_o, ui_k, uj_o, uj_k, ui_j, uj_i]; exact R.rd), (fun s h0 => by
      by_cases e : s = t
      · subst e; simp (disch := first | decide | exact ad_ne (by decide) | exact ad_m (by decide) | exact ad_l (by decide) | exact ad_g (by decide) | exact ad_lt (by decide) | exact ad_o (by decide) | omega) only [↓ui_s, ↓uj_s, ↓ui_o, ↓ui_k, ↓uj_o, ↓uj_k, ↓ui_j, ↓uj_i, ui_s, uj_s, ui_o, ui_k, uj_o, uj_k, ui_j, uj_i]; exact Or.inr hbv
      · simp (disch := first | decide | exact ad_ne (by decide) | exact ad_m (by decide) | exact ad_l (by decide) | exact ad_g (by decide) | exact ad_lt (by decide) | exact ad_o (by decide) | omega) only [↓ui_s, ↓uj_s, ↓ui_o, ↓ui_k, ↓uj_o, ↓uj_k, ↓ui_j, ↓uj_i, ui_s, uj_s, ui_o, ui_k, uj_o, uj_k, ui_j, uj_i]; exact R.bb s h0), fun z => by simp (disch := first | decide | exact ad_ne (by decide) | exact ad_m (by decide) | exact ad_l (by decide) | exact ad_g (by decide) | exact ad_lt (by decide) | exact ad_o (by decide) | omega) only [↓ui_s, ↓uj_s, ↓ui_o, ↓ui_k, ↓uj_o, ↓uj_k, ↓ui_j, ↓uj_i, ui_s, uj_s, ui_o, ui_k, uj_o, uj_k, ui_j, uj_i] at z ⊢; exact R.wp z⟩
/-! the relation is kept: discard, the hand -/
set_option maxRecDepth 8000
/-- one SEAT has one tile more or less -/
theorem sum4 {a b : Nat → Nat} {t : Nat} (ht : t < 4) (h : ∀ s, s < 4 → s ≠ t → b s = a s) : b 0 + b 1 + b 2 + b 3 + a t = a 0 + a 1 + a 2 + a 3 + b t := by
  obtain rfl | rfl | rfl | rfl : t = 0 ∨ t = 1 ∨ t = 2 ∨ t = 3 := by omega
  · rw [h 1 (by omega) (by omega), h 2 (by omega) (by omega), h 3 (by omega) (by omega)]; omega
  · rw [h 0 (by omega) (by omega), h 2 (by omega) (by omega), h 3 (by omega) (by omega)]; omega
  · rw [h 0 (by omega) (by omega), h 1 (by omega) (by omega), h 3 (by omega) (by omega)]; omega
  · rw [h 0 (by omega) (by omega), h 1 (by omega) (by omega), h 2 (by omega) (by omega)]; omega
theorem fW_cg {m m' : zM} (h : ∀ i, m'.1 59 i = m.1 59 i) : fW m' = fW m := funext h
theorem nI_m9 {n : Nat} (h : 1 ≤ n) : nI n + -1 = nI (n - 1) := by
  obtain ⟨k, rfl⟩ : ∃ k, n = k + 1 := ⟨n - 1, by omega⟩
  rw [nI_m1]; rfl
theorem rp_discard0 {x m : zM} {t k q c : Nat} (P : RPh x m 1 t c) (hk : k < 34) (hq : q < 86) (e66 : m.1 66 t = nI q) (ha : ¬ x.1 (21 + 8 * t) k = 0) : RPh (dX0 x t k q) (dY0 m t k q) 2 t k := by
  have ht := P.t4
  have hne : ¬ k = 34 := by omega
  unfold dX0 dY0 tT pS z_giv
  exact ⟨(by simp (disch := first | decide | exact ad_ne (by decide) | exact ad_m (by decide) | exact ad_l (by decide) | exact ad_g (by decide) | exact ad_lt (by decide) | exact ad_o (by decide) | omega) only [↓ui_s, ↓uj_s, ↓ui_o, ↓ui_k, ↓uj_o, ↓uj_k, ↓ui_j, ↓uj_i, ui_s, uj_s, ui_o, ui_k, uj_o, uj_k, ui_j, uj_i]; exact P.fo), (by simp (disch := first | decide | exact ad_ne (by decide) | exact ad_m (by decide) | exact ad_l (by decide) | exact ad_g (by decide) | exact ad_lt (by decide) | exact ad_o (by decide) | omega) only [↓ui_s, ↓uj_s, ↓ui_o, ↓ui_k, ↓uj_o, ↓uj_k, ↓ui_j, ↓uj_i, ui_s, uj_s, ui_o, ui_k, uj_o, uj_k, ui_j, uj_i]; rfl), (by simp (disch := first | decide | exact ad_ne (by decide) | exact ad_m (by decide) | exact ad_l (by decide) | exact ad_g (by decide) | exact ad_lt (by decide) | exact ad_o (by decide) | omega) only [↓ui_s, ↓uj_s, ↓ui_o, ↓ui_k, ↓uj_o, ↓uj_k, ↓ui_j, ↓uj_i, ui_s, uj_s, ui_o, ui_k, uj_o, uj_k, ui_j, uj_i]; rfl), (by simp (disch := first | decide | exact ad_ne (by decide) | exact ad_m (by decide) | exact ad_l (by decide) | exact ad_g (by decide) | exact ad_lt (by decide) | exact ad_o (by decide) | omega) only [↓ui_s, ↓uj_s, ↓ui_o, ↓ui_k, ↓uj_o, ↓uj_k, ↓ui_j, ↓uj_i, ui_s, uj_s, ui_o, ui_k, uj_o, uj_k, ui_j, uj_i]; exact P.tx), (by simp (disch := first | decide | exact ad_ne (by decide) | exact ad_m (by decide) | exact ad_l (by decide) | exact ad_g (by decide) | exact ad_lt (by decide) | exact ad_o (by decide) | omega) only [↓ui_s, ↓uj_s, ↓ui_o, ↓ui_k, ↓uj_o, ↓uj_k, ↓ui_j, ↓uj_i, ui_s, uj_s, ui_o, ui_k, uj_o, uj_k, ui_j, uj_i]; exact P.tm), ht, Or.inr (Or.inl rfl), (by simp (disch := first | decide | exact ad_ne (by decide) | exact ad_m (by decide) | exact ad_l (by decide) | exact ad_g (by decide) | exact ad_lt (by decide) | exact ad_o (by decide) | omega) only [↓ui_s, ↓uj_s, ↓ui_o, ↓ui_k, ↓uj_o, ↓uj_k, ↓ui_j, ↓uj_i, ui_s, uj_s, ui_o, ui_k, uj_o, uj_k, ui_j, uj_i]; rw [if_neg hne]), (by simp (disch := first | decide | exact ad_ne (by decide) | exact ad_m (by decide) | exact ad_l (by decide) | exact ad_g (by decide) | exact ad_lt (by decide) | exact ad_o (by decide) | omega) only [↓ui_s, ↓uj_s, ↓ui_o, ↓ui_k, ↓uj_o, ↓uj_k, ↓ui_j, ↓uj_i, ui_s, uj_s, ui_o, ui_k, uj_o, uj_k, ui_j, uj_i]; rw [if_neg hne]), Or.inl hk, fun z => absurd z (by decide), (by simp (disch := first | decide | exact ad_ne (by decide) | exact ad_m (by decide) | exact ad_l (by decide) | exact ad_g (by decide) | exact ad_lt (by decide) | exact ad_o (by decide) | omega) only [↓ui_s, ↓uj_s, ↓ui_o, ↓ui_k, ↓uj_o, ↓uj_k, ↓ui_j, ↓uj_i, ui_s, uj_s, ui_o, ui_k, uj_o, uj_k, ui_j, uj_i]; exact P.br), (by simp (disch := first | decide | exact ad_ne (by decide) | exact ad_m (by decide) | exact ad_l (by decide) | exact ad_g (by decide) | exact ad_lt (by decide) | exact ad_o (by decide) | omega) only [↓ui_s, ↓uj_s, ↓ui_o, ↓ui_k, ↓uj_o, ↓uj_k, ↓ui_j, ↓uj_i, ui_s, uj_s, ui_o, ui_k, uj_o, uj_k, ui_j, uj_i]; exact P.us), fun z => absurd z (by decide), fun z => absurd z (by decide), fun z => absurd z (by decide), fun z => absurd z (by decide), fun z => absurd z (by decide), (fun s h0 => by
      by_cases e : s = t
      · subst e; rw [if_pos rfl]; simp (disch := first | decide | exact ad_ne (by decide) | exact ad_m (by decide) | exact ad_l (by decide) | exact ad_g (by decide) | exact ad_lt (by decide) | exact ad_o (by decide) | omega) only [↓ui_s, ↓uj_s, ↓ui_o, ↓ui_k, ↓uj_o, ↓uj_k, ↓ui_j, ↓uj_i, ui_s, uj_s, ui_o, ui_k, uj_o, uj_k, ui_j, uj_i]
      · simp (disch := first | decide | exact ad_ne (by decide) | exact ad_m (by decide) | exact ad_l (by decide) | exact ad_g (by decide) | exact ad_lt (by decide) | exact ad_o (by decide) | omega) only [↓ui_s, ↓uj_s, ↓ui_o, ↓ui_k, ↓uj_o, ↓uj_k, ↓ui_j, ↓uj_i, ui_s, uj_s, ui_o, ui_k, uj_o, uj_k, ui_j, uj_i]; rw [if_neg e]; have z := P.ow s h0; rw [if_neg e] at z; exact z), fun z => absurd rfl z, (by simp (disch := first | decide | exact ad_ne (by decide) | exact ad_m (by decide) | exact ad_l (by decide) | exact ad_g (by decide) | exact ad_lt (by decide) | exact ad_o (by decide) | omega) only [↓ui_s, ↓uj_s, ↓ui_o, ↓ui_k, ↓uj_o, ↓uj_k, ↓ui_j, ↓uj_i, ui_s, uj_s, ui_o, ui_k, uj_o, uj_k, ui_j, uj_i]; exact P.is), (by simp (disch := first | decide | exact ad_ne (by decide) | exact ad_m (by decide) | exact ad_l (by decide) | exact ad_g (by decide) | exact ad_lt (by decide) | exact ad_o (by decide) | omega) only [↓ui_s, ↓uj_s, ↓ui_o, ↓ui_k, ↓uj_o, ↓uj_k, ↓ui_j, ↓uj_i, ui_s, uj_s, ui_o, ui_k, uj_o, uj_k, ui_j, uj_i]; exact P.s0), fun z => absurd z (by decide), (by simp (disch := first | decide | exact ad_ne (by decide) | exact ad_m (by decide) | exact ad_l (by decide) | exact ad_g (by decide) | exact ad_lt (by decide) | exact ad_o (by decide) | omega) only [↓ui_s, ↓uj_s, ↓ui_o, ↓ui_k, ↓uj_o, ↓uj_k, ↓ui_j, ↓uj_i, ui_s, uj_s, ui_o, ui_k, uj_o, uj_k, ui_j, uj_i]; exact P.w0), fun s h0 => by simp (disch := first | decide | exact ad_ne (by decide) | exact ad_m (by decide) | exact ad_l (by decide) | exact ad_g (by decide) | exact ad_lt (by decide) | exact ad_o (by decide) | omega) only [↓ui_s, ↓uj_s, ↓ui_o, ↓ui_k, ↓uj_o, ↓uj_k, ↓ui_j, ↓uj_i, ui_s, uj_s, ui_o, ui_k, uj_o, uj_k, ui_j, uj_i]; exact P.dn s h0, (fun z s h0 => by
      simp (disch := first | decide | exact ad_ne (by decide) | exact ad_m (by decide) | exact ad_l (by decide) | exact ad_g (by decide) | exact ad_lt (by decide) | exact ad_o (by decide) | omega) only [↓ui_s, ↓uj_s, ↓ui_o, ↓ui_k, ↓uj_o, ↓uj_k, ↓ui_j, ↓uj_i, ui_s, uj_s, ui_o, ui_k, uj_o, uj_k, ui_j, uj_i] at z
      have y := P.dr z s h0
      rw [if_neg (by omega)]
      by_cases e : s = t
      · subst e
        rw [if_pos ⟨rfl, rfl⟩] at y
        simp (disch := first | decide | exact ad_ne (by decide) | exact ad_m (by decide) | exact ad_l (by decide) | exact ad_g (by decide) | exact ad_lt (by decide) | exact ad_o (by decide) | omega) only [↓ui_s, ↓uj_s, ↓ui_o, ↓ui_k, ↓uj_o, ↓uj_k, ↓ui_j, ↓uj_i, ui_s, uj_s, ui_o, ui_k, uj_o, uj_k, ui_j, uj_i]
        rw [y, e66, nI_s1]
      · rw [if_neg (by omega)] at y
        simp (disch := first | decide | exact ad_ne (by decide) | exact ad_m (by decide) | exact ad_l (by decide) | exact ad_g (by decide) | exact ad_lt (by decide) | exact ad_o (by decide) | omega) only [↓ui_s, ↓uj_s, ↓ui_o, ↓ui_k, ↓uj_o, ↓uj_k, ↓ui_j, ↓uj_i, ui_s, uj_s, ui_o, ui_k, uj_o, uj_k, ui_j, uj_i]
        exact y), fun _ z => absurd z (by decide), (P.tc.elim fun a z => by
      have h1 : 1 ≤ a t k := Nat.pos_of_ne_zero (fun y => ha (by rw [z.1 t k ht hk, y]; rfl))
      refine ⟨fun s k2 => if s = t ∧ k2 = k then a s k2 - 1 else a s k2, fun s k2 h0 h2 => ?_, fun k2 h2 => ?_⟩
      · by_cases e : s = t
        · subst e
          by_cases e2 : k2 = k
          · subst e2; simp (disch := first | decide | exact ad_ne (by decide) | exact ad_m (by decide) | exact ad_l (by decide) | exact ad_g (by decide) | exact ad_lt (by decide) | exact ad_o (by decide) | omega) only [↓ui_s, ↓uj_s, ↓ui_o, ↓ui_k, ↓uj_o, ↓uj_k, ↓ui_j, ↓uj_i, ui_s, uj_s, ui_o, ui_k, uj_o, uj_k, ui_j, uj_i]; rw [z.1 s k2 h0 h2]; simp only [and_self, if_true]; exact nI_m9 h1
          · simp (disch := first | decide | exact ad_ne (by decide) | exact ad_m (by decide) | exact ad_l (by decide) | exact ad_g (by decide) | exact ad_lt (by decide) | exact ad_o (by decide) | omega) only [↓ui_s, ↓uj_s, ↓ui_o, ↓ui_k, ↓uj_o, ↓uj_k, ↓ui_j, ↓uj_i, ui_s, uj_s, ui_o, ui_k, uj_o, uj_k, ui_j, uj_i]; rw [if_neg (by omega)]; exact z.1 s k2 h0 h2
        · simp (disch := first | decide | exact ad_ne (by decide) | exact ad_m (by decide) | exact ad_l (by decide) | exact ad_g (by decide) | exact ad_lt (by decide) | exact ad_o (by decide) | omega) only [↓ui_s, ↓uj_s, ↓ui_o, ↓ui_k, ↓uj_o, ↓uj_k, ↓ui_j, ↓uj_i, ui_s, uj_s, ui_o, ui_k, uj_o, uj_k, ui_j, uj_i]; rw [if_neg (by omega)]; exact z.1 s k2 h0 h2
      · have y := z.2 k2 h2
        rw [if_neg (by omega)] at y
        rw [fW_cg (m := m) (fun i => by simp (disch := first | decide | exact ad_ne (by decide) | exact ad_m (by decide) | exact ad_l (by decide) | exact ad_g (by decide) | exact ad_lt (by decide) | exact ad_o (by decide) | omega) only [↓ui_s, ↓uj_s, ↓ui_o, ↓ui_k, ↓uj_o, ↓uj_k, ↓ui_j, ↓uj_i, ui_s, uj_s, ui_o, ui_k, uj_o, uj_k, ui_j, uj_i])]
        simp (disch := first | decide | exact ad_ne (by decide) | exact ad_m (by decide) | exact ad_l (by decide) | exact ad_g (by decide) | exact ad_lt (by decide) | exact ad_o (by decide) | omega) only [↓ui_s, ↓uj_s, ↓ui_o, ↓ui_k, ↓uj_o, ↓uj_k, ↓ui_j, ↓uj_i, ui_s, uj_s, ui_o, ui_k, uj_o, uj_k, ui_j, uj_i]
        have w := sum4 (a := fun s => a s k2) (b := fun s => if s = t ∧ k2 = k then a s k2 - 1 else a s k2) ht (fun s _ e => by rw [if_neg (by omega)])
        by_cases e : k2 = k
        · subst e
          simp only [true_and, and_true, if_pos] at w ⊢
          omega
        · have e9 : ¬ k = k2 := fun q => e q.symm
          simp only [e, e9, and_false, true_and, if_false] at w ⊢
          omega)⟩
theorem rp_discard1 {x m : zM} {t k q c : Nat} (P : RPh x m 1 t c) (hk : k < 34) (hq : q < 86) (e66 : m.1 66 t = nI q) (ha : ¬ x.1 (21 + 8 * t) k = 0) {bv : Int32} : RPh (dX1 x t k q bv) (dY1 m t k q bv) 2 t k := by
  have ht := P.t4
  have hne : ¬ k = 34 := by omega
  unfold dX1 dY1 tT pS z_giv
  exact ⟨(by simp (disch := first | decide | exact ad_ne (by decide) | exact ad_m (by decide) | exact ad_l (by decide) | exact ad_g (by decide) | exact ad_lt (by decide) | exact ad_o (by decide) | omega) only [↓ui_s, ↓uj_s, ↓ui_o, ↓ui_k, ↓uj_o, ↓uj_k, ↓ui_j, ↓uj_i, ui_s, uj_s, ui_o, ui_k, uj_o, uj_k, ui_j, uj_i]; exact P.fo), (by simp (disch := first | decide | exact ad_ne (by decide) | exact ad_m (by decide) | exact ad_l (by decide) | exact ad_g (by decide) | exact ad_lt (by decide) | exact ad_o (by decide) | omega) only [↓ui_s, ↓uj_s, ↓ui_o, ↓ui_k, ↓uj_o, ↓uj_k, ↓ui_j, ↓uj_i, ui_s, uj_s, ui_o, ui_k, uj_o, uj_k, ui_j, uj_i]; rfl), (by simp (disch := first | decide | exact ad_ne (by decide) | exact ad_m (by decide) | exact ad_l (by decide) | exact ad_g (by decide) | exact ad_lt (by decide) | exact ad_o (by decide) | omega) only [↓ui_s, ↓uj_s, ↓ui_o, ↓ui_k, ↓uj_o, ↓uj_k, ↓ui_j, ↓uj_i, ui_s, uj_s, ui_o, ui_k, uj_o, uj_k, ui_j, uj_i]; rfl), (by simp (disch := first | decide | exact ad_ne (by decide) | exact ad_m (by decide) | exact ad_l (by decide) | exact ad_g (by decide) | exact ad_lt (by decide) | exact ad_o (by decide) | omega) only [↓ui_s, ↓uj_s, ↓ui_o, ↓ui_k, ↓uj_o, ↓uj_k, ↓ui_j, ↓uj_i, ui_s, uj_s, ui_o, ui_k, uj_o, uj_k, ui_j, uj_i]; exact P.tx), (by simp (disch := first | decide | exact ad_ne (by decide) | exact ad_m (by decide) | exact ad_l (by decide) | exact ad_g (by decide) | exact ad_lt (by decide) | exact ad_o (by decide) | omega) only [↓ui_s, ↓uj_s, ↓ui_o, ↓ui_k, ↓uj_o, ↓uj_k, ↓ui_j, ↓uj_i, ui_s, uj_s, ui_o, ui_k, uj_o, uj_k, ui_j, uj_i]; exact P.tm), ht, Or.inr (Or.inl rfl), (by simp (disch := first | decide | exact ad_ne (by decide) | exact ad_m (by decide) | exact ad_l (by decide) | exact ad_g (by decide) | exact ad_lt (by decide) | exact ad_o (by decide) | omega) only [↓ui_s, ↓uj_s, ↓ui_o, ↓ui_k, ↓uj_o, ↓uj_k, ↓ui_j, ↓uj_i, ui_s, uj_s, ui_o, ui_k, uj_o, uj_k, ui_j, uj_i]; rw [if_neg hne]), (by simp (disch := first | decide | exact ad_ne (by decide) | exact ad_m (by decide) | exact ad_l (by decide) | exact ad_g (by decide) | exact ad_lt (by decide) | exact ad_o (by decide) | omega) only [↓ui_s, ↓uj_s, ↓ui_o, ↓ui_k, ↓uj_o, ↓uj_k, ↓ui_j, ↓uj_i, ui_s, uj_s, ui_o, ui_k, uj_o, uj_k, ui_j, uj_i]; rw [if_neg hne]), Or.inl hk, fun z => absurd z (by decide), (by simp (disch := first | decide | exact ad_ne (by decide) | exact ad_m (by decide) | exact ad_l (by decide) | exact ad_g (by decide) | exact ad_lt (by decide) | exact ad_o (by decide) | omega) only [↓ui_s, ↓uj_s, ↓ui_o, ↓ui_k, ↓uj_o, ↓uj_k, ↓ui_j, ↓uj_i, ui_s, uj_s, ui_o, ui_k, uj_o, uj_k, ui_j, uj_i]; exact P.br), (by simp (disch := first | decide | exact ad_ne (by decide) | exact ad_m (by decide) | exact ad_l (by decide) | exact ad_g (by decide) | exact ad_lt (by decide) | exact ad_o (by decide) | omega) only [↓ui_s, ↓uj_s, ↓ui_o, ↓ui_k, ↓uj_o, ↓uj_k, ↓ui_j, ↓uj_i, ui_s, uj_s, ui_o, ui_k, uj_o, uj_k, ui_j, uj_i]; exact P.us), fun z => absurd z (by decide), fun z => absurd z (by decide), fun z => absurd z (by decide), fun z => absurd z (by decide), fun z => absurd z (by decide), (fun s h0 => by
      by_cases e : s = t
      · subst e; rw [if_pos rfl]; simp (disch := first | decide | exact ad_ne (by decide) | exact ad_m (by decide) | exact ad_l (by decide) | exact ad_g (by decide) | exact ad_lt (by decide) | exact ad_o (by decide) | omega) only [↓ui_s, ↓uj_s, ↓ui_o, ↓ui_k, ↓uj_o, ↓uj_k, ↓ui_j, ↓uj_i, ui_s, uj_s, ui_o, ui_k, uj_o, uj_k, ui_j, uj_i]
      · simp (disch := first | decide | exact ad_ne (by decide) | exact ad_m (by decide) | exact ad_l (by decide) | exact ad_g (by decide) | exact ad_lt (by decide) | exact ad_o (by decide) | omega) only [↓ui_s, ↓uj_s, ↓ui_o, ↓ui_k, ↓uj_o, ↓uj_k, ↓ui_j, ↓uj_i, ui_s, uj_s, ui_o, ui_k, uj_o, uj_k, ui_j, uj_i]; rw [if_neg e]; have z := P.ow s h0; rw [if_neg e] at z; exact z), fun z => absurd rfl z, (by simp (disch := first | decide | exact ad_ne (by decide) | exact ad_m (by decide) | exact ad_l (by decide) | exact ad_g (by decide) | exact ad_lt (by decide) | exact ad_o (by decide) | omega) only [↓ui_s, ↓uj_s, ↓ui_o, ↓ui_k, ↓uj_o, ↓uj_k, ↓ui_j, ↓uj_i, ui_s, uj_s, ui_o, ui_k, uj_o, uj_k, ui_j, uj_i]; exact P.is), (by simp (disch := first | decide | exact ad_ne (by decide) | exact ad_m (by decide) | exact ad_l (by decide) | exact ad_g (by decide) | exact ad_lt (by decide) | exact ad_o (by decide) | omega) only [↓ui_s, ↓uj_s, ↓ui_o, ↓ui_k, ↓uj_o, ↓uj_k, ↓ui_j, ↓uj_i, ui_s, uj_s, ui_o, ui_k, uj_o, uj_k, ui_j, uj_i]; exact P.s0), fun z => absurd z (by decide), (by simp (disch := first | decide | exact ad_ne (by decide) | exact ad_m (by decide) | exact ad_l (by decide) | exact ad_g (by decide) | exact ad_lt (by decide) | exact ad_o (by decide) | omega) only [↓ui_s, ↓uj_s, ↓ui_o, ↓ui_k, ↓uj_o, ↓uj_k, ↓ui_j, ↓uj_i, ui_s, uj_s, ui_o, ui_k, uj_o, uj_k, ui_j, uj_i]; exact P.w0), fun s h0 => by simp (disch := first | decide | exact ad_ne (by decide) | exact ad_m (by decide) | exact ad_l (by decide) | exact ad_g (by decide) | exact ad_lt (by decide) | exact ad_o (by decide) | omega) only [↓ui_s, ↓uj_s, ↓ui_o, ↓ui_k, ↓uj_o, ↓uj_k, ↓ui_j, ↓uj_i, ui_s, uj_s, ui_o, ui_k, uj_o, uj_k, ui_j, uj_i]; exact P.dn s h0, (fun z s h0 => by
      simp (disch := first | decide | exact ad_ne (by decide) | exact ad_m (by decide) | exact ad_l (by decide) | exact ad_g (by decide) | exact ad_lt (by decide) | exact ad_o (by decide) | omega) only [↓ui_s, ↓uj_s, ↓ui_o, ↓ui_k, ↓uj_o, ↓uj_k, ↓ui_j, ↓uj_i, ui_s, uj_s, ui_o, ui_k, uj_o, uj_k, ui_j, uj_i] at z
      have y := P.dr z s h0
      rw [if_neg (by omega)]
      by_cases e : s = t
      · subst e
        rw [if_pos ⟨rfl, rfl⟩] at y
        simp (disch := first | decide | exact ad_ne (by decide) | exact ad_m (by decide) | exact ad_l (by decide) | exact ad_g (by decide) | exact ad_lt (by decide) | exact ad_o (by decide) | omega) only [↓ui_s, ↓uj_s, ↓ui_o, ↓ui_k, ↓uj_o, ↓uj_k, ↓ui_j, ↓uj_i, ui_s, uj_s, ui_o, ui_k, uj_o, uj_k, ui_j, uj_i]
        rw [y, e66, nI_s1]
      · rw [if_neg (by omega)] at y
        simp (disch := first | decide | exact ad_ne (by decide) | exact ad_m (by decide) | exact ad_l (by decide) | exact ad_g (by decide) | exact ad_lt (by decide) | exact ad_o (by decide) | omega) only [↓ui_s, ↓uj_s, ↓ui_o, ↓ui_k, ↓uj_o, ↓uj_k, ↓ui_j, ↓uj_i, ui_s, uj_s, ui_o, ui_k, uj_o, uj_k, ui_j, uj_i]
        exact y), fun _ z => absurd z (by decide), (P.tc.elim fun a z => by
      have h1 : 1 ≤ a t k := Nat.pos_of_ne_zero (fun y => ha (by rw [z.1 t k ht hk, y]; rfl))
      refine ⟨fun s k2 => if s = t ∧ k2 = k then a s k2 - 1 else a s k2, fun s k2 h0 h2 => ?_, fun k2 h2 => ?_⟩
      · by_cases e : s = t
        · subst e
          by_cases e2 : k2 = k
          · subst e2; simp (disch := first | decide | exact ad_ne (by decide) | exact ad_m (by decide) | exact ad_l (by decide) | exact ad_g (by decide) | exact ad_lt (by decide) | exact ad_o (by decide) | omega) only [↓ui_s, ↓uj_s, ↓ui_o, ↓ui_k, ↓uj_o, ↓uj_k, ↓ui_j, ↓uj_i, ui_s, uj_s, ui_o, ui_k, uj_o, uj_k, ui_j, uj_i]; rw [z.1 s k2 h0 h2]; simp only [and_self, if_true]; exact nI_m9 h1
          · simp (disch := first | decide | exact ad_ne (by decide) | exact ad_m (by decide) | exact ad_l (by decide) | exact ad_g (by decide) | exact ad_lt (by decide) | exact ad_o (by decide) | omega) only [↓ui_s, ↓uj_s, ↓ui_o, ↓ui_k, ↓uj_o, ↓uj_k, ↓ui_j, ↓uj_i, ui_s, uj_s, ui_o, ui_k, uj_o, uj_k, ui_j, uj_i]; rw [if_neg (by omega)]; exact z.1 s k2 h0 h2
        · simp (disch := first | decide | exact ad_ne (by decide) | exact ad_m (by decide) | exact ad_l (by decide) | exact ad_g (by decide) | exact ad_lt (by decide) | exact ad_o (by decide) | omega) only [↓ui_s, ↓uj_s, ↓ui_o, ↓ui_k, ↓uj_o, ↓uj_k, ↓ui_j, ↓uj_i, ui_s, uj_s, ui_o, ui_k, uj_o, uj_k, ui_j, uj_i]; rw [if_neg (by omega)]; exact z.1 s k2 h0 h2
      · have y := z.2 k2 h2
        rw [if_neg (by omega)] at y
        rw [fW_cg (m := m) (fun i => by simp (disch := first | decide | exact ad_ne (by decide) | exact ad_m (by decide) | exact ad_l (by decide) | exact ad_g (by decide) | exact ad_lt (by decide) | exact ad_o (by decide) | omega) only [↓ui_s, ↓uj_s, ↓ui_o, ↓ui_k, ↓uj_o, ↓uj_k, ↓ui_j, ↓uj_i, ui_s, uj_s, ui_o, ui_k, uj_o, uj_k, ui_j, uj_i])]
        simp (disch := first | decide | exact ad_ne (by decide) | exact ad_m (by decide) | exact ad_l (by decide) | exact ad_g (by decide) | exact ad_lt (by decide) | exact ad_o (by decide) | omega) only [↓ui_s, ↓uj_s, ↓ui_o, ↓ui_k, ↓uj_o, ↓uj_k, ↓ui_j, ↓uj_i, ui_s, uj_s, ui_o, ui_k, uj_o, uj_k, ui_j, uj_i]
        have w := sum4 (a := fun s => a s k2) (b := fun s => if s = t ∧ k2 = k then a s k2 - 1 else a s k2) ht (fun s _ e => by rw [if_neg (by omega)])
        by_cases e : k2 = k
        · subst e
          simp only [true_and, and_true, if_pos] at w ⊢
          omega
        · have e9 : ¬ k = k2 := fun q => e q.symm
          simp only [e, e9, and_false, true_and, if_false] at w ⊢
          omega)⟩
/-! the relation is kept: breaking, drawing -/
set_option maxRecDepth 8000
theorem rc_brk {x m : zM} (R : RCl x m) : RCl (bkH x) (toM m) := by
  unfold bkH toM
  exact ⟨(by simp (disch := first | decide | exact ad_ne (by decide) | exact ad_m (by decide) | exact ad_l (by decide) | exact ad_g (by decide) | exact ad_lt (by decide) | exact ad_o (by decide) | omega) only [↓ui_s, ↓uj_s, ↓ui_o, ↓ui_k, ↓uj_o, ↓uj_k, ↓ui_j, ↓uj_i, ui_s, uj_s, ui_o, ui_k, uj_o, uj_k, ui_j, uj_i]; exact R.dl), (by simp (disch := first | decide | exact ad_ne (by decide) | exact ad_m (by decide) | exact ad_l (by decide) | exact ad_g (by decide) | exact ad_lt (by decide) | exact ad_o (by decide) | omega) only [↓ui_s, ↓uj_s, ↓ui_o, ↓ui_k, ↓uj_o, ↓uj_k, ↓ui_j, ↓uj_i, ui_s, uj_s, ui_o, ui_k, uj_o, uj_k, ui_j, uj_i]; exact R.rn), (by simp (disch := first | decide | exact ad_ne (by decide) | exact ad_m (by decide) | exact ad_l (by decide) | exact ad_g (by decide) | exact ad_lt (by decide) | exact ad_o (by decide) | omega) only [↓ui_s, ↓uj_s, ↓ui_o, ↓ui_k, ↓uj_o, ↓uj_k, ↓ui_j, ↓uj_i, ui_s, uj_s, ui_o, ui_k, uj_o, uj_k, ui_j, uj_i]; exact R.st), (by simp (disch := first | decide | exact ad_ne (by decide) | exact ad_m (by decide) | exact ad_l (by decide) | exact ad_g (by decide) | exact ad_lt (by decide) | exact ad_o (by decide) | omega) only [↓ui_s, ↓uj_s, ↓ui_o, ↓ui_k, ↓uj_o, ↓uj_k, ↓ui_j, ↓uj_i, ui_s, uj_s, ui_o, ui_k, uj_o, uj_k, ui_j, uj_i]; exact R.bt), (by simp (disch := first | decide | exact ad_ne (by decide) | exact ad_m (by decide) | exact ad_l (by decide) | exact ad_g (by decide) | exact ad_lt (by decide) | exact ad_o (by decide) | omega) only [↓ui_s, ↓uj_s, ↓ui_o, ↓ui_k, ↓uj_o, ↓uj_k, ↓ui_j, ↓uj_i, ui_s, uj_s, ui_o, ui_k, uj_o, uj_k, ui_j, uj_i]; exact R.en), (by simp (disch := first | decide | exact ad_ne (by decide) | exact ad_m (by decide) | exact ad_l (by decide) | exact ad_g (by decide) | exact ad_lt (by decide) | exact ad_o (by decide) | omega) only [↓ui_s, ↓uj_s, ↓ui_o, ↓ui_k, ↓uj_o, ↓uj_k, ↓ui_j, ↓uj_i, ui_s, uj_s, ui_o, ui_k, uj_o, uj_k, ui_j, uj_i]; exact R.he), (by simp (disch := first | decide | exact ad_ne (by decide) | exact ad_m (by decide) | exact ad_l (by decide) | exact ad_g (by decide) | exact ad_lt (by decide) | exact ad_o (by decide) | omega) only [↓ui_s, ↓uj_s, ↓ui_o, ↓ui_k, ↓uj_o, ↓uj_k, ↓ui_j, ↓uj_i, ui_s, uj_s, ui_o, ui_k, uj_o, uj_k, ui_j, uj_i]; exact R.wc), (by simp (disch := first | decide | exact ad_ne (by decide) | exact ad_m (by decide) | exact ad_l (by decide) | exact ad_g (by decide) | exact ad_lt (by decide) | exact ad_o (by decide) | omega) only [↓ui_s, ↓uj_s, ↓ui_o, ↓ui_k, ↓uj_o, ↓uj_k, ↓ui_j, ↓uj_i, ui_s, uj_s, ui_o, ui_k, uj_o, uj_k, ui_j, uj_i]; exact R.sd), (by simp (disch := first | decide | exact ad_ne (by decide) | exact ad_m (by decide) | exact ad_l (by decide) | exact ad_g (by decide) | exact ad_lt (by decide) | exact ad_o (by decide) | omega) only [↓ui_s, ↓uj_s, ↓ui_o, ↓ui_k, ↓uj_o, ↓uj_k, ↓ui_j, ↓uj_i, ui_s, uj_s, ui_o, ui_k, uj_o, uj_k, ui_j, uj_i]; exact R.nx), fun i h0 => by simp (disch := first | decide | exact ad_ne (by decide) | exact ad_m (by decide) | exact ad_l (by decide) | exact ad_g (by decide) | exact ad_lt (by decide) | exact ad_o (by decide) | omega) only [↓ui_s, ↓uj_s, ↓ui_o, ↓ui_k, ↓uj_o, ↓uj_k, ↓ui_j, ↓uj_i, ui_s, uj_s, ui_o, ui_k, uj_o, uj_k, ui_j, uj_i]; exact R.wl i h0, fun s h0 => by simp (disch := first | decide | exact ad_ne (by decide) | exact ad_m (by decide) | exact ad_l (by decide) | exact ad_g (by decide) | exact ad_lt (by decide) | exact ad_o (by decide) | omega) only [↓ui_s, ↓uj_s, ↓ui_o, ↓ui_k, ↓uj_o, ↓uj_k, ↓ui_j, ↓uj_i, ui_s, uj_s, ui_o, ui_k, uj_o, uj_k, ui_j, uj_i]; exact R.pt s h0, fun s h0 => by simp (disch := first | decide | exact ad_ne (by decide) | exact ad_m (by decide) | exact ad_l (by decide) | exact ad_g (by decide) | exact ad_lt (by decide) | exact ad_o (by decide) | omega) only [↓ui_s, ↓uj_s, ↓ui_o, ↓ui_k, ↓uj_o, ↓uj_k, ↓ui_j, ↓uj_i, ui_s, uj_s, ui_o, ui_k, uj_o, uj_k, ui_j, uj_i]; exact R.be s h0, (fun s h0 => by
      obtain rfl | rfl | rfl | rfl : s = 0 ∨ s = 1 ∨ s = 2 ∨ s = 3 := by omega
      all_goals (simp (disch := first | decide | exact ad_ne (by decide) | exact ad_m (by decide) | exact ad_l (by decide) | exact ad_g (by decide) | exact ad_lt (by decide) | exact ad_o (by decide) | omega) only [↓ui_s, ↓uj_s, ↓ui_o, ↓ui_k, ↓uj_o, ↓uj_k, ↓ui_j, ↓uj_i, ui_s, uj_s, ui_o, ui_k, uj_o, uj_k, ui_j, uj_i])), fun s h0 => by simp (disch := first | decide | exact ad_ne (by decide) | exact ad_m (by decide) | exact ad_l (by decide) | exact ad_g (by decide) | exact ad_lt (by decide) | exact ad_o (by decide) | omega) only [↓ui_s, ↓uj_s, ↓ui_o, ↓ui_k, ↓uj_o, ↓uj_k, ↓ui_j, ↓uj_i, ui_s, uj_s, ui_o, ui_k, uj_o, uj_k, ui_j, uj_i]; exact R.lg s h0, fun s h0 => by simp (disch := first | decide | exact ad_ne (by decide) | exact ad_m (by decide) | exact ad_l (by decide) | exact ad_g (by decide) | exact ad_lt (by decide) | exact ad_o (by decide) | omega) only [↓ui_s, ↓uj_s, ↓ui_o, ↓ui_k, ↓uj_o, ↓uj_k, ↓ui_j, ↓uj_i, ui_s, uj_s, ui_o, ui_k, uj_o, uj_k, ui_j, uj_i]; exact R.sy s h0, fun s h0 => by simp (disch := first | decide | exact ad_ne (by decide) | exact ad_m (by decide) | exact ad_l (by decide) | exact ad_g (by decide) | exact ad_lt (by decide) | exact ad_o (by decide) | omega) only [↓ui_s, ↓uj_s, ↓ui_o, ↓ui_k, ↓uj_o, ↓uj_k, ↓ui_j, ↓uj_i, ui_s, uj_s, ui_o, ui_k, uj_o, uj_k, ui_j, uj_i]; exact R.ds s h0, fun s h0 => by simp (disch := first | decide | exact ad_ne (by decide) | exact ad_m (by decide) | exact ad_l (by decide) | exact ad_g (by decide) | exact ad_lt (by decide) | exact ad_o (by decide) | omega) only [↓ui_s, ↓uj_s, ↓ui_o, ↓ui_k, ↓uj_o, ↓uj_k, ↓ui_j, ↓uj_i, ui_s, uj_s, ui_o, ui_k, uj_o, uj_k, ui_j, uj_i]; exact R.lm s h0, fun s k h0 h1 => by simp (disch := first | decide | exact ad_ne (by decide) | exact ad_m (by decide) | exact ad_l (by decide) | exact ad_g (by decide) | exact ad_lt (by decide) | exact ad_o (by decide) | omega) only [↓ui_s, ↓uj_s, ↓ui_o, ↓ui_k, ↓uj_o, ↓uj_k, ↓ui_j, ↓uj_i, ui_s, uj_s, ui_o, ui_k, uj_o, uj_k, ui_j, uj_i]; exact R.hd s k h0 h1, fun s i h0 h1 => by simp (disch := first | decide | exact ad_ne (by decide) | exact ad_m (by decide) | exact ad_l (by decide) | exact ad_g (by decide) | exact ad_lt (by decide) | exact ad_o (by decide) | omega) only [↓ui_s, ↓uj_s, ↓ui_o, ↓ui_k, ↓uj_o, ↓uj_k, ↓ui_j, ↓uj_i, ui_s, uj_s, ui_o, ui_k, uj_o, uj_k, ui_j, uj_i]; exact R.so s i h0 h1, fun s i h0 h1 => by simp (disch := first | decide | exact ad_ne (by decide) | exact ad_m (by decide) | exact ad_l (by decide) | exact ad_g (by decide) | exact ad_lt (by decide) | exact ad_o (by decide) | omega) only [↓ui_s, ↓uj_s, ↓ui_o, ↓ui_k, ↓uj_o, ↓uj_k, ↓ui_j, ↓uj_i, ui_s, uj_s, ui_o, ui_k, uj_o, uj_k, ui_j, uj_i]; exact R.lo s i h0 h1, fun s i h0 h1 => by simp (disch := first | decide | exact ad_ne (by decide) | exact ad_m (by decide) | exact ad_l (by decide) | exact ad_g (by decide) | exact ad_lt (by decide) | exact ad_o (by decide) | omega) only [↓ui_s, ↓uj_s, ↓ui_o, ↓ui_k, ↓uj_o, ↓uj_k, ↓ui_j, ↓uj_i, ui_s, uj_s, ui_o, ui_k, uj_o, uj_k, ui_j, uj_i]; exact R.rv s i h0 h1, fun i f h0 h1 h2 => by simp (disch := first | decide | exact ad_ne (by decide) | exact ad_m (by decide) | exact ad_l (by decide) | exact ad_g (by decide) | exact ad_lt (by decide) | exact ad_o (by decide) | omega) only [↓ui_s, ↓uj_s, ↓ui_o, ↓ui_k, ↓uj_o, ↓uj_k, ↓ui_j, ↓uj_i, ui_s, uj_s, ui_o, ui_k, uj_o, uj_k, ui_j, uj_i]; exact R.wi i f h0 h1 h2, fun i h0 => by simp (disch := first | decide | exact ad_ne (by decide) | exact ad_m (by decide) | exact ad_l (by decide) | exact ad_g (by decide) | exact ad_lt (by decide) | exact ad_o (by decide) | omega) only [↓ui_s, ↓uj_s, ↓ui_o, ↓ui_k, ↓uj_o, ↓uj_k, ↓ui_j, ↓uj_i, ui_s, uj_s, ui_o, ui_k, uj_o, uj_k, ui_j, uj_i]; exact R.wf i h0, fun s k2 h0 h1 => by simp (disch := first | decide | exact ad_ne (by decide) | exact ad_m (by decide) | exact ad_l (by decide) | exact ad_g (by decide) | exact ad_lt (by decide) | exact ad_o (by decide) | omega) only [↓ui_s, ↓uj_s, ↓ui_o, ↓ui_k, ↓uj_o, ↓uj_k, ↓ui_j, ↓uj_i, ui_s, uj_s, ui_o, ui_k, uj_o, uj_k, ui_j, uj_i]; exact R.al s k2 h0 h1, fun s h0 => by simp (disch := first | decide | exact ad_ne (by decide) | exact ad_m (by decide) | exact ad_l (by decide) | exact ad_g (by decide) | exact ad_lt (by decide) | exact ad_o (by decide) | omega) only [↓ui_s, ↓uj_s, ↓ui_o, ↓ui_k, ↓uj_o, ↓uj_k, ↓ui_j, ↓uj_i, ui_s, uj_s, ui_o, ui_k, uj_o, uj_k, ui_j, uj_i]; exact R.lz s h0, fun s i h0 h1 => by simp (disch := first | decide | exact ad_ne (by decide) | exact ad_m (by decide) | exact ad_l (by decide) | exact ad_g (by decide) | exact ad_lt (by decide) | exact ad_o (by decide) | omega) only [↓ui_s, ↓uj_s, ↓ui_o, ↓ui_k, ↓uj_o, ↓uj_k, ↓ui_j, ↓uj_i, ui_s, uj_s, ui_o, ui_k, uj_o, uj_k, ui_j, uj_i] at h1 ⊢; exact R.sv s i h0 h1, fun s h0 => by simp (disch := first | decide | exact ad_ne (by decide) | exact ad_m (by decide) | exact ad_l (by decide) | exact ad_g (by decide) | exact ad_lt (by decide) | exact ad_o (by decide) | omega) only [↓ui_s, ↓uj_s, ↓ui_o, ↓ui_k, ↓uj_o, ↓uj_k, ↓ui_j, ↓uj_i, ui_s, uj_s, ui_o, ui_k, uj_o, uj_k, ui_j, uj_i]; rw [R.tk s h0]; exact congrArg (fun f => kb f 34) (tkM_cg (R.rb s h0) (fun i hi => by simp (disch := first | decide | exact ad_ne (by decide) | exact ad_m (by decide) | exact ad_l (by decide) | exact ad_g (by decide) | exact ad_lt (by decide) | exact ad_o (by decide) | omega) only [↓ui_s, ↓uj_s, ↓ui_o, ↓ui_k, ↓uj_o, ↓uj_k, ↓ui_j, ↓uj_i, ui_s, uj_s, ui_o, ui_k, uj_o, uj_k, ui_j, uj_i]) (by simp (disch := first | decide | exact ad_ne (by decide) | exact ad_m (by decide) | exact ad_l (by decide) | exact ad_g (by decide) | exact ad_lt (by decide) | exact ad_o (by decide) | omega) only [↓ui_s, ↓uj_s, ↓ui_o, ↓ui_k, ↓uj_o, ↓uj_k, ↓ui_j, ↓uj_i, ui_s, uj_s, ui_o, ui_k, uj_o, uj_k, ui_j, uj_i])), fun s h0 => by simp (disch := first | decide | exact ad_ne (by decide) | exact ad_m (by decide) | exact ad_l (by decide) | exact ad_g (by decide) | exact ad_lt (by decide) | exact ad_o (by decide) | omega) only [↓ui_s, ↓uj_s, ↓ui_o, ↓ui_k, ↓uj_o, ↓uj_k, ↓ui_j, ↓uj_i, ui_s, uj_s, ui_o, ui_k, uj_o, uj_k, ui_j, uj_i]; exact R.rb s h0, fun s i h0 h1 => by simp (disch := first | decide | exact ad_ne (by decide) | exact ad_m (by decide) | exact ad_l (by decide) | exact ad_g (by decide) | exact ad_lt (by decide) | exact ad_o (by decide) | omega) only [↓ui_s, ↓uj_s, ↓ui_o, ↓ui_k, ↓uj_o, ↓uj_k, ↓ui_j, ↓uj_i, ui_s, uj_s, ui_o, ui_k, uj_o, uj_k, ui_j, uj_i] at h1 ⊢; exact R.rk s i h0 h1, (by simp (disch := first | decide | exact ad_ne (by decide) | exact ad_m (by decide) | exact ad_l (by decide) | exact ad_g (by decide) | exact ad_lt (by decide) | exact ad_o (by decide) | omega) only [↓ui_s, ↓uj_s, ↓ui_o, ↓ui_k, ↓uj_o, ↓uj_k, ↓ui_j, ↓uj_i, ui_s, uj_s, ui_o, ui_k, uj_o, uj_k, ui_j, uj_i]; exact R.rd), fun s h0 => by simp (disch := first | decide | exact ad_ne (by decide) | exact ad_m (by decide) | exact ad_l (by decide) | exact ad_g (by decide) | exact ad_lt (by decide) | exact ad_o (by decide) | omega) only [↓ui_s, ↓uj_s, ↓ui_o, ↓ui_k, ↓uj_o, ↓uj_k, ↓ui_j, ↓uj_i, ui_s, uj_s, ui_o, ui_k, uj_o, uj_k, ui_j, uj_i]; exact R.bb s h0, fun z => by simp (disch := first | decide | exact ad_ne (by decide) | exact ad_m (by decide) | exact ad_l (by decide) | exact ad_g (by decide) | exact ad_lt (by decide) | exact ad_o (by decide) | omega) only [↓ui_s, ↓uj_s, ↓ui_o, ↓ui_k, ↓uj_o, ↓uj_k, ↓ui_j, ↓uj_i, ui_s, uj_s, ui_o, ui_k, uj_o, uj_k, ui_j, uj_i] at z ⊢; exact R.wp z⟩
theorem rc_draw0 {x m : zM} (R : RCl x m) {t n k : Nat} (ht : t < 4) (hk : k < 34) (hn : m.1 50 46 = nI n) : RCl (dT0 x t n k) (dM0 m t n k) := by
  have e5 := R.be t ht
  unfold dT0 dM0 pS z_giv
  rw [e5]
  cases hb : decide (m.1 67 t = 0) with
  | true =>
    rw [cond_true, cond_true]
    exact ⟨(by simp (disch := first | decide | exact ad_ne (by decide) | exact ad_m (by decide) | exact ad_l (by decide) | exact ad_g (by decide) | exact ad_lt (by decide) | exact ad_o (by decide) | omega) only [↓ui_s, ↓uj_s, ↓ui_o, ↓ui_k, ↓uj_o, ↓uj_k, ↓ui_j, ↓uj_i, ui_s, uj_s, ui_o, ui_k, uj_o, uj_k, ui_j, uj_i]; exact R.dl), (by simp (disch := first | decide | exact ad_ne (by decide) | exact ad_m (by decide) | exact ad_l (by decide) | exact ad_g (by decide) | exact ad_lt (by decide) | exact ad_o (by decide) | omega) only [↓ui_s, ↓uj_s, ↓ui_o, ↓ui_k, ↓uj_o, ↓uj_k, ↓ui_j, ↓uj_i, ui_s, uj_s, ui_o, ui_k, uj_o, uj_k, ui_j, uj_i]; exact R.rn), (by simp (disch := first | decide | exact ad_ne (by decide) | exact ad_m (by decide) | exact ad_l (by decide) | exact ad_g (by decide) | exact ad_lt (by decide) | exact ad_o (by decide) | omega) only [↓ui_s, ↓uj_s, ↓ui_o, ↓ui_k, ↓uj_o, ↓uj_k, ↓ui_j, ↓uj_i, ui_s, uj_s, ui_o, ui_k, uj_o, uj_k, ui_j, uj_i]; exact R.st), (by simp (disch := first | decide | exact ad_ne (by decide) | exact ad_m (by decide) | exact ad_l (by decide) | exact ad_g (by decide) | exact ad_lt (by decide) | exact ad_o (by decide) | omega) only [↓ui_s, ↓uj_s, ↓ui_o, ↓ui_k, ↓uj_o, ↓uj_k, ↓ui_j, ↓uj_i, ui_s, uj_s, ui_o, ui_k, uj_o, uj_k, ui_j, uj_i]; exact R.bt), (by simp (disch := first | decide | exact ad_ne (by decide) | exact ad_m (by decide) | exact ad_l (by decide) | exact ad_g (by decide) | exact ad_lt (by decide) | exact ad_o (by decide) | omega) only [↓ui_s, ↓uj_s, ↓ui_o, ↓ui_k, ↓uj_o, ↓uj_k, ↓ui_j, ↓uj_i, ui_s, uj_s, ui_o, ui_k, uj_o, uj_k, ui_j, uj_i]; exact R.en), (by simp (disch := first | decide | exact ad_ne (by decide) | exact ad_m (by decide) | exact ad_l (by decide) | exact ad_g (by decide) | exact ad_lt (by decide) | exact ad_o (by decide) | omega) only [↓ui_s, ↓uj_s, ↓ui_o, ↓ui_k, ↓uj_o, ↓uj_k, ↓ui_j, ↓uj_i, ui_s, uj_s, ui_o, ui_k, uj_o, uj_k, ui_j, uj_i]; exact R.he), (by simp (disch := first | decide | exact ad_ne (by decide) | exact ad_m (by decide) | exact ad_l (by decide) | exact ad_g (by decide) | exact ad_lt (by decide) | exact ad_o (by decide) | omega) only [↓ui_s, ↓uj_s, ↓ui_o, ↓ui_k, ↓uj_o, ↓uj_k, ↓ui_j, ↓uj_i, ui_s, uj_s, ui_o, ui_k, uj_o, uj_k, ui_j, uj_i]; exact R.wc), (by simp (disch := first | decide | exact ad_ne (by decide) | exact ad_m (by decide) | exact ad_l (by decide) | exact ad_g (by decide) | exact ad_lt (by decide) | exact ad_o (by decide) | omega) only [↓ui_s, ↓uj_s, ↓ui_o, ↓ui_k, ↓uj_o, ↓uj_k, ↓ui_j, ↓uj_i, ui_s, uj_s, ui_o, ui_k, uj_o, uj_k, ui_j, uj_i]; exact R.sd), (by simp (disch := first | decide | exact ad_ne (by decide) | exact ad_m (by decide) | exact ad_l (by decide) | exact ad_g (by decide) | exact ad_lt (by decide) | exact ad_o (by decide) | omega) only [↓ui_s, ↓uj_s, ↓ui_o, ↓ui_k, ↓uj_o, ↓uj_k, ↓ui_j, ↓uj_i, ui_s, uj_s, ui_o, ui_k, uj_o, uj_k, ui_j, uj_i]), fun i h0 => by simp (disch := first | decide | exact ad_ne (by decide) | exact ad_m (by decide) | exact ad_l (by decide) | exact ad_g (by decide) | exact ad_lt (by decide) | exact ad_o (by decide) | omega) only [↓ui_s, ↓uj_s, ↓ui_o, ↓ui_k, ↓uj_o, ↓uj_k, ↓ui_j, ↓uj_i, ui_s, uj_s, ui_o, ui_k, uj_o, uj_k, ui_j, uj_i]; exact R.wl i h0, fun s h0 => by simp (disch := first | decide | exact ad_ne (by decide) | exact ad_m (by decide) | exact ad_l (by decide) | exact ad_g (by decide) | exact ad_lt (by decide) | exact ad_o (by decide) | omega) only [↓ui_s, ↓uj_s, ↓ui_o, ↓ui_k, ↓uj_o, ↓uj_k, ↓ui_j, ↓uj_i, ui_s, uj_s, ui_o, ui_k, uj_o, uj_k, ui_j, uj_i]; exact R.pt s h0, fun s h0 => by simp (disch := first | decide | exact ad_ne (by decide) | exact ad_m (by decide) | exact ad_l (by decide) | exact ad_g (by decide) | exact ad_lt (by decide) | exact ad_o (by decide) | omega) only [↓ui_s, ↓uj_s, ↓ui_o, ↓ui_k, ↓uj_o, ↓uj_k, ↓ui_j, ↓uj_i, ui_s, uj_s, ui_o, ui_k, uj_o, uj_k, ui_j, uj_i]; exact R.be s h0, fun s h0 => by simp (disch := first | decide | exact ad_ne (by decide) | exact ad_m (by decide) | exact ad_l (by decide) | exact ad_g (by decide) | exact ad_lt (by decide) | exact ad_o (by decide) | omega) only [↓ui_s, ↓uj_s, ↓ui_o, ↓ui_k, ↓uj_o, ↓uj_k, ↓ui_j, ↓uj_i, ui_s, uj_s, ui_o, ui_k, uj_o, uj_k, ui_j, uj_i]; exact R.ao s h0, (fun s h0 => by
      by_cases e : s = t
      · subst e; simp (disch := first | decide | exact ad_ne (by decide) | exact ad_m (by decide) | exact ad_l (by decide) | exact ad_g (by decide) | exact ad_lt (by decide) | exact ad_o (by decide) | omega) only [↓ui_s, ↓uj_s, ↓ui_o, ↓ui_k, ↓uj_o, ↓uj_k, ↓ui_j, ↓uj_i, ui_s, uj_s, ui_o, ui_k, uj_o, uj_k, ui_j, uj_i]
      · simp (disch := first | decide | exact ad_ne (by decide) | exact ad_m (by decide) | exact ad_l (by decide) | exact ad_g (by decide) | exact ad_lt (by decide) | exact ad_o (by decide) | omega) only [↓ui_s, ↓uj_s, ↓ui_o, ↓ui_k, ↓uj_o, ↓uj_k, ↓ui_j, ↓uj_i, ui_s, uj_s, ui_o, ui_k, uj_o, uj_k, ui_j, uj_i]; exact R.lg s h0), fun s h0 => by simp (disch := first | decide | exact ad_ne (by decide) | exact ad_m (by decide) | exact ad_l (by decide) | exact ad_g (by decide) | exact ad_lt (by decide) | exact ad_o (by decide) | omega) only [↓ui_s, ↓uj_s, ↓ui_o, ↓ui_k, ↓uj_o, ↓uj_k, ↓ui_j, ↓uj_i, ui_s, uj_s, ui_o, ui_k, uj_o, uj_k, ui_j, uj_i]; exact R.sy s h0, fun s h0 => by simp (disch := first | decide | exact ad_ne (by decide) | exact ad_m (by decide) | exact ad_l (by decide) | exact ad_g (by decide) | exact ad_lt (by decide) | exact ad_o (by decide) | omega) only [↓ui_s, ↓uj_s, ↓ui_o, ↓ui_k, ↓uj_o, ↓uj_k, ↓ui_j, ↓uj_i, ui_s, uj_s, ui_o, ui_k, uj_o, uj_k, ui_j, uj_i]; exact R.ds s h0, fun s h0 => by simp (disch := first | decide | exact ad_ne (by decide) | exact ad_m (by decide) | exact ad_l (by decide) | exact ad_g (by decide) | exact ad_lt (by decide) | exact ad_o (by decide) | omega) only [↓ui_s, ↓uj_s, ↓ui_o, ↓ui_k, ↓uj_o, ↓uj_k, ↓ui_j, ↓uj_i, ui_s, uj_s, ui_o, ui_k, uj_o, uj_k, ui_j, uj_i]; exact R.lm s h0, (fun s k2 h0 h1 => by
      by_cases e : s = t
      · subst e
        by_cases e2 : k2 = k
        · subst e2; simp (disch := first | decide | exact ad_ne (by decide) | exact ad_m (by decide) | exact ad_l (by decide) | exact ad_g (by decide) | exact ad_lt (by decide) | exact ad_o (by decide) | omega) only [↓ui_s, ↓uj_s, ↓ui_o, ↓ui_k, ↓uj_o, ↓uj_k, ↓ui_j, ↓uj_i, ui_s, uj_s, ui_o, ui_k, uj_o, uj_k, ui_j, uj_i]; rw [R.hd s k2 h0 h1]
        · simp (disch := first | decide | exact ad_ne (by decide) | exact ad_m (by decide) | exact ad_l (by decide) | exact ad_g (by decide) | exact ad_lt (by decide) | exact ad_o (by decide) | omega) only [↓ui_s, ↓uj_s, ↓ui_o, ↓ui_k, ↓uj_o, ↓uj_k, ↓ui_j, ↓uj_i, ui_s, uj_s, ui_o, ui_k, uj_o, uj_k, ui_j, uj_i]; exact R.hd s k2 h0 h1
      · simp (disch := first | decide | exact ad_ne (by decide) | exact ad_m (by decide) | exact ad_l (by decide) | exact ad_g (by decide) | exact ad_lt (by decide) | exact ad_o (by decide) | omega) only [↓ui_s, ↓uj_s, ↓ui_o, ↓ui_k, ↓uj_o, ↓uj_k, ↓ui_j, ↓uj_i, ui_s, uj_s, ui_o, ui_k, uj_o, uj_k, ui_j, uj_i]; exact R.hd s k2 h0 h1), fun s i h0 h1 => by simp (disch := first | decide | exact ad_ne (by decide) | exact ad_m (by decide) | exact ad_l (by decide) | exact ad_g (by decide) | exact ad_lt (by decide) | exact ad_o (by decide) | omega) only [↓ui_s, ↓uj_s, ↓ui_o, ↓ui_k, ↓uj_o, ↓uj_k, ↓ui_j, ↓uj_i, ui_s, uj_s, ui_o, ui_k, uj_o, uj_k, ui_j, uj_i]; exact R.so s i h0 h1, fun s i h0 h1 => by simp (disch := first | decide | exact ad_ne (by decide) | exact ad_m (by decide) | exact ad_l (by decide) | exact ad_g (by decide) | exact ad_lt (by decide) | exact ad_o (by decide) | omega) only [↓ui_s, ↓uj_s, ↓ui_o, ↓ui_k, ↓uj_o, ↓uj_k, ↓ui_j, ↓uj_i, ui_s, uj_s, ui_o, ui_k, uj_o, uj_k, ui_j, uj_i]; exact R.lo s i h0 h1, fun s i h0 h1 => by simp (disch := first | decide | exact ad_ne (by decide) | exact ad_m (by decide) | exact ad_l (by decide) | exact ad_g (by decide) | exact ad_lt (by decide) | exact ad_o (by decide) | omega) only [↓ui_s, ↓uj_s, ↓ui_o, ↓ui_k, ↓uj_o, ↓uj_k, ↓ui_j, ↓uj_i, ui_s, uj_s, ui_o, ui_k, uj_o, uj_k, ui_j, uj_i]; exact R.rv s i h0 h1, fun i f h0 h1 h2 => by simp (disch := first | decide | exact ad_ne (by decide) | exact ad_m (by decide) | exact ad_l (by decide) | exact ad_g (by decide) | exact ad_lt (by decide) | exact ad_o (by decide) | omega) only [↓ui_s, ↓uj_s, ↓ui_o, ↓ui_k, ↓uj_o, ↓uj_k, ↓ui_j, ↓uj_i, ui_s, uj_s, ui_o, ui_k, uj_o, uj_k, ui_j, uj_i]; exact R.wi i f h0 h1 h2, fun i h0 => by simp (disch := first | decide | exact ad_ne (by decide) | exact ad_m (by decide) | exact ad_l (by decide) | exact ad_g (by decide) | exact ad_lt (by decide) | exact ad_o (by decide) | omega) only [↓ui_s, ↓uj_s, ↓ui_o, ↓ui_k, ↓uj_o, ↓uj_k, ↓ui_j, ↓uj_i, ui_s, uj_s, ui_o, ui_k, uj_o, uj_k, ui_j, uj_i]; exact R.wf i h0, (fun s k2 h0 h1 => by
      by_cases e : s = t
      · subst e
        by_cases e2 : k2 = k
        · subst e2; simp (disch := first | decide | exact ad_ne (by decide) | exact ad_m (by decide) | exact ad_l (by decide) | exact ad_g (by decide) | exact ad_lt (by decide) | exact ad_o (by decide) | omega) only [↓ui_s, ↓uj_s, ↓ui_o, ↓ui_k, ↓uj_o, ↓uj_k, ↓ui_j, ↓uj_i, ui_s, uj_s, ui_o, ui_k, uj_o, uj_k, ui_j, uj_i]; rw [ofv_add]; exact congrArg (· + 1) (R.al s k2 h0 h1)
        · simp (disch := first | decide | exact ad_ne (by decide) | exact ad_m (by decide) | exact ad_l (by decide) | exact ad_g (by decide) | exact ad_lt (by decide) | exact ad_o (by decide) | omega) only [↓ui_s, ↓uj_s, ↓ui_o, ↓ui_k, ↓uj_o, ↓uj_k, ↓ui_j, ↓uj_i, ui_s, uj_s, ui_o, ui_k, uj_o, uj_k, ui_j, uj_i]; exact R.al s k2 h0 h1
      · simp (disch := first | decide | exact ad_ne (by decide) | exact ad_m (by decide) | exact ad_l (by decide) | exact ad_g (by decide) | exact ad_lt (by decide) | exact ad_o (by decide) | omega) only [↓ui_s, ↓uj_s, ↓ui_o, ↓ui_k, ↓uj_o, ↓uj_k, ↓ui_j, ↓uj_i, ui_s, uj_s, ui_o, ui_k, uj_o, uj_k, ui_j, uj_i]; exact R.al s k2 h0 h1), (fun s h0 => by
      by_cases e : s = t
      · subst e
        simp (disch := first | decide | exact ad_ne (by decide) | exact ad_m (by decide) | exact ad_l (by decide) | exact ad_g (by decide) | exact ad_lt (by decide) | exact ad_o (by decide) | omega) only [↓ui_s, ↓uj_s, ↓ui_o, ↓ui_k, ↓uj_o, ↓uj_k, ↓ui_j, ↓uj_i, ui_s, uj_s, ui_o, ui_k, uj_o, uj_k, ui_j, uj_i]
        rw [R.lz s h0]
        exact (sm_up9 hk (fun j hj hn => by simp (disch := first | decide | exact ad_ne (by decide) | exact ad_m (by decide) | exact ad_l (by decide) | exact ad_g (by decide) | exact ad_lt (by decide) | exact ad_o (by decide) | omega) only [↓ui_s, ↓uj_s, ↓ui_o, ↓ui_k, ↓uj_o, ↓uj_k, ↓ui_j, ↓uj_i, ui_s, uj_s, ui_o, ui_k, uj_o, uj_k, ui_j, uj_i]) (by simp (disch := first | decide | exact ad_ne (by decide) | exact ad_m (by decide) | exact ad_l (by decide) | exact ad_g (by decide) | exact ad_lt (by decide) | exact ad_o (by decide) | omega) only [↓ui_s, ↓uj_s, ↓ui_o, ↓ui_k, ↓uj_o, ↓uj_k, ↓ui_j, ↓uj_i, ui_s, uj_s, ui_o, ui_k, uj_o, uj_k, ui_j, uj_i])).symm
      · simp (disch := first | decide | exact ad_ne (by decide) | exact ad_m (by decide) | exact ad_l (by decide) | exact ad_g (by decide) | exact ad_lt (by decide) | exact ad_o (by decide) | omega) only [↓ui_s, ↓uj_s, ↓ui_o, ↓ui_k, ↓uj_o, ↓uj_k, ↓ui_j, ↓uj_i, ui_s, uj_s, ui_o, ui_k, uj_o, uj_k, ui_j, uj_i]
        rw [R.lz s h0]
        exact sm_cg (fun j hj => by simp (disch := first | decide | exact ad_ne (by decide) | exact ad_m (by decide) | exact ad_l (by decide) | exact ad_g (by decide) | exact ad_lt (by decide) | exact ad_o (by decide) | omega) only [↓ui_s, ↓uj_s, ↓ui_o, ↓ui_k, ↓uj_o, ↓uj_k, ↓ui_j, ↓uj_i, ui_s, uj_s, ui_o, ui_k, uj_o, uj_k, ui_j, uj_i])), fun s i h0 h1 => by simp (disch := first | decide | exact ad_ne (by decide) | exact ad_m (by decide) | exact ad_l (by decide) | exact ad_g (by decide) | exact ad_lt (by decide) | exact ad_o (by decide) | omega) only [↓ui_s, ↓uj_s, ↓ui_o, ↓ui_k, ↓uj_o, ↓uj_k, ↓ui_j, ↓uj_i, ui_s, uj_s, ui_o, ui_k, uj_o, uj_k, ui_j, uj_i] at h1 ⊢; exact R.sv s i h0 h1, fun s h0 => by simp (disch := first | decide | exact ad_ne (by decide) | exact ad_m (by decide) | exact ad_l (by decide) | exact ad_g (by decide) | exact ad_lt (by decide) | exact ad_o (by decide) | omega) only [↓ui_s, ↓uj_s, ↓ui_o, ↓ui_k, ↓uj_o, ↓uj_k, ↓ui_j, ↓uj_i, ui_s, uj_s, ui_o, ui_k, uj_o, uj_k, ui_j, uj_i]; rw [R.tk s h0]; exact congrArg (fun f => kb f 34) (tkM_cg (R.rb s h0) (fun i hi => by simp (disch := first | decide | exact ad_ne (by decide) | exact ad_m (by decide) | exact ad_l (by decide) | exact ad_g (by decide) | exact ad_lt (by decide) | exact ad_o (by decide) | omega) only [↓ui_s, ↓uj_s, ↓ui_o, ↓ui_k, ↓uj_o, ↓uj_k, ↓ui_j, ↓uj_i, ui_s, uj_s, ui_o, ui_k, uj_o, uj_k, ui_j, uj_i]) (by simp (disch := first | decide | exact ad_ne (by decide) | exact ad_m (by decide) | exact ad_l (by decide) | exact ad_g (by decide) | exact ad_lt (by decide) | exact ad_o (by decide) | omega) only [↓ui_s, ↓uj_s, ↓ui_o, ↓ui_k, ↓uj_o, ↓uj_k, ↓ui_j, ↓uj_i, ui_s, uj_s, ui_o, ui_k, uj_o, uj_k, ui_j, uj_i])), fun s h0 => by simp (disch := first | decide | exact ad_ne (by decide) | exact ad_m (by decide) | exact ad_l (by decide) | exact ad_g (by decide) | exact ad_lt (by decide) | exact ad_o (by decide) | omega) only [↓ui_s, ↓uj_s, ↓ui_o, ↓ui_k, ↓uj_o, ↓uj_k, ↓ui_j, ↓uj_i, ui_s, uj_s, ui_o, ui_k, uj_o, uj_k, ui_j, uj_i]; exact R.rb s h0, fun s i h0 h1 => by simp (disch := first | decide | exact ad_ne (by decide) | exact ad_m (by decide) | exact ad_l (by decide) | exact ad_g (by decide) | exact ad_lt (by decide) | exact ad_o (by decide) | omega) only [↓ui_s, ↓uj_s, ↓ui_o, ↓ui_k, ↓uj_o, ↓uj_k, ↓ui_j, ↓uj_i, ui_s, uj_s, ui_o, ui_k, uj_o, uj_k, ui_j, uj_i] at h1 ⊢; exact R.rk s i h0 h1, (by simp (disch := first | decide | exact ad_ne (by decide) | exact ad_m (by decide) | exact ad_l (by decide) | exact ad_g (by decide) | exact ad_lt (by decide) | exact ad_o (by decide) | omega) only [↓ui_s, ↓uj_s, ↓ui_o, ↓ui_k, ↓uj_o, ↓uj_k, ↓ui_j, ↓uj_i, ui_s, uj_s, ui_o, ui_k, uj_o, uj_k, ui_j, uj_i]; exact R.rd), fun s h0 => by simp (disch := first | decide | exact ad_ne (by decide) | exact ad_m (by decide) | exact ad_l (by decide) | exact ad_g (by decide) | exact ad_lt (by decide) | exact ad_o (by decide) | omega) only [↓ui_s, ↓uj_s, ↓ui_o, ↓ui_k, ↓uj_o, ↓uj_k, ↓ui_j, ↓uj_i, ui_s, uj_s, ui_o, ui_k, uj_o, uj_k, ui_j, uj_i]; exact R.bb s h0, fun z => by simp (disch := first | decide | exact ad_ne (by decide) | exact ad_m (by decide) | exact ad_l (by decide) | exact ad_g (by decide) | exact ad_lt (by decide) | exact ad_o (by decide) | omega) only [↓ui_s, ↓uj_s, ↓ui_o, ↓ui_k, ↓uj_o, ↓uj_k, ↓ui_j, ↓uj_i, ui_s, uj_s, ui_o, ui_k, uj_o, uj_k, ui_j, uj_i] at z ⊢; exact R.wp z⟩
  | false =>
    rw [cond_false, cond_false]
    exact ⟨(by simp (disch := first | decide | exact ad_ne (by decide) | exact ad_m (by decide) | exact ad_l (by decide) | exact ad_g (by decide) | exact ad_lt (by decide) | exact ad_o (by decide) | omega) only [↓ui_s, ↓uj_s, ↓ui_o, ↓ui_k, ↓uj_o, ↓uj_k, ↓ui_j, ↓uj_i, ui_s, uj_s, ui_o, ui_k, uj_o, uj_k, ui_j, uj_i]; exact R.dl), (by simp (disch := first | decide | exact ad_ne (by decide) | exact ad_m (by decide) | exact ad_l (by decide) | exact ad_g (by decide) | exact ad_lt (by decide) | exact ad_o (by decide) | omega) only [↓ui_s, ↓uj_s, ↓ui_o, ↓ui_k, ↓uj_o, ↓uj_k, ↓ui_j, ↓uj_i, ui_s, uj_s, ui_o, ui_k, uj_o, uj_k, ui_j, uj_i]; exact R.rn), (by simp (disch := first | decide | exact ad_ne (by decide) | exact ad_m (by decide) | exact ad_l (by decide) | exact ad_g (by decide) | exact ad_lt (by decide) | exact ad_o (by decide) | omega) only [↓ui_s, ↓uj_s, ↓ui_o, ↓ui_k, ↓uj_o, ↓uj_k, ↓ui_j, ↓uj_i, ui_s, uj_s, ui_o, ui_k, uj_o, uj_k, ui_j, uj_i]; exact R.st), (by simp (disch := first | decide | exact ad_ne (by decide) | exact ad_m (by decide) | exact ad_l (by decide) | exact ad_g (by decide) | exact ad_lt (by decide) | exact ad_o (by decide) | omega) only [↓ui_s, ↓uj_s, ↓ui_o, ↓ui_k, ↓uj_o, ↓uj_k, ↓ui_j, ↓uj_i, ui_s, uj_s, ui_o, ui_k, uj_o, uj_k, ui_j, uj_i]; exact R.bt), (by simp (disch := first | decide | exact ad_ne (by decide) | exact ad_m (by decide) | exact ad_l (by decide) | exact ad_g (by decide) | exact ad_lt (by decide) | exact ad_o (by decide) | omega) only [↓ui_s, ↓uj_s, ↓ui_o, ↓ui_k, ↓uj_o, ↓uj_k, ↓ui_j, ↓uj_i, ui_s, uj_s, ui_o, ui_k, uj_o, uj_k, ui_j, uj_i]; exact R.en), (by simp (disch := first | decide | exact ad_ne (by decide) | exact ad_m (by decide) | exact ad_l (by decide) | exact ad_g (by decide) | exact ad_lt (by decide) | exact ad_o (by decide) | omega) only [↓ui_s, ↓uj_s, ↓ui_o, ↓ui_k, ↓uj_o, ↓uj_k, ↓ui_j, ↓uj_i, ui_s, uj_s, ui_o, ui_k, uj_o, uj_k, ui_j, uj_i]; exact R.he), (by simp (disch := first | decide | exact ad_ne (by decide) | exact ad_m (by decide) | exact ad_l (by decide) | exact ad_g (by decide) | exact ad_lt (by decide) | exact ad_o (by decide) | omega) only [↓ui_s, ↓uj_s, ↓ui_o, ↓ui_k, ↓uj_o, ↓uj_k, ↓ui_j, ↓uj_i, ui_s, uj_s, ui_o, ui_k, uj_o, uj_k, ui_j, uj_i]; exact R.wc), (by simp (disch := first | decide | exact ad_ne (by decide) | exact ad_m (by decide) | exact ad_l (by decide) | exact ad_g (by decide) | exact ad_lt (by decide) | exact ad_o (by decide) | omega) only [↓ui_s, ↓uj_s, ↓ui_o, ↓ui_k, ↓uj_o, ↓uj_k, ↓ui_j, ↓uj_i, ui_s, uj_s, ui_o, ui_k, uj_o, uj_k, ui_j, uj_i]; exact R.sd), (by simp (disch := first | decide | exact ad_ne (by decide) | exact ad_m (by decide) | exact ad_l (by decide) | exact ad_g (by decide) | exact ad_lt (by decide) | exact ad_o (by decide) | omega) only [↓ui_s, ↓uj_s, ↓ui_o, ↓ui_k, ↓uj_o, ↓uj_k, ↓ui_j, ↓uj_i, ui_s, uj_s, ui_o, ui_k, uj_o, uj_k, ui_j, uj_i]), fun i h0 => by simp (disch := first | decide | exact ad_ne (by decide) | exact ad_m (by decide) | exact ad_l (by decide) | exact ad_g (by decide) | exact ad_lt (by decide) | exact ad_o (by decide) | omega) only [↓ui_s, ↓uj_s, ↓ui_o, ↓ui_k, ↓uj_o, ↓uj_k, ↓ui_j, ↓uj_i, ui_s, uj_s, ui_o, ui_k, uj_o, uj_k, ui_j, uj_i]; exact R.wl i h0, fun s h0 => by simp (disch := first | decide | exact ad_ne (by decide) | exact ad_m (by decide) | exact ad_l (by decide) | exact ad_g (by decide) | exact ad_lt (by decide) | exact ad_o (by decide) | omega) only [↓ui_s, ↓uj_s, ↓ui_o, ↓ui_k, ↓uj_o, ↓uj_k, ↓ui_j, ↓uj_i, ui_s, uj_s, ui_o, ui_k, uj_o, uj_k, ui_j, uj_i]; exact R.pt s h0, fun s h0 => by simp (disch := first | decide | exact ad_ne (by decide) | exact ad_m (by decide) | exact ad_l (by decide) | exact ad_g (by decide) | exact ad_lt (by decide) | exact ad_o (by decide) | omega) only [↓ui_s, ↓uj_s, ↓ui_o, ↓ui_k, ↓uj_o, ↓uj_k, ↓ui_j, ↓uj_i, ui_s, uj_s, ui_o, ui_k, uj_o, uj_k, ui_j, uj_i]; exact R.be s h0, fun s h0 => by simp (disch := first | decide | exact ad_ne (by decide) | exact ad_m (by decide) | exact ad_l (by decide) | exact ad_g (by decide) | exact ad_lt (by decide) | exact ad_o (by decide) | omega) only [↓ui_s, ↓uj_s, ↓ui_o, ↓ui_k, ↓uj_o, ↓uj_k, ↓ui_j, ↓uj_i, ui_s, uj_s, ui_o, ui_k, uj_o, uj_k, ui_j, uj_i]; exact R.ao s h0, fun s h0 => by simp (disch := first | decide | exact ad_ne (by decide) | exact ad_m (by decide) | exact ad_l (by decide) | exact ad_g (by decide) | exact ad_lt (by decide) | exact ad_o (by decide) | omega) only [↓ui_s, ↓uj_s, ↓ui_o, ↓ui_k, ↓uj_o, ↓uj_k, ↓ui_j, ↓uj_i, ui_s, uj_s, ui_o, ui_k, uj_o, uj_k, ui_j, uj_i]; exact R.lg s h0, fun s h0 => by simp (disch := first | decide | exact ad_ne (by decide) | exact ad_m (by decide) | exact ad_l (by decide) | exact ad_g (by decide) | exact ad_lt (by decide) | exact ad_o (by decide) | omega) only [↓ui_s, ↓uj_s, ↓ui_o, ↓ui_k, ↓uj_o, ↓uj_k, ↓ui_j, ↓uj_i, ui_s, uj_s, ui_o, ui_k, uj_o, uj_k, ui_j, uj_i]; exact R.sy s h0, fun s h0 => by simp (disch := first | decide | exact ad_ne (by decide) | exact ad_m (by decide) | exact ad_l (by decide) | exact ad_g (by decide) | exact ad_lt (by decide) | exact ad_o (by decide) | omega) only [↓ui_s, ↓uj_s, ↓ui_o, ↓ui_k, ↓uj_o, ↓uj_k, ↓ui_j, ↓uj_i, ui_s, uj_s, ui_o, ui_k, uj_o, uj_k, ui_j, uj_i]; exact R.ds s h0, fun s h0 => by simp (disch := first | decide | exact ad_ne (by decide) | exact ad_m (by decide) | exact ad_l (by decide) | exact ad_g (by decide) | exact ad_lt (by decide) | exact ad_o (by decide) | omega) only [↓ui_s, ↓uj_s, ↓ui_o, ↓ui_k, ↓uj_o, ↓uj_k, ↓ui_j, ↓uj_i, ui_s, uj_s, ui_o, ui_k, uj_o, uj_k, ui_j, uj_i]; exact R.lm s h0, (fun s k2 h0 h1 => by
      by_cases e : s = t
      · subst e
        by_cases e2 : k2 = k
        · subst e2; simp (disch := first | decide | exact ad_ne (by decide) | exact ad_m (by decide) | exact ad_l (by decide) | exact ad_g (by decide) | exact ad_lt (by decide) | exact ad_o (by decide) | omega) only [↓ui_s, ↓uj_s, ↓ui_o, ↓ui_k, ↓uj_o, ↓uj_k, ↓ui_j, ↓uj_i, ui_s, uj_s, ui_o, ui_k, uj_o, uj_k, ui_j, uj_i]; rw [R.hd s k2 h0 h1]
        · simp (disch := first | decide | exact ad_ne (by decide) | exact ad_m (by decide) | exact ad_l (by decide) | exact ad_g (by decide) | exact ad_lt (by decide) | exact ad_o (by decide) | omega) only [↓ui_s, ↓uj_s, ↓ui_o, ↓ui_k, ↓uj_o, ↓uj_k, ↓ui_j, ↓uj_i, ui_s, uj_s, ui_o, ui_k, uj_o, uj_k, ui_j, uj_i]; exact R.hd s k2 h0 h1
      · simp (disch := first | decide | exact ad_ne (by decide) | exact ad_m (by decide) | exact ad_l (by decide) | exact ad_g (by decide) | exact ad_lt (by decide) | exact ad_o (by decide) | omega) only [↓ui_s, ↓uj_s, ↓ui_o, ↓ui_k, ↓uj_o, ↓uj_k, ↓ui_j, ↓uj_i, ui_s, uj_s, ui_o, ui_k, uj_o, uj_k, ui_j, uj_i]; exact R.hd s k2 h0 h1), fun s i h0 h1 => by simp (disch := first | decide | exact ad_ne (by decide) | exact ad_m (by decide) | exact ad_l (by decide) | exact ad_g (by decide) | exact ad_lt (by decide) | exact ad_o (by decide) | omega) only [↓ui_s, ↓uj_s, ↓ui_o, ↓ui_k, ↓uj_o, ↓uj_k, ↓ui_j, ↓uj_i, ui_s, uj_s, ui_o, ui_k, uj_o, uj_k, ui_j, uj_i]; exact R.so s i h0 h1, fun s i h0 h1 => by simp (disch := first | decide | exact ad_ne (by decide) | exact ad_m (by decide) | exact ad_l (by decide) | exact ad_g (by decide) | exact ad_lt (by decide) | exact ad_o (by decide) | omega) only [↓ui_s, ↓uj_s, ↓ui_o, ↓ui_k, ↓uj_o, ↓uj_k, ↓ui_j, ↓uj_i, ui_s, uj_s, ui_o, ui_k, uj_o, uj_k, ui_j, uj_i]; exact R.lo s i h0 h1, fun s i h0 h1 => by simp (disch := first | decide | exact ad_ne (by decide) | exact ad_m (by decide) | exact ad_l (by decide) | exact ad_g (by decide) | exact ad_lt (by decide) | exact ad_o (by decide) | omega) only [↓ui_s, ↓uj_s, ↓ui_o, ↓ui_k, ↓uj_o, ↓uj_k, ↓ui_j, ↓uj_i, ui_s, uj_s, ui_o, ui_k, uj_o, uj_k, ui_j, uj_i]; exact R.rv s i h0 h1, fun i f h0 h1 h2 => by simp (disch := first | decide | exact ad_ne (by decide) | exact ad_m (by decide) | exact ad_l (by decide) | exact ad_g (by decide) | exact ad_lt (by decide) | exact ad_o (by decide) | omega) only [↓ui_s, ↓uj_s, ↓ui_o, ↓ui_k, ↓uj_o, ↓uj_k, ↓ui_j, ↓uj_i, ui_s, uj_s, ui_o, ui_k, uj_o, uj_k, ui_j, uj_i]; exact R.wi i f h0 h1 h2, fun i h0 => by simp (disch := first | decide | exact ad_ne (by decide) | exact ad_m (by decide) | exact ad_l (by decide) | exact ad_g (by decide) | exact ad_lt (by decide) | exact ad_o (by decide) | omega) only [↓ui_s, ↓uj_s, ↓ui_o, ↓ui_k, ↓uj_o, ↓uj_k, ↓ui_j, ↓uj_i, ui_s, uj_s, ui_o, ui_k, uj_o, uj_k, ui_j, uj_i]; exact R.wf i h0, (fun s k2 h0 h1 => by
      by_cases e : s = t
      · subst e
        by_cases e2 : k2 = k
        · subst e2; simp (disch := first | decide | exact ad_ne (by decide) | exact ad_m (by decide) | exact ad_l (by decide) | exact ad_g (by decide) | exact ad_lt (by decide) | exact ad_o (by decide) | omega) only [↓ui_s, ↓uj_s, ↓ui_o, ↓ui_k, ↓uj_o, ↓uj_k, ↓ui_j, ↓uj_i, ui_s, uj_s, ui_o, ui_k, uj_o, uj_k, ui_j, uj_i]; rw [ofv_add]; exact congrArg (· + 1) (R.al s k2 h0 h1)
        · simp (disch := first | decide | exact ad_ne (by decide) | exact ad_m (by decide) | exact ad_l (by decide) | exact ad_g (by decide) | exact ad_lt (by decide) | exact ad_o (by decide) | omega) only [↓ui_s, ↓uj_s, ↓ui_o, ↓ui_k, ↓uj_o, ↓uj_k, ↓ui_j, ↓uj_i, ui_s, uj_s, ui_o, ui_k, uj_o, uj_k, ui_j, uj_i]; exact R.al s k2 h0 h1
      · simp (disch := first | decide | exact ad_ne (by decide) | exact ad_m (by decide) | exact ad_l (by decide) | exact ad_g (by decide) | exact ad_lt (by decide) | exact ad_o (by decide) | omega) only [↓ui_s, ↓uj_s, ↓ui_o, ↓ui_k, ↓uj_o, ↓uj_k, ↓ui_j, ↓uj_i, ui_s, uj_s, ui_o, ui_k, uj_o, uj_k, ui_j, uj_i]; exact R.al s k2 h0 h1), (fun s h0 => by
      by_cases e : s = t
      · subst e
        simp (disch := first | decide | exact ad_ne (by decide) | exact ad_m (by decide) | exact ad_l (by decide) | exact ad_g (by decide) | exact ad_lt (by decide) | exact ad_o (by decide) | omega) only [↓ui_s, ↓uj_s, ↓ui_o, ↓ui_k, ↓uj_o, ↓uj_k, ↓ui_j, ↓uj_i, ui_s, uj_s, ui_o, ui_k, uj_o, uj_k, ui_j, uj_i]
        rw [R.lz s h0]
        exact (sm_up9 hk (fun j hj hn => by simp (disch := first | decide | exact ad_ne (by decide) | exact ad_m (by decide) | exact ad_l (by decide) | exact ad_g (by decide) | exact ad_lt (by decide) | exact ad_o (by decide) | omega) only [↓ui_s, ↓uj_s, ↓ui_o, ↓ui_k, ↓uj_o, ↓uj_k, ↓ui_j, ↓uj_i, ui_s, uj_s, ui_o, ui_k, uj_o, uj_k, ui_j, uj_i]) (by simp (disch := first | decide | exact ad_ne (by decide) | exact ad_m (by decide) | exact ad_l (by decide) | exact ad_g (by decide) | exact ad_lt (by decide) | exact ad_o (by decide) | omega) only [↓ui_s, ↓uj_s, ↓ui_o, ↓ui_k, ↓uj_o, ↓uj_k, ↓ui_j, ↓uj_i, ui_s, uj_s, ui_o, ui_k, uj_o, uj_k, ui_j, uj_i])).symm
      · simp (disch := first | decide | exact ad_ne (by decide) | exact ad_m (by decide) | exact ad_l (by decide) | exact ad_g (by decide) | exact ad_lt (by decide) | exact ad_o (by decide) | omega) only [↓ui_s, ↓uj_s, ↓ui_o, ↓ui_k, ↓uj_o, ↓uj_k, ↓ui_j, ↓uj_i, ui_s, uj_s, ui_o, ui_k, uj_o, uj_k, ui_j, uj_i]
        rw [R.lz s h0]
        exact sm_cg (fun j hj => by simp (disch := first | decide | exact ad_ne (by decide) | exact ad_m (by decide) | exact ad_l (by decide) | exact ad_g (by decide) | exact ad_lt (by decide) | exact ad_o (by decide) | omega) only [↓ui_s, ↓uj_s, ↓ui_o, ↓ui_k, ↓uj_o, ↓uj_k, ↓ui_j, ↓uj_i, ui_s, uj_s, ui_o, ui_k, uj_o, uj_k, ui_j, uj_i])), fun s i h0 h1 => by simp (disch := first | decide | exact ad_ne (by decide) | exact ad_m (by decide) | exact ad_l (by decide) | exact ad_g (by decide) | exact ad_lt (by decide) | exact ad_o (by decide) | omega) only [↓ui_s, ↓uj_s, ↓ui_o, ↓ui_k, ↓uj_o, ↓uj_k, ↓ui_j, ↓uj_i, ui_s, uj_s, ui_o, ui_k, uj_o, uj_k, ui_j, uj_i] at h1 ⊢; exact R.sv s i h0 h1, fun s h0 => by simp (disch := first | decide | exact ad_ne (by decide) | exact ad_m (by decide) | exact ad_l (by decide) | exact ad_g (by decide) | exact ad_lt (by decide) | exact ad_o (by decide) | omega) only [↓ui_s, ↓uj_s, ↓ui_o, ↓ui_k, ↓uj_o, ↓uj_k, ↓ui_j, ↓uj_i, ui_s, uj_s, ui_o, ui_k, uj_o, uj_k, ui_j, uj_i]; rw [R.tk s h0]; exact congrArg (fun f => kb f 34) (tkM_cg (R.rb s h0) (fun i hi => by simp (disch := first | decide | exact ad_ne (by decide) | exact ad_m (by decide) | exact ad_l (by decide) | exact ad_g (by decide) | exact ad_lt (by decide) | exact ad_o (by decide) | omega) only [↓ui_s, ↓uj_s, ↓ui_o, ↓ui_k, ↓uj_o, ↓uj_k, ↓ui_j, ↓uj_i, ui_s, uj_s, ui_o, ui_k, uj_o, uj_k, ui_j, uj_i]) (by simp (disch := first | decide | exact ad_ne (by decide) | exact ad_m (by decide) | exact ad_l (by decide) | exact ad_g (by decide) | exact ad_lt (by decide) | exact ad_o (by decide) | omega) only [↓ui_s, ↓uj_s, ↓ui_o, ↓ui_k, ↓uj_o, ↓uj_k, ↓ui_j, ↓uj_i, ui_s, uj_s, ui_o, ui_k, uj_o, uj_k, ui_j, uj_i])), fun s h0 => by simp (disch := first | decide | exact ad_ne (by decide) | exact ad_m (by decide) | exact ad_l (by decide) | exact ad_g (by decide) | exact ad_lt (by decide) | exact ad_o (by decide) | omega) only [↓ui_s, ↓uj_s, ↓ui_o, ↓ui_k, ↓uj_o, ↓uj_k, ↓ui_j, ↓uj_i, ui_s, uj_s, ui_o, ui_k, uj_o, uj_k, ui_j, uj_i]; exact R.rb s h0, fun s i h0 h1 => by simp (disch := first | decide | exact ad_ne (by decide) | exact ad_m (by decide) | exact ad_l (by decide) | exact ad_g (by decide) | exact ad_lt (by decide) | exact ad_o (by decide) | omega) only [↓ui_s, ↓uj_s, ↓ui_o, ↓ui_k, ↓uj_o, ↓uj_k, ↓ui_j, ↓uj_i, ui_s, uj_s, ui_o, ui_k, uj_o, uj_k, ui_j, uj_i] at h1 ⊢; exact R.rk s i h0 h1, (by simp (disch := first | decide | exact ad_ne (by decide) | exact ad_m (by decide) | exact ad_l (by decide) | exact ad_g (by decide) | exact ad_lt (by decide) | exact ad_o (by decide) | omega) only [↓ui_s, ↓uj_s, ↓ui_o, ↓ui_k, ↓uj_o, ↓uj_k, ↓ui_j, ↓uj_i, ui_s, uj_s, ui_o, ui_k, uj_o, uj_k, ui_j, uj_i]; exact R.rd), fun s h0 => by simp (disch := first | decide | exact ad_ne (by decide) | exact ad_m (by decide) | exact ad_l (by decide) | exact ad_g (by decide) | exact ad_lt (by decide) | exact ad_o (by decide) | omega) only [↓ui_s, ↓uj_s, ↓ui_o, ↓ui_k, ↓uj_o, ↓uj_k, ↓ui_j, ↓uj_i, ui_s, uj_s, ui_o, ui_k, uj_o, uj_k, ui_j, uj_i]; exact R.bb s h0, fun z => by simp (disch := first | decide | exact ad_ne (by decide) | exact ad_m (by decide) | exact ad_l (by decide) | exact ad_g (by decide) | exact ad_lt (by decide) | exact ad_o (by decide) | omega) only [↓ui_s, ↓uj_s, ↓ui_o, ↓ui_k, ↓uj_o, ↓uj_k, ↓ui_j, ↓uj_i, ui_s, uj_s, ui_o, ui_k, uj_o, uj_k, ui_j, uj_i] at z ⊢; exact R.wp z⟩
theorem rc_draw1 {x m : zM} (R : RCl x m) {t n k : Nat} (ht : t < 4) (hk : k < 34) : RCl (dT1 x t n k) (dM1 m t n k) := by
  have e5 := R.be t ht
  unfold dT1 dM1 pS z_giv
  rw [e5]
  cases hb : decide (m.1 67 t = 0) with
  | true =>
    rw [cond_true, cond_true]
    exact ⟨(by simp (disch := first | decide | exact ad_ne (by decide) | exact ad_m (by decide) | exact ad_l (by decide) | exact ad_g (by decide) | exact ad_lt (by decide) | exact ad_o (by decide) | omega) only [↓ui_s, ↓uj_s, ↓ui_o, ↓ui_k, ↓uj_o, ↓uj_k, ↓ui_j, ↓uj_i, ui_s, uj_s, ui_o, ui_k, uj_o, uj_k, ui_j, uj_i]; exact R.dl), (by simp (disch := first | decide | exact ad_ne (by decide) | exact ad_m (by decide) | exact ad_l (by decide) | exact ad_g (by decide) | exact ad_lt (by decide) | exact ad_o (by decide) | omega) only [↓ui_s, ↓uj_s, ↓ui_o, ↓ui_k, ↓uj_o, ↓uj_k, ↓ui_j, ↓uj_i, ui_s, uj_s, ui_o, ui_k, uj_o, uj_k, ui_j, uj_i]; exact R.rn), (by simp (disch := first | decide | exact ad_ne (by decide) | exact ad_m (by decide) | exact ad_l (by decide) | exact ad_g (by decide) | exact ad_lt (by decide) | exact ad_o (by decide) | omega) only [↓ui_s, ↓uj_s, ↓ui_o, ↓ui_k, ↓uj_o, ↓uj_k, ↓ui_j, ↓uj_i, ui_s, uj_s, ui_o, ui_k, uj_o, uj_k, ui_j, uj_i]; exact R.st), (by simp (disch := first | decide | exact ad_ne (by decide) | exact ad_m (by decide) | exact ad_l (by decide) | exact ad_g (by decide) | exact ad_lt (by decide) | exact ad_o (by decide) | omega) only [↓ui_s, ↓uj_s, ↓ui_o, ↓ui_k, ↓uj_o, ↓uj_k, ↓ui_j, ↓uj_i, ui_s, uj_s, ui_o, ui_k, uj_o, uj_k, ui_j, uj_i]; exact R.bt), (by simp (disch := first | decide | exact ad_ne (by decide) | exact ad_m (by decide) | exact ad_l (by decide) | exact ad_g (by decide) | exact ad_lt (by decide) | exact ad_o (by decide) | omega) only [↓ui_s, ↓uj_s, ↓ui_o, ↓ui_k, ↓uj_o, ↓uj_k, ↓ui_j, ↓uj_i, ui_s, uj_s, ui_o, ui_k, uj_o, uj_k, ui_j, uj_i]; exact R.en), (by simp (disch := first | decide | exact ad_ne (by decide) | exact ad_m (by decide) | exact ad_l (by decide) | exact ad_g (by decide) | exact ad_lt (by decide) | exact ad_o (by decide) | omega) only [↓ui_s, ↓uj_s, ↓ui_o, ↓ui_k, ↓uj_o, ↓uj_k, ↓ui_j, ↓uj_i, ui_s, uj_s, ui_o, ui_k, uj_o, uj_k, ui_j, uj_i]; exact R.he), (by simp (disch := first | decide | exact ad_ne (by decide) | exact ad_m (by decide) | exact ad_l (by decide) | exact ad_g (by decide) | exact ad_lt (by decide) | exact ad_o (by decide) | omega) only [↓ui_s, ↓uj_s, ↓ui_o, ↓ui_k, ↓uj_o, ↓uj_k, ↓ui_j, ↓uj_i, ui_s, uj_s, ui_o, ui_k, uj_o, uj_k, ui_j, uj_i]; exact R.wc), (by simp (disch := first | decide | exact ad_ne (by decide) | exact ad_m (by decide) | exact ad_l (by decide) | exact ad_g (by decide) | exact ad_lt (by decide) | exact ad_o (by decide) | omega) only [↓ui_s, ↓uj_s, ↓ui_o, ↓ui_k, ↓uj_o, ↓uj_k, ↓ui_j, ↓uj_i, ui_s, uj_s, ui_o, ui_k, uj_o, uj_k, ui_j, uj_i]; exact R.sd), (by simp (disch := first | decide | exact ad_ne (by decide) | exact ad_m (by decide) | exact ad_l (by decide) | exact ad_g (by decide) | exact ad_lt (by decide) | exact ad_o (by decide) | omega) only [↓ui_s, ↓uj_s, ↓ui_o, ↓ui_k, ↓uj_o, ↓uj_k, ↓ui_j, ↓uj_i, ui_s, uj_s, ui_o, ui_k, uj_o, uj_k, ui_j, uj_i]; exact R.nx), fun i h0 => by simp (disch := first | decide | exact ad_ne (by decide) | exact ad_m (by decide) | exact ad_l (by decide) | exact ad_g (by decide) | exact ad_lt (by decide) | exact ad_o (by decide) | omega) only [↓ui_s, ↓uj_s, ↓ui_o, ↓ui_k, ↓uj_o, ↓uj_k, ↓ui_j, ↓uj_i, ui_s, uj_s, ui_o, ui_k, uj_o, uj_k, ui_j, uj_i]; exact R.wl i h0, fun s h0 => by simp (disch := first | decide | exact ad_ne (by decide) | exact ad_m (by decide) | exact ad_l (by decide) | exact ad_g (by decide) | exact ad_lt (by decide) | exact ad_o (by decide) | omega) only [↓ui_s, ↓uj_s, ↓ui_o, ↓ui_k, ↓uj_o, ↓uj_k, ↓ui_j, ↓uj_i, ui_s, uj_s, ui_o, ui_k, uj_o, uj_k, ui_j, uj_i]; exact R.pt s h0, fun s h0 => by simp (disch := first | decide | exact ad_ne (by decide) | exact ad_m (by decide) | exact ad_l (by decide) | exact ad_g (by decide) | exact ad_lt (by decide) | exact ad_o (by decide) | omega) only [↓ui_s, ↓uj_s, ↓ui_o, ↓ui_k, ↓uj_o, ↓uj_k, ↓ui_j, ↓uj_i, ui_s, uj_s, ui_o, ui_k, uj_o, uj_k, ui_j, uj_i]; exact R.be s h0, fun s h0 => by simp (disch := first | decide | exact ad_ne (by decide) | exact ad_m (by decide) | exact ad_l (by decide) | exact ad_g (by decide) | exact ad_lt (by decide) | exact ad_o (by decide) | omega) only [↓ui_s, ↓uj_s, ↓ui_o, ↓ui_k, ↓uj_o, ↓uj_k, ↓ui_j, ↓uj_i, ui_s, uj_s, ui_o, ui_k, uj_o, uj_k, ui_j, uj_i]; exact R.ao s h0, (fun s h0 => by
      by_cases e : s = t
      · subst e; simp (disch := first | decide | exact ad_ne (by decide) | exact ad_m (by decide) | exact ad_l (by decide) | exact ad_g (by decide) | exact ad_lt (by decide) | exact ad_o (by decide) | omega) only [↓ui_s, ↓uj_s, ↓ui_o, ↓ui_k, ↓uj_o, ↓uj_k, ↓ui_j, ↓uj_i, ui_s, uj_s, ui_o, ui_k, uj_o, uj_k, ui_j, uj_i]
      · simp (disch := first | decide | exact ad_ne (by decide) | exact ad_m (by decide) | exact ad_l (by decide) | exact ad_g (by decide) | exact ad_lt (by decide) | exact ad_o (by decide) | omega) only [↓ui_s, ↓uj_s, ↓ui_o, ↓ui_k, ↓uj_o, ↓uj_k, ↓ui_j, ↓uj_i, ui_s, uj_s, ui_o, ui_k, uj_o, uj_k, ui_j, uj_i]; exact R.lg s h0), fun s h0 => by simp (disch := first | decide | exact ad_ne (by decide) | exact ad_m (by decide) | exact ad_l (by decide) | exact ad_g (by decide) | exact ad_lt (by decide) | exact ad_o (by decide) | omega) only [↓ui_s, ↓uj_s, ↓ui_o, ↓ui_k, ↓uj_o, ↓uj_k, ↓ui_j, ↓uj_i, ui_s, uj_s, ui_o, ui_k, uj_o, uj_k, ui_j, uj_i]; exact R.sy s h0, fun s h0 => by simp (disch := first | decide | exact ad_ne (by decide) | exact ad_m (by decide) | exact ad_l (by decide) | exact ad_g (by decide) | exact ad_lt (by decide) | exact ad_o (by decide) | omega) only [↓ui_s, ↓uj_s, ↓ui_o, ↓ui_k, ↓uj_o, ↓uj_k, ↓ui_j, ↓uj_i, ui_s, uj_s, ui_o, ui_k, uj_o, uj_k, ui_j, uj_i]; exact R.ds s h0, fun s h0 => by simp (disch := first | decide | exact ad_ne (by decide) | exact ad_m (by decide) | exact ad_l (by decide) | exact ad_g (by decide) | exact ad_lt (by decide) | exact ad_o (by decide) | omega) only [↓ui_s, ↓uj_s, ↓ui_o, ↓ui_k, ↓uj_o, ↓uj_k, ↓ui_j, ↓uj_i, ui_s, uj_s, ui_o, ui_k, uj_o, uj_k, ui_j, uj_i]; exact R.lm s h0, (fun s k2 h0 h1 => by
      by_cases e : s = t
      · subst e
        by_cases e2 : k2 = k
        · subst e2; simp (disch := first | decide | exact ad_ne (by decide) | exact ad_m (by decide) | exact ad_l (by decide) | exact ad_g (by decide) | exact ad_lt (by decide) | exact ad_o (by decide) | omega) only [↓ui_s, ↓uj_s, ↓ui_o, ↓ui_k, ↓uj_o, ↓uj_k, ↓ui_j, ↓uj_i, ui_s, uj_s, ui_o, ui_k, uj_o, uj_k, ui_j, uj_i]; rw [R.hd s k2 h0 h1]
        · simp (disch := first | decide | exact ad_ne (by decide) | exact ad_m (by decide) | exact ad_l (by decide) | exact ad_g (by decide) | exact ad_lt (by decide) | exact ad_o (by decide) | omega) only [↓ui_s, ↓uj_s, ↓ui_o, ↓ui_k, ↓uj_o, ↓uj_k, ↓ui_j, ↓uj_i, ui_s, uj_s, ui_o, ui_k, uj_o, uj_k, ui_j, uj_i]; exact R.hd s k2 h0 h1
      · simp (disch := first | decide | exact ad_ne (by decide) | exact ad_m (by decide) | exact ad_l (by decide) | exact ad_g (by decide) | exact ad_lt (by decide) | exact ad_o (by decide) | omega) only [↓ui_s, ↓uj_s, ↓ui_o, ↓ui_k, ↓uj_o, ↓uj_k, ↓ui_j, ↓uj_i, ui_s, uj_s, ui_o, ui_k, uj_o, uj_k, ui_j, uj_i]; exact R.hd s k2 h0 h1), fun s i h0 h1 => by simp (disch := first | decide | exact ad_ne (by decide) | exact ad_m (by decide) | exact ad_l (by decide) | exact ad_g (by decide) | exact ad_lt (by decide) | exact ad_o (by decide) | omega) only [↓ui_s, ↓uj_s, ↓ui_o, ↓ui_k, ↓uj_o, ↓uj_k, ↓ui_j, ↓uj_i, ui_s, uj_s, ui_o, ui_k, uj_o, uj_k, ui_j, uj_i]; exact R.so s i h0 h1, fun s i h0 h1 => by simp (disch := first | decide | exact ad_ne (by decide) | exact ad_m (by decide) | exact ad_l (by decide) | exact ad_g (by decide) | exact ad_lt (by decide) | exact ad_o (by decide) | omega) only [↓ui_s, ↓uj_s, ↓ui_o, ↓ui_k, ↓uj_o, ↓uj_k, ↓ui_j, ↓uj_i, ui_s, uj_s, ui_o, ui_k, uj_o, uj_k, ui_j, uj_i]; exact R.lo s i h0 h1, fun s i h0 h1 => by simp (disch := first | decide | exact ad_ne (by decide) | exact ad_m (by decide) | exact ad_l (by decide) | exact ad_g (by decide) | exact ad_lt (by decide) | exact ad_o (by decide) | omega) only [↓ui_s, ↓uj_s, ↓ui_o, ↓ui_k, ↓uj_o, ↓uj_k, ↓ui_j, ↓uj_i, ui_s, uj_s, ui_o, ui_k, uj_o, uj_k, ui_j, uj_i]; exact R.rv s i h0 h1, fun i f h0 h1 h2 => by simp (disch := first | decide | exact ad_ne (by decide) | exact ad_m (by decide) | exact ad_l (by decide) | exact ad_g (by decide) | exact ad_lt (by decide) | exact ad_o (by decide) | omega) only [↓ui_s, ↓uj_s, ↓ui_o, ↓ui_k, ↓uj_o, ↓uj_k, ↓ui_j, ↓uj_i, ui_s, uj_s, ui_o, ui_k, uj_o, uj_k, ui_j, uj_i]; exact R.wi i f h0 h1 h2, fun i h0 => by simp (disch := first | decide | exact ad_ne (by decide) | exact ad_m (by decide) | exact ad_l (by decide) | exact ad_g (by decide) | exact ad_lt (by decide) | exact ad_o (by decide) | omega) only [↓ui_s, ↓uj_s, ↓ui_o, ↓ui_k, ↓uj_o, ↓uj_k, ↓ui_j, ↓uj_i, ui_s, uj_s, ui_o, ui_k, uj_o, uj_k, ui_j, uj_i]; exact R.wf i h0, (fun s k2 h0 h1 => by
      by_cases e : s = t
      · subst e
        by_cases e2 : k2 = k
        · subst e2; simp (disch := first | decide | exact ad_ne (by decide) | exact ad_m (by decide) | exact ad_l (by decide) | exact ad_g (by decide) | exact ad_lt (by decide) | exact ad_o (by decide) | omega) only [↓ui_s, ↓uj_s, ↓ui_o, ↓ui_k, ↓uj_o, ↓uj_k, ↓ui_j, ↓uj_i, ui_s, uj_s, ui_o, ui_k, uj_o, uj_k, ui_j, uj_i]; rw [ofv_add]; exact congrArg (· + 1) (R.al s k2 h0 h1)
        · simp (disch := first | decide | exact ad_ne (by decide) | exact ad_m (by decide) | exact ad_l (by decide) | exact ad_g (by decide) | exact ad_lt (by decide) | exact ad_o (by decide) | omega) only [↓ui_s, ↓uj_s, ↓ui_o, ↓ui_k, ↓uj_o, ↓uj_k, ↓ui_j, ↓uj_i, ui_s, uj_s, ui_o, ui_k, uj_o, uj_k, ui_j, uj_i]; exact R.al s k2 h0 h1
      · simp (disch := first | decide | exact ad_ne (by decide) | exact ad_m (by decide) | exact ad_l (by decide) | exact ad_g (by decide) | exact ad_lt (by decide) | exact ad_o (by decide) | omega) only [↓ui_s, ↓uj_s, ↓ui_o, ↓ui_k, ↓uj_o, ↓uj_k, ↓ui_j, ↓uj_i, ui_s, uj_s, ui_o, ui_k, uj_o, uj_k, ui_j, uj_i]; exact R.al s k2 h0 h1), (fun s h0 => by
      by_cases e : s = t
      · subst e
        simp (disch := first | decide | exact ad_ne (by decide) | exact ad_m (by decide) | exact ad_l (by decide) | exact ad_g (by decide) | exact ad_lt (by decide) | exact ad_o (by decide) | omega) only [↓ui_s, ↓uj_s, ↓ui_o, ↓ui_k, ↓uj_o, ↓uj_k, ↓ui_j, ↓uj_i, ui_s, uj_s, ui_o, ui_k, uj_o, uj_k, ui_j, uj_i]
        rw [R.lz s h0]
        exact (sm_up9 hk (fun j hj hn => by simp (disch := first | decide | exact ad_ne (by decide) | exact ad_m (by decide) | exact ad_l (by decide) | exact ad_g (by decide) | exact ad_lt (by decide) | exact ad_o (by decide) | omega) only [↓ui_s, ↓uj_s, ↓ui_o, ↓ui_k, ↓uj_o, ↓uj_k, ↓ui_j, ↓uj_i, ui_s, uj_s, ui_o, ui_k, uj_o, uj_k, ui_j, uj_i]) (by simp (disch := first | decide | exact ad_ne (by decide) | exact ad_m (by decide) | exact ad_l (by decide) | exact ad_g (by decide) | exact ad_lt (by decide) | exact ad_o (by decide) | omega) only [↓ui_s, ↓uj_s, ↓ui_o, ↓ui_k, ↓uj_o, ↓uj_k, ↓ui_j, ↓uj_i, ui_s, uj_s, ui_o, ui_k, uj_o, uj_k, ui_j, uj_i])).symm
      · simp (disch := first | decide | exact ad_ne (by decide) | exact ad_m (by decide) | exact ad_l (by decide) | exact ad_g (by decide) | exact ad_lt (by decide) | exact ad_o (by decide) | omega) only [↓ui_s, ↓uj_s, ↓ui_o, ↓ui_k, ↓uj_o, ↓uj_k, ↓ui_j, ↓uj_i, ui_s, uj_s, ui_o, ui_k, uj_o, uj_k, ui_j, uj_i]
        rw [R.lz s h0]
        exact sm_cg (fun j hj => by simp (disch := first | decide | exact ad_ne (by decide) | exact ad_m (by decide) | exact ad_l (by decide) | exact ad_g (by decide) | exact ad_lt (by decide) | exact ad_o (by decide) | omega) only [↓ui_s, ↓uj_s, ↓ui_o, ↓ui_k, ↓uj_o, ↓uj_k, ↓ui_j, ↓uj_i, ui_s, uj_s, ui_o, ui_k, uj_o, uj_k, ui_j, uj_i])), fun s i h0 h1 => by simp (disch := first | decide | exact ad_ne (by decide) | exact ad_m (by decide) | exact ad_l (by decide) | exact ad_g (by decide) | exact ad_lt (by decide) | exact ad_o (by decide) | omega) only [↓ui_s, ↓uj_s, ↓ui_o, ↓ui_k, ↓uj_o, ↓uj_k, ↓ui_j, ↓uj_i, ui_s, uj_s, ui_o, ui_k, uj_o, uj_k, ui_j, uj_i] at h1 ⊢; exact R.sv s i h0 h1, fun s h0 => by simp (disch := first | decide | exact ad_ne (by decide) | exact ad_m (by decide) | exact ad_l (by decide) | exact ad_g (by decide) | exact ad_lt (by decide) | exact ad_o (by decide) | omega) only [↓ui_s, ↓uj_s, ↓ui_o, ↓ui_k, ↓uj_o, ↓uj_k, ↓ui_j, ↓uj_i, ui_s, uj_s, ui_o, ui_k, uj_o, uj_k, ui_j, uj_i]; rw [R.tk s h0]; exact congrArg (fun f => kb f 34) (tkM_cg (R.rb s h0) (fun i hi => by simp (disch := first | decide | exact ad_ne (by decide) | exact ad_m (by decide) | exact ad_l (by decide) | exact ad_g (by decide) | exact ad_lt (by decide) | exact ad_o (by decide) | omega) only [↓ui_s, ↓uj_s, ↓ui_o, ↓ui_k, ↓uj_o, ↓uj_k, ↓ui_j, ↓uj_i, ui_s, uj_s, ui_o, ui_k, uj_o, uj_k, ui_j, uj_i]) (by simp (disch := first | decide | exact ad_ne (by decide) | exact ad_m (by decide) | exact ad_l (by decide) | exact ad_g (by decide) | exact ad_lt (by decide) | exact ad_o (by decide) | omega) only [↓ui_s, ↓uj_s, ↓ui_o, ↓ui_k, ↓uj_o, ↓uj_k, ↓ui_j, ↓uj_i, ui_s, uj_s, ui_o, ui_k, uj_o, uj_k, ui_j, uj_i])), fun s h0 => by simp (disch := first | decide | exact ad_ne (by decide) | exact ad_m (by decide) | exact ad_l (by decide) | exact ad_g (by decide) | exact ad_lt (by decide) | exact ad_o (by decide) | omega) only [↓ui_s, ↓uj_s, ↓ui_o, ↓ui_k, ↓uj_o, ↓uj_k, ↓ui_j, ↓uj_i, ui_s, uj_s, ui_o, ui_k, uj_o, uj_k, ui_j, uj_i]; exact R.rb s h0, fun s i h0 h1 => by simp (disch := first | decide | exact ad_ne (by decide) | exact ad_m (by decide) | exact ad_l (by decide) | exact ad_g (by decide) | exact ad_lt (by decide) | exact ad_o (by decide) | omega) only [↓ui_s, ↓uj_s, ↓ui_o, ↓ui_k, ↓uj_o, ↓uj_k, ↓ui_j, ↓uj_i, ui_s, uj_s, ui_o, ui_k, uj_o, uj_k, ui_j, uj_i] at h1 ⊢; exact R.rk s i h0 h1, (by simp (disch := first | decide | exact ad_ne (by decide) | exact ad_m (by decide) | exact ad_l (by decide) | exact ad_g (by decide) | exact ad_lt (by decide) | exact ad_o (by decide) | omega) only [↓ui_s, ↓uj_s, ↓ui_o, ↓ui_k, ↓uj_o, ↓uj_k, ↓ui_j, ↓uj_i, ui_s, uj_s, ui_o, ui_k, uj_o, uj_k, ui_j, uj_i]; exact R.rd), fun s h0 => by simp (disch := first | decide | exact ad_ne (by decide) | exact ad_m (by decide) | exact ad_l (by decide) | exact ad_g (by decide) | exact ad_lt (by decide) | exact ad_o (by decide) | omega) only [↓ui_s, ↓uj_s, ↓ui_o, ↓ui_k, ↓uj_o, ↓uj_k, ↓ui_j, ↓uj_i, ui_s, uj_s, ui_o, ui_k, uj_o, uj_k, ui_j, uj_i]; exact R.bb s h0, fun z => by simp (disch := first | decide | exact ad_ne (by decide) | exact ad_m (by decide) | exact ad_l (by decide) | exact ad_g (by decide) | exact ad_lt (by decide) | exact ad_o (by decide) | omega) only [↓ui_s, ↓uj_s, ↓ui_o, ↓ui_k, ↓uj_o, ↓uj_k, ↓ui_j, ↓uj_i, ui_s, uj_s, ui_o, ui_k, uj_o, uj_k, ui_j, uj_i] at z ⊢; exact R.wp z⟩
  | false =>
    rw [cond_false, cond_false]
    exact ⟨(by simp (disch := first | decide | exact ad_ne (by decide) | exact ad_m (by decide) | exact ad_l (by decide) | exact ad_g (by decide) | exact ad_lt (by decide) | exact ad_o (by decide) | omega) only [↓ui_s, ↓uj_s, ↓ui_o, ↓ui_k, ↓uj_o, ↓uj_k, ↓ui_j, ↓uj_i, ui_s, uj_s, ui_o, ui_k, uj_o, uj_k, ui_j, uj_i]; exact R.dl), (by simp (disch := first | decide | exact ad_ne (by decide) | exact ad_m (by decide) | exact ad_l (by decide) | exact ad_g (by decide) | exact ad_lt (by decide) | exact ad_o (by decide) | omega) only [↓ui_s, ↓uj_s, ↓ui_o, ↓ui_k, ↓uj_o, ↓uj_k, ↓ui_j, ↓uj_i, ui_s, uj_s, ui_o, ui_k, uj_o, uj_k, ui_j, uj_i]; exact R.rn), (by simp (disch := first | decide | exact ad_ne (by decide) | exact ad_m (by decide) | exact ad_l (by decide) | exact ad_g (by decide) | exact ad_lt (by decide) | exact ad_o (by decide) | omega) only [↓ui_s, ↓uj_s, ↓ui_o, ↓ui_k, ↓uj_o, ↓uj_k, ↓ui_j, ↓uj_i, ui_s, uj_s, ui_o, ui_k, uj_o, uj_k, ui_j, uj_i]; exact R.st), (by simp (disch := first | decide | exact ad_ne (by decide) | exact ad_m (by decide) | exact ad_l (by decide) | exact ad_g (by decide) | exact ad_lt (by decide) | exact ad_o (by decide) | omega) only [↓ui_s, ↓uj_s, ↓ui_o, ↓ui_k, ↓uj_o, ↓uj_k, ↓ui_j, ↓uj_i, ui_s, uj_s, ui_o, ui_k, uj_o, uj_k, ui_j, uj_i]; exact R.bt), (by simp (disch := first | decide | exact ad_ne (by decide) | exact ad_m (by decide) | exact ad_l (by decide) | exact ad_g (by decide) | exact ad_lt (by decide) | exact ad_o (by decide) | omega) only [↓ui_s, ↓uj_s, ↓ui_o, ↓ui_k, ↓uj_o, ↓uj_k, ↓ui_j, ↓uj_i, ui_s, uj_s, ui_o, ui_k, uj_o, uj_k, ui_j, uj_i]; exact R.en), (by simp (disch := first | decide | exact ad_ne (by decide) | exact ad_m (by decide) | exact ad_l (by decide) | exact ad_g (by decide) | exact ad_lt (by decide) | exact ad_o (by decide) | omega) only [↓ui_s, ↓uj_s, ↓ui_o, ↓ui_k, ↓uj_o, ↓uj_k, ↓ui_j, ↓uj_i, ui_s, uj_s, ui_o, ui_k, uj_o, uj_k, ui_j, uj_i]; exact R.he), (by simp (disch := first | decide | exact ad_ne (by decide) | exact ad_m (by decide) | exact ad_l (by decide) | exact ad_g (by decide) | exact ad_lt (by decide) | exact ad_o (by decide) | omega) only [↓ui_s, ↓uj_s, ↓ui_o, ↓ui_k, ↓uj_o, ↓uj_k, ↓ui_j, ↓uj_i, ui_s, uj_s, ui_o, ui_k, uj_o, uj_k, ui_j, uj_i]; exact R.wc), (by simp (disch := first | decide | exact ad_ne (by decide) | exact ad_m (by decide) | exact ad_l (by decide) | exact ad_g (by decide) | exact ad_lt (by decide) | exact ad_o (by decide) | omega) only [↓ui_s, ↓uj_s, ↓ui_o, ↓ui_k, ↓uj_o, ↓uj_k, ↓ui_j, ↓uj_i, ui_s, uj_s, ui_o, ui_k, uj_o, uj_k, ui_j, uj_i]; exact R.sd), (by simp (disch := first | decide | exact ad_ne (by decide) | exact ad_m (by decide) | exact ad_l (by decide) | exact ad_g (by decide) | exact ad_lt (by decide) | exact ad_o (by decide) | omega) only [↓ui_s, ↓uj_s, ↓ui_o, ↓ui_k, ↓uj_o, ↓uj_k, ↓ui_j, ↓uj_i, ui_s, uj_s, ui_o, ui_k, uj_o, uj_k, ui_j, uj_i]; exact R.nx), fun i h0 => by simp (disch := first | decide | exact ad_ne (by decide) | exact ad_m (by decide) | exact ad_l (by decide) | exact ad_g (by decide) | exact ad_lt (by decide) | exact ad_o (by decide) | omega) only [↓ui_s, ↓uj_s, ↓ui_o, ↓ui_k, ↓uj_o, ↓uj_k, ↓ui_j, ↓uj_i, ui_s, uj_s, ui_o, ui_k, uj_o, uj_k, ui_j, uj_i]; exact R.wl i h0, fun s h0 => by simp (disch := first | decide | exact ad_ne (by decide) | exact ad_m (by decide) | exact ad_l (by decide) | exact ad_g (by decide) | exact ad_lt (by decide) | exact ad_o (by decide) | omega) only [↓ui_s, ↓uj_s, ↓ui_o, ↓ui_k, ↓uj_o, ↓uj_k, ↓ui_j, ↓uj_i, ui_s, uj_s, ui_o, ui_k, uj_o, uj_k, ui_j, uj_i]; exact R.pt s h0, fun s h0 => by simp (disch := first | decide | exact ad_ne (by decide) | exact ad_m (by decide) | exact ad_l (by decide) | exact ad_g (by decide) | exact ad_lt (by decide) | exact ad_o (by decide) | omega) only [↓ui_s, ↓uj_s, ↓ui_o, ↓ui_k, ↓uj_o, ↓uj_k, ↓ui_j, ↓uj_i, ui_s, uj_s, ui_o, ui_k, uj_o, uj_k, ui_j, uj_i]; exact R.be s h0, fun s h0 => by simp (disch := first | decide | exact ad_ne (by decide) | exact ad_m (by decide) | exact ad_l (by decide) | exact ad_g (by decide) | exact ad_lt (by decide) | exact ad_o (by decide) | omega) only [↓ui_s, ↓uj_s, ↓ui_o, ↓ui_k, ↓uj_o, ↓uj_k, ↓ui_j, ↓uj_i, ui_s, uj_s, ui_o, ui_k, uj_o, uj_k, ui_j, uj_i]; exact R.ao s h0, fun s h0 => by simp (disch := first | decide | exact ad_ne (by decide) | exact ad_m (by decide) | exact ad_l (by decide) | exact ad_g (by decide) | exact ad_lt (by decide) | exact ad_o (by decide) | omega) only [↓ui_s, ↓uj_s, ↓ui_o, ↓ui_k, ↓uj_o, ↓uj_k, ↓ui_j, ↓uj_i, ui_s, uj_s, ui_o, ui_k, uj_o, uj_k, ui_j, uj_i]; exact R.lg s h0, fun s h0 => by simp (disch := first | decide | exact ad_ne (by decide) | exact ad_m (by decide) | exact ad_l (by decide) | exact ad_g (by decide) | exact ad_lt (by decide) | exact ad_o (by decide) | omega) only [↓ui_s, ↓uj_s, ↓ui_o, ↓ui_k, ↓uj_o, ↓uj_k, ↓ui_j, ↓uj_i, ui_s, uj_s, ui_o, ui_k, uj_o, uj_k, ui_j, uj_i]; exact R.sy s h0, fun s h0 => by simp (disch := first | decide | exact ad_ne (by decide) | exact ad_m (by decide) | exact ad_l (by decide) | exact ad_g (by decide) | exact ad_lt (by decide) | exact ad_o (by decide) | omega) only [↓ui_s, ↓uj_s, ↓ui_o, ↓ui_k, ↓uj_o, ↓uj_k, ↓ui_j, ↓uj_i, ui_s, uj_s, ui_o, ui_k, uj_o, uj_k, ui_j, uj_i]; exact R.ds s h0, fun s h0 => by simp (disch := first | decide | exact ad_ne (by decide) | exact ad_m (by decide) | exact ad_l (by decide) | exact ad_g (by decide) | exact ad_lt (by decide) | exact ad_o (by decide) | omega) only [↓ui_s, ↓uj_s, ↓ui_o, ↓ui_k, ↓uj_o, ↓uj_k, ↓ui_j, ↓uj_i, ui_s, uj_s, ui_o, ui_k, uj_o, uj_k, ui_j, uj_i]; exact R.lm s h0, (fun s k2 h0 h1 => by
      by_cases e : s = t
      · subst e
        by_cases e2 : k2 = k
        · subst e2; simp (disch := first | decide | exact ad_ne (by decide) | exact ad_m (by decide) | exact ad_l (by decide) | exact ad_g (by decide) | exact ad_lt (by decide) | exact ad_o (by decide) | omega) only [↓ui_s, ↓uj_s, ↓ui_o, ↓ui_k, ↓uj_o, ↓uj_k, ↓ui_j, ↓uj_i, ui_s, uj_s, ui_o, ui_k, uj_o, uj_k, ui_j, uj_i]; rw [R.hd s k2 h0 h1]
        · simp (disch := first | decide | exact ad_ne (by decide) | exact ad_m (by decide) | exact ad_l (by decide) | exact ad_g (by decide) | exact ad_lt (by decide) | exact ad_o (by decide) | omega) only [↓ui_s, ↓uj_s, ↓ui_o, ↓ui_k, ↓uj_o, ↓uj_k, ↓ui_j, ↓uj_i, ui_s, uj_s, ui_o, ui_k, uj_o, uj_k, ui_j, uj_i]; exact R.hd s k2 h0 h1
      · simp (disch := first | decide | exact ad_ne (by decide) | exact ad_m (by decide) | exact ad_l (by decide) | exact ad_g (by decide) | exact ad_lt (by decide) | exact ad_o (by decide) | omega) only [↓ui_s, ↓uj_s, ↓ui_o, ↓ui_k, ↓uj_o, ↓uj_k, ↓ui_j, ↓uj_i, ui_s, uj_s, ui_o, ui_k, uj_o, uj_k, ui_j, uj_i]; exact R.hd s k2 h0 h1), fun s i h0 h1 => by simp (disch := first | decide | exact ad_ne (by decide) | exact ad_m (by decide) | exact ad_l (by decide) | exact ad_g (by decide) | exact ad_lt (by decide) | exact ad_o (by decide) | omega) only [↓ui_s, ↓uj_s, ↓ui_o, ↓ui_k, ↓uj_o, ↓uj_k, ↓ui_j, ↓uj_i, ui_s, uj_s, ui_o, ui_k, uj_o, uj_k, ui_j, uj_i]; exact R.so s i h0 h1, fun s i h0 h1 => by simp (disch := first | decide | exact ad_ne (by decide) | exact ad_m (by decide) | exact ad_l (by decide) | exact ad_g (by decide) | exact ad_lt (by decide) | exact ad_o (by decide) | omega) only [↓ui_s, ↓uj_s, ↓ui_o, ↓ui_k, ↓uj_o, ↓uj_k, ↓ui_j, ↓uj_i, ui_s, uj_s, ui_o, ui_k, uj_o, uj_k, ui_j, uj_i]; exact R.lo s i h0 h1, fun s i h0 h1 => by simp (disch := first | decide | exact ad_ne (by decide) | exact ad_m (by decide) | exact ad_l (by decide) | exact ad_g (by decide) | exact ad_lt (by decide) | exact ad_o (by decide) | omega) only [↓ui_s, ↓uj_s, ↓ui_o, ↓ui_k, ↓uj_o, ↓uj_k, ↓ui_j, ↓uj_i, ui_s, uj_s, ui_o, ui_k, uj_o, uj_k, ui_j, uj_i]; exact R.rv s i h0 h1, fun i f h0 h1 h2 => by simp (disch := first | decide | exact ad_ne (by decide) | exact ad_m (by decide) | exact ad_l (by decide) | exact ad_g (by decide) | exact ad_lt (by decide) | exact ad_o (by decide) | omega) only [↓ui_s, ↓uj_s, ↓ui_o, ↓ui_k, ↓uj_o, ↓uj_k, ↓ui_j, ↓uj_i, ui_s, uj_s, ui_o, ui_k, uj_o, uj_k, ui_j, uj_i]; exact R.wi i f h0 h1 h2, fun i h0 => by simp (disch := first | decide | exact ad_ne (by decide) | exact ad_m (by decide) | exact ad_l (by decide) | exact ad_g (by decide) | exact ad_lt (by decide) | exact ad_o (by decide) | omega) only [↓ui_s, ↓uj_s, ↓ui_o, ↓ui_k, ↓uj_o, ↓uj_k, ↓ui_j, ↓uj_i, ui_s, uj_s, ui_o, ui_k, uj_o, uj_k, ui_j, uj_i]; exact R.wf i h0, (fun s k2 h0 h1 => by
      by_cases e : s = t
      · subst e
        by_cases e2 : k2 = k
        · subst e2; simp (disch := first | decide | exact ad_ne (by decide) | exact ad_m (by decide) | exact ad_l (by decide) | exact ad_g (by decide) | exact ad_lt (by decide) | exact ad_o (by decide) | omega) only [↓ui_s, ↓uj_s, ↓ui_o, ↓ui_k, ↓uj_o, ↓uj_k, ↓ui_j, ↓uj_i, ui_s, uj_s, ui_o, ui_k, uj_o, uj_k, ui_j, uj_i]; rw [ofv_add]; exact congrArg (· + 1) (R.al s k2 h0 h1)
        · simp (disch := first | decide | exact ad_ne (by decide) | exact ad_m (by decide) | exact ad_l (by decide) | exact ad_g (by decide) | exact ad_lt (by decide) | exact ad_o (by decide) | omega) only [↓ui_s, ↓uj_s, ↓ui_o, ↓ui_k, ↓uj_o, ↓uj_k, ↓ui_j, ↓uj_i, ui_s, uj_s, ui_o, ui_k, uj_o, uj_k, ui_j, uj_i]; exact R.al s k2 h0 h1
      · simp (disch := first | decide | exact ad_ne (by decide) | exact ad_m (by decide) | exact ad_l (by decide) | exact ad_g (by decide) | exact ad_lt (by decide) | exact ad_o (by decide) | omega) only [↓ui_s, ↓uj_s, ↓ui_o, ↓ui_k, ↓uj_o, ↓uj_k, ↓ui_j, ↓uj_i, ui_s, uj_s, ui_o, ui_k, uj_o, uj_k, ui_j, uj_i]; exact R.al s k2 h0 h1), (fun s h0 => by
      by_cases e : s = t
      · subst e
        simp (disch := first | decide | exact ad_ne (by decide) | exact ad_m (by decide) | exact ad_l (by decide) | exact ad_g (by decide) | exact ad_lt (by decide) | exact ad_o (by decide) | omega) only [↓ui_s, ↓uj_s, ↓ui_o, ↓ui_k, ↓uj_o, ↓uj_k, ↓ui_j, ↓uj_i, ui_s, uj_s, ui_o, ui_k, uj_o, uj_k, ui_j, uj_i]
        rw [R.lz s h0]
        exact (sm_up9 hk (fun j hj hn => by simp (disch := first | decide | exact ad_ne (by decide) | exact ad_m (by decide) | exact ad_l (by decide) | exact ad_g (by decide) | exact ad_lt (by decide) | exact ad_o (by decide) | omega) only [↓ui_s, ↓uj_s, ↓ui_o, ↓ui_k, ↓uj_o, ↓uj_k, ↓ui_j, ↓uj_i, ui_s, uj_s, ui_o, ui_k, uj_o, uj_k, ui_j, uj_i]) (by simp (disch := first | decide | exact ad_ne (by decide) | exact ad_m (by decide) | exact ad_l (by decide) | exact ad_g (by decide) | exact ad_lt (by decide) | exact ad_o (by decide) | omega) only [↓ui_s, ↓uj_s, ↓ui_o, ↓ui_k, ↓uj_o, ↓uj_k, ↓ui_j, ↓uj_i, ui_s, uj_s, ui_o, ui_k, uj_o, uj_k, ui_j, uj_i])).symm
      · simp (disch := first | decide | exact ad_ne (by decide) | exact ad_m (by decide) | exact ad_l (by decide) | exact ad_g (by decide) | exact ad_lt (by decide) | exact ad_o (by decide) | omega) only [↓ui_s, ↓uj_s, ↓ui_o, ↓ui_k, ↓uj_o, ↓uj_k, ↓ui_j, ↓uj_i, ui_s, uj_s, ui_o, ui_k, uj_o, uj_k, ui_j, uj_i]
        rw [R.lz s h0]
        exact sm_cg (fun j hj => by simp (disch := first | decide | exact ad_ne (by decide) | exact ad_m (by decide) | exact ad_l (by decide) | exact ad_g (by decide) | exact ad_lt (by decide) | exact ad_o (by decide) | omega) only [↓ui_s, ↓uj_s, ↓ui_o, ↓ui_k, ↓uj_o, ↓uj_k, ↓ui_j, ↓uj_i, ui_s, uj_s, ui_o, ui_k, uj_o, uj_k, ui_j, uj_i])), fun s i h0 h1 => by simp (disch := first | decide | exact ad_ne (by decide) | exact ad_m (by decide) | exact ad_l (by decide) | exact ad_g (by decide) | exact ad_lt (by decide) | exact ad_o (by decide) | omega) only [↓ui_s, ↓uj_s, ↓ui_o, ↓ui_k, ↓uj_o, ↓uj_k, ↓ui_j, ↓uj_i, ui_s, uj_s, ui_o, ui_k, uj_o, uj_k, ui_j, uj_i] at h1 ⊢; exact R.sv s i h0 h1, fun s h0 => by simp (disch := first | decide | exact ad_ne (by decide) | exact ad_m (by decide) | exact ad_l (by decide) | exact ad_g (by decide) | exact ad_lt (by decide) | exact ad_o (by decide) | omega) only [↓ui_s, ↓uj_s, ↓ui_o, ↓ui_k, ↓uj_o, ↓uj_k, ↓ui_j, ↓uj_i, ui_s, uj_s, ui_o, ui_k, uj_o, uj_k, ui_j, uj_i]; rw [R.tk s h0]; exact congrArg (fun f => kb f 34) (tkM_cg (R.rb s h0) (fun i hi => by simp (disch := first | decide | exact ad_ne (by decide) | exact ad_m (by decide) | exact ad_l (by decide) | exact ad_g (by decide) | exact ad_lt (by decide) | exact ad_o (by decide) | omega) only [↓ui_s, ↓uj_s, ↓ui_o, ↓ui_k, ↓uj_o, ↓uj_k, ↓ui_j, ↓uj_i, ui_s, uj_s, ui_o, ui_k, uj_o, uj_k, ui_j, uj_i]) (by simp (disch := first | decide | exact ad_ne (by decide) | exact ad_m (by decide) | exact ad_l (by decide) | exact ad_g (by decide) | exact ad_lt (by decide) | exact ad_o (by decide) | omega) only [↓ui_s, ↓uj_s, ↓ui_o, ↓ui_k, ↓uj_o, ↓uj_k, ↓ui_j, ↓uj_i, ui_s, uj_s, ui_o, ui_k, uj_o, uj_k, ui_j, uj_i])), fun s h0 => by simp (disch := first | decide | exact ad_ne (by decide) | exact ad_m (by decide) | exact ad_l (by decide) | exact ad_g (by decide) | exact ad_lt (by decide) | exact ad_o (by decide) | omega) only [↓ui_s, ↓uj_s, ↓ui_o, ↓ui_k, ↓uj_o, ↓uj_k, ↓ui_j, ↓uj_i, ui_s, uj_s, ui_o, ui_k, uj_o, uj_k, ui_j, uj_i]; exact R.rb s h0, fun s i h0 h1 => by simp (disch := first | decide | exact ad_ne (by decide) | exact ad_m (by decide) | exact ad_l (by decide) | exact ad_g (by decide) | exact ad_lt (by decide) | exact ad_o (by decide) | omega) only [↓ui_s, ↓uj_s, ↓ui_o, ↓ui_k, ↓uj_o, ↓uj_k, ↓ui_j, ↓uj_i, ui_s, uj_s, ui_o, ui_k, uj_o, uj_k, ui_j, uj_i] at h1 ⊢; exact R.rk s i h0 h1, (by simp (disch := first | decide | exact ad_ne (by decide) | exact ad_m (by decide) | exact ad_l (by decide) | exact ad_g (by decide) | exact ad_lt (by decide) | exact ad_o (by decide) | omega) only [↓ui_s, ↓uj_s, ↓ui_o, ↓ui_k, ↓uj_o, ↓uj_k, ↓ui_j, ↓uj_i, ui_s, uj_s, ui_o, ui_k, uj_o, uj_k, ui_j, uj_i]; exact R.rd), fun s h0 => by simp (disch := first | decide | exact ad_ne (by decide) | exact ad_m (by decide) | exact ad_l (by decide) | exact ad_g (by decide) | exact ad_lt (by decide) | exact ad_o (by decide) | omega) only [↓ui_s, ↓uj_s, ↓ui_o, ↓ui_k, ↓uj_o, ↓uj_k, ↓ui_j, ↓uj_i, ui_s, uj_s, ui_o, ui_k, uj_o, uj_k, ui_j, uj_i]; exact R.bb s h0, fun z => by simp (disch := first | decide | exact ad_ne (by decide) | exact ad_m (by decide) | exact ad_l (by decide) | exact ad_g (by decide) | exact ad_lt (by decide) | exact ad_o (by decide) | omega) only [↓ui_s, ↓uj_s, ↓ui_o, ↓ui_k, ↓uj_o, ↓uj_k, ↓ui_j, ↓uj_i, ui_s, uj_s, ui_o, ui_k, uj_o, uj_k, ui_j, uj_i] at z ⊢; exact R.wp z⟩

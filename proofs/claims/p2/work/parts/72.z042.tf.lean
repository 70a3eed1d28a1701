/-! the game: claim of the reference -/
set_option maxRecDepth 8000
def rvF (μ : zM) (s : Nat) (wt : Int64) (i : Nat) : Bool := decide (lg_cmp ((wt >>> ((μ.1 65 (136 * s + i)).toInt64 &&& 63)) &&& 1) 1 = 0)
abbrev clD (μ : zM) (s t c rm : Nat) (wt : Int64) : Bool := !decide (nI s = nI t) && (decide (μ.1 71 s = 0) && (decide (μ.1 70 s = 0) && (!decide (lg_cmp ((wt >>> ((nI c).toInt64 &&& 63)) &&& 1) 0 = 0) && !kA (rvF μ s wt) rm)))
theorem nI_r136 {s i : Nat} : (136 * (nI s)) + (nI i) = nI (136 * s + i) := by rw [show (136 : Int32) = nI 136 from rfl, nI_ml, nI_add]
theorem SE_sj {a b : zM} (h : SMj a b) : SE a b := fun r k q => (h r k (by omega)).1
theorem gm_isSeatN (d : Nat) (hd : 1 ≤ d) (μ : zM) (s : Nat) (hs4 : s < 4) : z_C d mi_X7_isSeat [.int (nI s)] μ (zR μ (.int 1)) := by
  refine z_C_in (by decide) (by omega) (fun d' Z ed hc hr => ?_)
  have hH : zH mi_X7_isSeat zc_X7_isSeat 79 7 1 := ⟨by rfl, by rfl, by rfl, by rfl⟩
  refine z_rcs hc hH 1 (pc' := 1) (lv' := [(0, .int (nI s))]) (st' := [.int (nI s)]) (μ' := μ) (by rfl) ?_
  refine zq_if hc hH (by rfl) (tg := 13) (by rfl) (fun h1 => ?_) (fun h1 => ?_)
  · have h1 : (decide ((nI s) < 0)) = true := decide_eq_true (cm_lt.mp h1)
    exact absurd (Eq.trans (Eq.symm (kn_l0 (by omega))) h1) (by decide)
  · have h1 : (decide ((nI s) < 0)) = false := decide_eq_false (cn_lt.mp h1)
    refine z_rcs hc hH 2 (pc' := 6) (lv' := [(0, .int (nI s))]) (st' := [.int 4, .int (nI s)]) (μ' := μ) (by rfl) ?_
    refine zq_ic hc hH (by rfl) (tg := 13) (by rfl) (fun h2 => ?_) (fun h2 => ?_)
    · have h2 : (decide (4 ≤ (nI s))) = true := decide_eq_true (cm_ge.mp h2)
      exact absurd (Eq.trans (Eq.symm (kn_le (m := 4) rfl (by omega) (by omega))) h2) (by decide)
    · have h2 : (decide (4 ≤ (nI s))) = false := decide_eq_false (cn_ge.mp h2)
      refine z_rcs hc hH 2 (pc' := 14) (lv' := [(0, .int (nI s))]) (st' := [.int 1]) (μ' := μ) (by rfl) ?_
      exact hr 0 14 _ _ _ (some (.int 1)) (by decide +kernel) (by rfl) (⟨rfl, rfl⟩)
theorem gm_claim (d : Nat) (hd : 700 ≤ d) (μ : zM) (hH0 : a_H μ) (s t c rm : Nat) (hs4 : s < 4) (ht4 : t < 4) (ht : μ.1 50 45 = nI t) (hc34 : c < 34) (hc49 : μ.1 50 49 = nI c) (hp : decide (μ.1 50 44 < 2) = false) (hrm : μ.1 66 s = nI rm) (hrm5 : rm ≤ 135) (wt : Int64) (hwt : ∀ M, SE μ M → a_H M → ∀ d, 699 ≤ d → z_C d mi_X7_waitsAt [.ref 50, .int (nI s)] M (fun r W => r = some (.long wt) ∧ SMj M W ∧ a_H W)) (B : Q4 → Prop) (hvl : ∀ M, SMj (z_ui μ 50 0 0) M → a_H M → ∀ d, 699 ≤ d → z_C d mi_X7_value [.ref 50, .int (nI s), .int (nI c), .int 0] M (fun r W => r = none ∧ SMj M W ∧ B (bq W))) : z_C d mi_X7_claim [.ref 50, .int (nI s)] μ (fun r μ' => (clD μ s t c rm wt = false ∧ r = some (.int 0) ∧ SMj (z_ui μ 50 0 0) μ') ∨ (clD μ s t c rm wt = true ∧ ∃ W, B (bq W) ∧ ((decide (W.1 50 13 = 0) = true ∧ r = some (.int 0) ∧ SMj (z_ui μ 50 0 0) μ') ∨ (decide (W.1 50 13 = 0) = false ∧ r = some (.int 1) ∧ SMj (z_ui (z_ui μ 50 0 0) 71 s 1) μ')))) := by
  refine z_C_in (by decide) (by omega) (fun d' Z ed hc hr => ?_)
  have hH : zH mi_X7_claim zc_X7_claim 79 7 5 := ⟨by rfl, by rfl, by rfl, by rfl⟩
  refine z_rcs hc hH 2 (pc' := 2) (lv' := [(0, .ref 50), (1, .int (nI s))]) (st' := [.int 0, .ref 50]) (μ' := μ) (by rfl) ?_
  refine zq_pfi hc hH (by rfl) (ci := 6) (f := 0) (by rfl) (by decide +kernel) (by rfl) ?_
  show Z 0 5 [(0, .ref 50), (1, .int (nI s))] [] (z_ui μ 50 0 0)
  refine z_rcs hc hH 1 (pc' := 6) (lv' := [(0, .ref 50), (1, .int (nI s))]) (st' := [.ref 50]) (μ' := z_ui μ 50 0 0) (by rfl) ?_
  refine zq_gfi hc hH (by rfl) (ci := 6) (f := 44) (by rfl) (by decide +kernel) (by rfl) ?_
  rw [ui_k (by omega)]
  refine z_rcs hc hH 1 (pc' := 10) (lv' := [(0, .ref 50), (1, .int (nI s))]) (st' := [.int 2, .int (μ.1 50 44)]) (μ' := z_ui μ 50 0 0) (by rfl) ?_
  refine zq_ic hc hH (by rfl) (tg := 46) (by rfl) (fun h1 => ?_) (fun h1 => ?_)
  · have h1 : (decide ((μ.1 50 44) < 2)) = true := decide_eq_true (cm_lt.mp h1)
    exact absurd (Eq.trans (Eq.symm (hp)) h1) (by decide)
  · have h1 : (decide ((μ.1 50 44) < 2)) = false := decide_eq_false (cn_lt.mp h1)
    refine z_rcs hc hH 1 (pc' := 14) (lv' := [(0, .ref 50), (1, .int (nI s))]) (st' := [.int (nI s)]) (μ' := z_ui μ 50 0 0) (by rfl) ?_
    refine zq_call hc (by rfl) (gm_isSeatN d' (by omega) (z_ui μ 50 0 0) s hs4) (by decide +kernel) (fun r9 μ9 hq => ?_)
    obtain ⟨hμ9, rfl⟩ := hq
    rw [hμ9]
    clear hμ9 μ9
    show Z 0 17 [(0, .ref 50), (1, .int (nI s))] [.int 1] (z_ui μ 50 0 0)
    refine z_rcs hc hH 3 (pc' := 22) (lv' := [(0, .ref 50), (1, .int (nI s))]) (st' := [.ref 50, .int (nI s)]) (μ' := z_ui μ 50 0 0) (by rfl) ?_
    refine zq_gfi hc hH (by rfl) (ci := 6) (f := 45) (by rfl) (by decide +kernel) (by rfl) ?_
    rw [ui_k (by omega)]
    rw [ht]
    refine zq_ic hc hH (by rfl) (tg := 46) (by rfl) (fun h2 => ?_) (fun h2 => ?_)
    · have h2 : (decide ((nI s) = (nI t))) = true := decide_eq_true (cm_eq9.mp h2)
      refine z_rcs hc hH 1 (pc' := 47) (lv' := [(0, .ref 50), (1, .int (nI s))]) (st' := [.int 0]) (μ' := z_ui μ 50 0 0) (by rfl) ?_
      exact hr 0 47 _ _ _ (some (.int 0)) (by decide +kernel) (by rfl) (Or.inl ⟨by simp only [clD, h2, Bool.true_or, Bool.true_and, Bool.and_true, Bool.false_and, Bool.and_false, Bool.not_true, Bool.not_false], rfl, SM_rf _⟩)
    · have h2 : (decide ((nI s) = (nI t))) = false := decide_eq_false (cn_eq.mp h2)
      refine z_rcs hc hH 1 (pc' := 29) (lv' := [(0, .ref 50), (1, .int (nI s))]) (st' := [.ref 50]) (μ' := z_ui μ 50 0 0) (by rfl) ?_
      refine zq_gfr hc hH (by rfl) (ci := 6) (f := 39) (q := 71) (by rfl) (by decide +kernel) (by rfl) (by decide +kernel) ?_
      refine z_rcs hc hH 1 (pc' := 33) (lv' := [(0, .ref 50), (1, .int (nI s))]) (st' := [.int (nI s), .ref 71]) (μ' := z_ui μ 50 0 0) (by rfl) ?_
      refine zq_bald hc hH (by rfl) 4 (by decide +kernel) (vp_in_nI (by omega) (by decide)) ?_
      rw [nI_clamp (by omega)]
      rw [ui_o (by omega)]
      refine zq_if hc hH (by rfl) (tg := 46) (by rfl) (fun h3 => ?_) (fun h3 => ?_)
      · have h3 : (decide ((μ.1 71 s) = 0)) = false := decide_eq_false (cm_ne.mp h3)
        refine z_rcs hc hH 1 (pc' := 47) (lv' := [(0, .ref 50), (1, .int (nI s))]) (st' := [.int 0]) (μ' := z_ui μ 50 0 0) (by rfl) ?_
        exact hr 0 47 _ _ _ (some (.int 0)) (by decide +kernel) (by rfl) (Or.inl ⟨by simp only [clD, h2, h3, Bool.true_or, Bool.true_and, Bool.and_true, Bool.false_and, Bool.and_false, Bool.not_true, Bool.not_false], rfl, SM_rf _⟩)
      · have h3 : (decide ((μ.1 71 s) = 0)) = true := decide_eq_true (cn_ne.mp h3)
        refine z_rcs hc hH 1 (pc' := 38) (lv' := [(0, .ref 50), (1, .int (nI s))]) (st' := [.ref 50]) (μ' := z_ui μ 50 0 0) (by rfl) ?_
        refine zq_gfr hc hH (by rfl) (ci := 6) (f := 38) (q := 70) (by rfl) (by decide +kernel) (by rfl) (by decide +kernel) ?_
        refine z_rcs hc hH 1 (pc' := 42) (lv' := [(0, .ref 50), (1, .int (nI s))]) (st' := [.int (nI s), .ref 70]) (μ' := z_ui μ 50 0 0) (by rfl) ?_
        refine zq_bald hc hH (by rfl) 4 (by decide +kernel) (vp_in_nI (by omega) (by decide)) ?_
        rw [nI_clamp (by omega)]
        rw [ui_o (by omega)]
        refine zq_if hc hH (by rfl) (tg := 48) (by rfl) (fun h4 => ?_) (fun h4 => ?_)
        · have h4 : (decide ((μ.1 70 s) = 0)) = true := decide_eq_true (cm_eq9.mp h4)
          refine z_rcs hc hH 2 (pc' := 50) (lv' := [(0, .ref 50), (1, .int (nI s))]) (st' := [.int (nI s), .ref 50]) (μ' := z_ui μ 50 0 0) (by rfl) ?_
          refine zq_call hc (by rfl) (hwt _ (SE_ui (SE_rf _) (by omega)) (a_H_ui (r := 50) (k := 0) hH0 (bI_top _)) d' (by omega)) (by decide +kernel) (fun r9 W1 hq9 => ?_)
          obtain ⟨rfl, hO1, hA1⟩ := hq9
          show Z 0 53 [(0, .ref 50), (1, .int (nI s))] [.long wt] W1
          refine z_rcs hc hH 3 (pc' := 56) (lv' := [(2, .long wt), (0, .ref 50), (1, .int (nI s))]) (st' := [.ref 50, .long wt]) (μ' := W1) (by rfl) ?_
          refine zq_gfi hc hH (by rfl) (ci := 6) (f := 49) (by rfl) (by decide +kernel) (by rfl) ?_
          rw [(hO1 50 49 (by omega)).1, ui_k (by omega)]
          rw [hc49]
          refine z_rcs hc hH 5 (pc' := 64) (lv' := [(2, .long wt), (0, .ref 50), (1, .int (nI s))]) (st' := [.int (lg_cmp ((wt >>> ((nI c).toInt64 &&& 63)) &&& 1) 0)]) (μ' := W1) (by rfl) ?_
          refine zq_if hc hH (by rfl) (tg := 69) (by rfl) (fun h5 => ?_) (fun h5 => ?_)
          · have h5 : (decide ((lg_cmp ((wt >>> ((nI c).toInt64 &&& 63)) &&& 1) 0) = 0)) = false := decide_eq_false (cm_ne.mp h5)
            refine z_rcs hc hH 2 (pc' := 72) (lv' := [(4, .int 0), (2, .long wt), (0, .ref 50), (1, .int (nI s))]) (st' := []) (μ' := W1) (by rfl) ?_
            have hL : ∀ n i, i + n = rm → kA (rvF μ s wt) i = false → Z 0 72 [(4, .int (nI i)), (2, .long wt), (0, .ref 50), (1, .int (nI s))] [] W1 := by
              intro n
              induction n with
              | zero =>
                intro i hi hk
                have hi : i = rm := by omega
                rw [hi] at hk
                refine z_rcs hc hH 2 (pc' := 75) (lv' := [(4, .int (nI i)), (2, .long wt), (0, .ref 50), (1, .int (nI s))]) (st' := [.ref 50, .int (nI i)]) (μ' := W1) (by rfl) ?_
                refine zq_gfr hc hH (by rfl) (ci := 6) (f := 34) (q := 66) (by rfl) (by decide +kernel) (by rfl) (by decide +kernel) ?_
                refine z_rcs hc hH 1 (pc' := 79) (lv' := [(4, .int (nI i)), (2, .long wt), (0, .ref 50), (1, .int (nI s))]) (st' := [.int (nI s), .ref 66, .int (nI i)]) (μ' := W1) (by rfl) ?_
                refine zq_iald hc hH (by rfl) 4 (oka_i (by decide +kernel)) (vp_in_nI (by omega) (by decide)) ?_
                rw [nI_clamp (by omega)]
                rw [(hO1 66 s (by omega)).1, ui_o (by omega)]
                rw [hrm]
                refine zq_ic hc hH (by rfl) (tg := 113) (by rfl) (fun h6 => ?_) (fun h6 => ?_)
                · have h6 : (decide ((nI rm) ≤ (nI i))) = true := decide_eq_true (cm_ge.mp h6)
                  refine z_rcs hc hH 3 (pc' := 116) (lv' := [(4, .int (nI i)), (2, .long wt), (0, .ref 50), (1, .int (nI s))]) (st' := [.ref 50, .int (nI s), .ref 50]) (μ' := W1) (by rfl) ?_
                  refine zq_gfi hc hH (by rfl) (ci := 6) (f := 49) (by rfl) (by decide +kernel) (by rfl) ?_
                  rw [(hO1 50 49 (by omega)).1, ui_k (by omega)]
                  rw [hc49]
                  refine z_rcs hc hH 1 (pc' := 120) (lv' := [(4, .int (nI i)), (2, .long wt), (0, .ref 50), (1, .int (nI s))]) (st' := [.int 0, .int (nI c), .int (nI s), .ref 50]) (μ' := W1) (by rfl) ?_
                  refine zq_call hc (by rfl) (hvl _ hO1 hA1 d' (by omega)) (by decide +kernel) (fun r9 W2 hq9 => ?_)
                  obtain ⟨rfl, hO2, hB2⟩ := hq9
                  show Z 0 123 [(4, .int (nI i)), (2, .long wt), (0, .ref 50), (1, .int (nI s))] [] W2
                  refine z_rcs hc hH 1 (pc' := 124) (lv' := [(4, .int (nI i)), (2, .long wt), (0, .ref 50), (1, .int (nI s))]) (st' := [.ref 50]) (μ' := W2) (by rfl) ?_
                  refine zq_gfi hc hH (by rfl) (ci := 6) (f := 13) (by rfl) (by decide +kernel) (by rfl) ?_
                  refine zq_if hc hH (by rfl) (tg := 132) (by rfl) (fun h7 => ?_) (fun h7 => ?_)
                  · have h7 : (decide ((W2.1 50 13) = 0)) = false := decide_eq_false (cm_ne.mp h7)
                    refine z_rcs hc hH 1 (pc' := 133) (lv' := [(4, .int (nI i)), (2, .long wt), (0, .ref 50), (1, .int (nI s))]) (st' := [.ref 50]) (μ' := W2) (by rfl) ?_
                    refine zq_gfr hc hH (by rfl) (ci := 6) (f := 39) (q := 71) (by rfl) (by decide +kernel) (by rfl) (by decide +kernel) ?_
                    refine z_rcs hc hH 2 (pc' := 138) (lv' := [(4, .int (nI i)), (2, .long wt), (0, .ref 50), (1, .int (nI s))]) (st' := [.int 1, .int (nI s), .ref 71]) (μ' := W2) (by rfl) ?_
                    refine zq_bast hc hH (by rfl) 4 (by decide +kernel) (vp_in_nI (by omega) (by decide)) (by decide) ?_
                    rw [nI_clamp (by omega)]
                    show Z 0 139 [(4, .int (nI i)), (2, .long wt), (0, .ref 50), (1, .int (nI s))] [] (z_ui W2 71 s 1)
                    refine z_rcs hc hH 1 (pc' := 140) (lv' := [(4, .int (nI i)), (2, .long wt), (0, .ref 50), (1, .int (nI s))]) (st' := [.int 1]) (μ' := z_ui W2 71 s 1) (by rfl) ?_
                    exact hr 0 140 _ _ _ (some (.int 1)) (by decide +kernel) (by rfl) (Or.inr ⟨by simp only [clD, h2, h3, h4, h5, hk, Bool.true_or, Bool.true_and, Bool.and_true, Bool.false_and, Bool.and_false, Bool.not_true, Bool.not_false], W2, hB2, Or.inr ⟨h7, rfl, SM_ui (SM_tr hO1 hO2)⟩⟩)
                  · have h7 : (decide ((W2.1 50 13) = 0)) = true := decide_eq_true (cn_ne.mp h7)
                    refine z_rcs hc hH 1 (pc' := 131) (lv' := [(4, .int (nI i)), (2, .long wt), (0, .ref 50), (1, .int (nI s))]) (st' := [.int 0]) (μ' := W2) (by rfl) ?_
                    exact hr 0 131 _ _ _ (some (.int 0)) (by decide +kernel) (by rfl) (Or.inr ⟨by simp only [clD, h2, h3, h4, h5, hk, Bool.true_or, Bool.true_and, Bool.and_true, Bool.false_and, Bool.and_false, Bool.not_true, Bool.not_false], W2, hB2, Or.inl ⟨h7, rfl, SM_tr hO1 hO2⟩⟩)
                · have h6 : (decide ((nI rm) ≤ (nI i))) = false := decide_eq_false (cn_ge.mp h6)
                  exact absurd (Eq.trans (Eq.symm (kn_nle (by omega) (by omega) (by omega))) h6) (by decide)
              | succ n ih =>
                intro i hi hk
                refine z_rcs hc hH 2 (pc' := 75) (lv' := [(4, .int (nI i)), (2, .long wt), (0, .ref 50), (1, .int (nI s))]) (st' := [.ref 50, .int (nI i)]) (μ' := W1) (by rfl) ?_
                refine zq_gfr hc hH (by rfl) (ci := 6) (f := 34) (q := 66) (by rfl) (by decide +kernel) (by rfl) (by decide +kernel) ?_
                refine z_rcs hc hH 1 (pc' := 79) (lv' := [(4, .int (nI i)), (2, .long wt), (0, .ref 50), (1, .int (nI s))]) (st' := [.int (nI s), .ref 66, .int (nI i)]) (μ' := W1) (by rfl) ?_
                refine zq_iald hc hH (by rfl) 4 (oka_i (by decide +kernel)) (vp_in_nI (by omega) (by decide)) ?_
                rw [nI_clamp (by omega)]
                rw [(hO1 66 s (by omega)).1, ui_o (by omega)]
                rw [hrm]
                refine zq_ic hc hH (by rfl) (tg := 113) (by rfl) (fun h8 => ?_) (fun h8 => ?_)
                · have h8 : (decide ((nI rm) ≤ (nI i))) = true := decide_eq_true (cm_ge.mp h8)
                  exact absurd (Eq.trans (Eq.symm (kn_nlf (by omega) (by omega) (by omega))) h8) (by decide)
                · have h8 : (decide ((nI rm) ≤ (nI i))) = false := decide_eq_false (cn_ge.mp h8)
                  refine z_rcs hc hH 2 (pc' := 85) (lv' := [(4, .int (nI i)), (2, .long wt), (0, .ref 50), (1, .int (nI s))]) (st' := [.ref 50, .long wt]) (μ' := W1) (by rfl) ?_
                  refine zq_gfr hc hH (by rfl) (ci := 6) (f := 33) (q := 65) (by rfl) (by decide +kernel) (by rfl) (by decide +kernel) ?_
                  refine z_rcs hc hH 5 (pc' := 96) (lv' := [(4, .int (nI i)), (2, .long wt), (0, .ref 50), (1, .int (nI s))]) (st' := [.int ((136 * (nI s)) + (nI i)), .ref 65, .long wt]) (μ' := W1) (by rfl) ?_
                  rw [nI_r136]
                  refine zq_iald hc hH (by rfl) 544 (oka_i (by decide +kernel)) (vp_in_nI (by omega) (by decide)) ?_
                  rw [nI_clamp (by omega)]
                  rw [(hO1 65 (136 * s + i) (by omega)).1, ui_o (by omega)]
                  refine z_rcs hc hH 5 (pc' := 102) (lv' := [(4, .int (nI i)), (2, .long wt), (0, .ref 50), (1, .int (nI s))]) (st' := [.int (lg_cmp ((wt >>> ((μ.1 65 (136 * s + i)).toInt64 &&& 63)) &&& 1) 1)]) (μ' := W1) (by rfl) ?_
                  refine zq_if hc hH (by rfl) (tg := 107) (by rfl) (fun h9 => ?_) (fun h9 => ?_)
                  · have h9 : (decide ((lg_cmp ((wt >>> ((μ.1 65 (136 * s + i)).toInt64 &&& 63)) &&& 1) 1) = 0)) = false := decide_eq_false (cm_ne.mp h9)
                    refine z_rcs hc hH 2 (pc' := 72) (lv' := [(4, .int ((nI i) + 1)), (2, .long wt), (0, .ref 50), (1, .int (nI s))]) (st' := []) (μ' := W1) (by rfl) ?_
                    have e9 := ih (i + 1) (by omega) (by show (kA _ i || rvF μ s wt i) = false; rw [hk]; exact h9)
                    rw [nI_s1]
                    exact e9
                  · have h9 : (decide ((lg_cmp ((wt >>> ((μ.1 65 (136 * s + i)).toInt64 &&& 63)) &&& 1) 1) = 0)) = true := decide_eq_true (cn_ne.mp h9)
                    refine z_rcs hc hH 1 (pc' := 106) (lv' := [(4, .int (nI i)), (2, .long wt), (0, .ref 50), (1, .int (nI s))]) (st' := [.int 0]) (μ' := W1) (by rfl) ?_
                    exact hr 0 106 _ _ _ (some (.int 0)) (by decide +kernel) (by rfl) (Or.inl ⟨by simp only [clD, h2, h3, h4, h5, (kA_hit (f := rvF μ s wt) (k := i) (n := rm) (by omega) h9), Bool.true_or, Bool.true_and, Bool.and_true, Bool.false_and, Bool.and_false, Bool.not_true, Bool.not_false], rfl, hO1⟩)
            exact hL rm 0 (by omega) rfl
          · have h5 : (decide ((lg_cmp ((wt >>> ((nI c).toInt64 &&& 63)) &&& 1) 0) = 0)) = true := decide_eq_true (cn_ne.mp h5)
            refine z_rcs hc hH 1 (pc' := 68) (lv' := [(2, .long wt), (0, .ref 50), (1, .int (nI s))]) (st' := [.int 0]) (μ' := W1) (by rfl) ?_
            exact hr 0 68 _ _ _ (some (.int 0)) (by decide +kernel) (by rfl) (Or.inl ⟨by simp only [clD, h2, h3, h4, h5, Bool.true_or, Bool.true_and, Bool.and_true, Bool.false_and, Bool.and_false, Bool.not_true, Bool.not_false], rfl, hO1⟩)
        · have h4 : (decide ((μ.1 70 s) = 0)) = false := decide_eq_false (cn_eq.mp h4)
          refine z_rcs hc hH 1 (pc' := 47) (lv' := [(0, .ref 50), (1, .int (nI s))]) (st' := [.int 0]) (μ' := z_ui μ 50 0 0) (by rfl) ?_
          exact hr 0 47 _ _ _ (some (.int 0)) (by decide +kernel) (by rfl) (Or.inl ⟨by simp only [clD, h2, h3, h4, Bool.true_or, Bool.true_and, Bool.and_true, Bool.false_and, Bool.and_false, Bool.not_true, Bool.not_false], rfl, SM_rf _⟩)

/-! nobody wins -/
theorem zh_X7_nobodyWins : zH mi_X7_nobodyWins zt_X7_nobodyWins 80 7 4 := hh_X7_nobodyWins
theorem a_H_zero {μ : zM} (h : a_H μ) : a_H (z_zero μ) := by
  intro r k
  by_cases e : r = 79
  · subst e
    exact (show bI 0 1 0 from ⟨by decide, by decide⟩)
  · have : (z_zero μ).1 r k = μ.1 r k := by
      unfold z_zero
      simp [z_bf e]
    rw [this]
    exact h r k
theorem a_Fz_zero {md : List (Nat × Nat)} {μ : zM} (hm : a_mda md 79 = true) : a_Fz md μ (z_zero μ) := by
  refine ⟨fun r k h => ⟨?_, rfl⟩, fun _ _ => rfl⟩
  by_cases e : r = 79
  · subst e
    rw [a_mda_md hm k] at h
    cases h
  · unfold z_zero
    simp [z_bf e]
theorem dealer_nI {μ : zM} (h : a_H μ) : ∃ a, a < 4 ∧ μ.1 50 40 = nI a := by
  obtain ⟨a, h1, h2⟩ := vp_in_of (vp_in_bI (n := 4) (b := (0, 3)) (h 50 40) (by decide)) (by decide)
  exact ⟨a, h1, h2⟩
set_option maxRecDepth 100000 in
theorem fc_X7_nobodyWins (d : Nat) (hd : 703 ≤ d) (μ : zM) (ha : a_H μ) (hg : GW μ) : z_C d mi_X7_nobodyWins [.ref 50] μ (fun r μ' => r = none ∧ GST μ μ' ∧ μ'.1 50 44 = 0) := by
  obtain ⟨d', rfl⟩ : ∃ d', d = d' + 1 := ⟨d - 1, by omega⟩
  intro Z hc hr
  refine ⟨rfl, ?_⟩
  have hH := zh_X7_nobodyWins
  have hS0 : GST μ (z_zero μ) := ⟨a_H_zero ha, fun i hi => hg i hi, a_Fz_zero (by decide)⟩
  have tl : ∀ (u v : Int32) (μ1 : zM), GST μ μ1 → Z 1 103 [(3, .int u), (1, .int v), (2, .ref 79), (0, .ref 50)] [] μ1 := by
    intro u v μ1 hS
    obtain ⟨a, ha4, ea⟩ := dealer_nI hS.1
    refine z_rcs hc hH 4 (pc' := 109) (lv' := [(3, .int u), (1, .int v), (2, .ref 79), (0, .ref 50)]) (st' := [.int (μ1.1 50 40), .ref 79, .ref 50]) (μ' := μ1) (by rfl) ?_
    refine zq_bald hc hH (by rfl) 4 (by decide +kernel) (by rw [ea]; exact vp_in_nI ha4 (by decide)) ?_
    refine z_rcs hc hH 1 (pc' := 111) (lv' := [(3, .int u), (1, .int v), (2, .ref 79), (0, .ref 50)]) (st' := [.int 1, .int (μ1.1 79 (μ1.1 50 40).toNatClampNeg), .ref 50]) (μ' := μ1) (by rfl) ?_
    refine zq_call hc (z_cx_ok hH (by rfl)) (fc_X7_ends d' (by omega) μ1 (μ1.1 79 (μ1.1 50 40).toNatClampNeg) 1 (hS.1 79 _) ⟨by decide, by decide⟩ hS.1) (by decide +kernel) (fun r8 μ8 hq => ?_)
    obtain ⟨rfl, q0, q4, q5⟩ := hq
    show Z 1 114 [(3, .int u), (1, .int v), (2, .ref 79), (0, .ref 50)] [] μ8
    exact hr 1 114 _ _ _ none (by decide +kernel) (by rfl) (⟨rfl, hS.to q4 (GW_keep hS.2.1 q5 (by decide)) q5 (by decide), q0⟩)
  have l1 : ∀ (n i : Nat), i + n = 4 → ∀ (μ1 : zM), GST μ μ1 → Z 1 62 [(3, .int (nI i)), (1, .int 1), (2, .ref 79), (0, .ref 50)] [] μ1 := by
    intro n
    induction n with
    | zero =>
      intro i hi μ1 hS
      have hi : i = 4 := by omega
      subst hi
      refine z_rcs hc hH 2 (pc' := 64) (lv' := [(3, .int (nI 4)), (1, .int 1), (2, .ref 79), (0, .ref 50)]) (st' := [.int 4, .int (nI 4)]) (μ' := μ1) (by rfl) ?_
      refine zq_ic hc hH (by rfl) (tg := 103) (by rfl) (fun _ => ?_) (fun h9 => (zb_t (ge_nIt (n := 4) (i := 4) (by decide) (by decide)) h9).elim)
      exact tl _ _ μ1 hS
    | succ n ih =>
      intro i hi μ1 hS
      refine z_rcs hc hH 2 (pc' := 64) (lv' := [(3, .int (nI i)), (1, .int 1), (2, .ref 79), (0, .ref 50)]) (st' := [.int 4, .int (nI i)]) (μ' := μ1) (by rfl) ?_
      refine zq_ic hc hH (by rfl) (tg := 103) (by rfl) (fun h9 => (zb_t h9 (ge_nI (n := 4) (i := i) (by omega) (by decide))).elim) (fun _ => ?_)
      refine z_rcs hc hH 4 (pc' := 73) (lv' := [(3, .int (nI i)), (1, .int 1), (2, .ref 79), (0, .ref 50)]) (st' := [.int (nI i), .ref 61, .int (nI i), .ref 61]) (μ' := μ1) (by rfl) ?_
      refine zq_iald hc hH (by rfl) 4 (by decide +kernel) (vp_in_nI (by omega) (by decide)) ?_
      refine z_rcs hc hH 2 (pc' := 76) (lv' := [(3, .int (nI i)), (1, .int 1), (2, .ref 79), (0, .ref 50)]) (st' := [.int (nI i), .ref 79, .int (μ1.1 61 (nI i).toNatClampNeg), .int (nI i), .ref 61]) (μ' := μ1) (by rfl) ?_
      refine zq_bald hc hH (by rfl) 4 (by decide +kernel) (vp_in_nI (by omega) (by decide)) ?_
      refine zq_if hc hH (by rfl) (tg := 88) (by rfl) (fun h1 => ?_) (fun h1 => ?_)
      · have h1 := cm_eq9.mp h1
        refine z_rcs hc hH 6 (pc' := 96) (lv' := [(3, .int (nI i)), (1, .int 1), (2, .ref 79), (0, .ref 50)]) (st' := [.int ((μ1.1 61 (nI i).toNatClampNeg) + ((-3000) / (4 - 1))), .int (nI i), .ref 61]) (μ' := μ1) (by rfl) ?_
        refine zq_iast hc hH (by rfl) 4 (by decide +kernel) (vp_in_nI (by omega) (by decide)) ?_
        refine z_rcs hc hH 2 (pc' := 62) (lv' := [(3, .int ((nI i) + 1)), (1, .int 1), (2, .ref 79), (0, .ref 50)]) (st' := []) (μ' := z_ui μ1 61 ((nI i).toNatClampNeg) ((μ1.1 61 (nI i).toNatClampNeg) + ((-3000) / (4 - 1)))) (by rfl) ?_
        rw [nI_1]
        exact ih (i + 1) (by omega) _ (hS.to (md := [(61, 9999)]) (a_H_ui hS.1 (bI_top _)) (GW_ne hS.2.1 (by decide)) (a_Fz_ui (a_Fz_rf _ _) (a_mda_md (by decide) _)) (by decide))
      · have h1 := cn_eq.mp h1
        refine z_rcs hc hH 5 (pc' := 96) (lv' := [(3, .int (nI i)), (1, .int 1), (2, .ref 79), (0, .ref 50)]) (st' := [.int ((μ1.1 61 (nI i).toNatClampNeg) + (3000 / 1)), .int (nI i), .ref 61]) (μ' := μ1) (by rfl) ?_
        refine zq_iast hc hH (by rfl) 4 (by decide +kernel) (vp_in_nI (by omega) (by decide)) ?_
        refine z_rcs hc hH 2 (pc' := 62) (lv' := [(3, .int ((nI i) + 1)), (1, .int 1), (2, .ref 79), (0, .ref 50)]) (st' := []) (μ' := z_ui μ1 61 ((nI i).toNatClampNeg) ((μ1.1 61 (nI i).toNatClampNeg) + (3000 / 1))) (by rfl) ?_
        rw [nI_1]
        exact ih (i + 1) (by omega) _ (hS.to (md := [(61, 9999)]) (a_H_ui hS.1 (bI_top _)) (GW_ne hS.2.1 (by decide)) (a_Fz_ui (a_Fz_rf _ _) (a_mda_md (by decide) _)) (by decide))
  have l2 : ∀ (n i : Nat), i + n = 4 → ∀ (μ1 : zM), GST μ μ1 → Z 1 62 [(3, .int (nI i)), (1, .int 2), (2, .ref 79), (0, .ref 50)] [] μ1 := by
    intro n
    induction n with
    | zero =>
      intro i hi μ1 hS
      have hi : i = 4 := by omega
      subst hi
      refine z_rcs hc hH 2 (pc' := 64) (lv' := [(3, .int (nI 4)), (1, .int 2), (2, .ref 79), (0, .ref 50)]) (st' := [.int 4, .int (nI 4)]) (μ' := μ1) (by rfl) ?_
      refine zq_ic hc hH (by rfl) (tg := 103) (by rfl) (fun _ => ?_) (fun h9 => (zb_t (ge_nIt (n := 4) (i := 4) (by decide) (by decide)) h9).elim)
      exact tl _ _ μ1 hS
    | succ n ih =>
      intro i hi μ1 hS
      refine z_rcs hc hH 2 (pc' := 64) (lv' := [(3, .int (nI i)), (1, .int 2), (2, .ref 79), (0, .ref 50)]) (st' := [.int 4, .int (nI i)]) (μ' := μ1) (by rfl) ?_
      refine zq_ic hc hH (by rfl) (tg := 103) (by rfl) (fun h9 => (zb_t h9 (ge_nI (n := 4) (i := i) (by omega) (by decide))).elim) (fun _ => ?_)
      refine z_rcs hc hH 4 (pc' := 73) (lv' := [(3, .int (nI i)), (1, .int 2), (2, .ref 79), (0, .ref 50)]) (st' := [.int (nI i), .ref 61, .int (nI i), .ref 61]) (μ' := μ1) (by rfl) ?_
      refine zq_iald hc hH (by rfl) 4 (by decide +kernel) (vp_in_nI (by omega) (by decide)) ?_
      refine z_rcs hc hH 2 (pc' := 76) (lv' := [(3, .int (nI i)), (1, .int 2), (2, .ref 79), (0, .ref 50)]) (st' := [.int (nI i), .ref 79, .int (μ1.1 61 (nI i).toNatClampNeg), .int (nI i), .ref 61]) (μ' := μ1) (by rfl) ?_
      refine zq_bald hc hH (by rfl) 4 (by decide +kernel) (vp_in_nI (by omega) (by decide)) ?_
      refine zq_if hc hH (by rfl) (tg := 88) (by rfl) (fun h1 => ?_) (fun h1 => ?_)
      · have h1 := cm_eq9.mp h1
        refine z_rcs hc hH 6 (pc' := 96) (lv' := [(3, .int (nI i)), (1, .int 2), (2, .ref 79), (0, .ref 50)]) (st' := [.int ((μ1.1 61 (nI i).toNatClampNeg) + ((-3000) / (4 - 2))), .int (nI i), .ref 61]) (μ' := μ1) (by rfl) ?_
        refine zq_iast hc hH (by rfl) 4 (by decide +kernel) (vp_in_nI (by omega) (by decide)) ?_
        refine z_rcs hc hH 2 (pc' := 62) (lv' := [(3, .int ((nI i) + 1)), (1, .int 2), (2, .ref 79), (0, .ref 50)]) (st' := []) (μ' := z_ui μ1 61 ((nI i).toNatClampNeg) ((μ1.1 61 (nI i).toNatClampNeg) + ((-3000) / (4 - 2)))) (by rfl) ?_
        rw [nI_1]
        exact ih (i + 1) (by omega) _ (hS.to (md := [(61, 9999)]) (a_H_ui hS.1 (bI_top _)) (GW_ne hS.2.1 (by decide)) (a_Fz_ui (a_Fz_rf _ _) (a_mda_md (by decide) _)) (by decide))
      · have h1 := cn_eq.mp h1
        refine z_rcs hc hH 5 (pc' := 96) (lv' := [(3, .int (nI i)), (1, .int 2), (2, .ref 79), (0, .ref 50)]) (st' := [.int ((μ1.1 61 (nI i).toNatClampNeg) + (3000 / 2)), .int (nI i), .ref 61]) (μ' := μ1) (by rfl) ?_
        refine zq_iast hc hH (by rfl) 4 (by decide +kernel) (vp_in_nI (by omega) (by decide)) ?_
        refine z_rcs hc hH 2 (pc' := 62) (lv' := [(3, .int ((nI i) + 1)), (1, .int 2), (2, .ref 79), (0, .ref 50)]) (st' := []) (μ' := z_ui μ1 61 ((nI i).toNatClampNeg) ((μ1.1 61 (nI i).toNatClampNeg) + (3000 / 2))) (by rfl) ?_
        rw [nI_1]
        exact ih (i + 1) (by omega) _ (hS.to (md := [(61, 9999)]) (a_H_ui hS.1 (bI_top _)) (GW_ne hS.2.1 (by decide)) (a_Fz_ui (a_Fz_rf _ _) (a_mda_md (by decide) _)) (by decide))
  have l3 : ∀ (n i : Nat), i + n = 4 → ∀ (μ1 : zM), GST μ μ1 → Z 1 62 [(3, .int (nI i)), (1, .int 3), (2, .ref 79), (0, .ref 50)] [] μ1 := by
    intro n
    induction n with
    | zero =>
      intro i hi μ1 hS
      have hi : i = 4 := by omega
      subst hi
      refine z_rcs hc hH 2 (pc' := 64) (lv' := [(3, .int (nI 4)), (1, .int 3), (2, .ref 79), (0, .ref 50)]) (st' := [.int 4, .int (nI 4)]) (μ' := μ1) (by rfl) ?_
      refine zq_ic hc hH (by rfl) (tg := 103) (by rfl) (fun _ => ?_) (fun h9 => (zb_t (ge_nIt (n := 4) (i := 4) (by decide) (by decide)) h9).elim)
      exact tl _ _ μ1 hS
    | succ n ih =>
      intro i hi μ1 hS
      refine z_rcs hc hH 2 (pc' := 64) (lv' := [(3, .int (nI i)), (1, .int 3), (2, .ref 79), (0, .ref 50)]) (st' := [.int 4, .int (nI i)]) (μ' := μ1) (by rfl) ?_
      refine zq_ic hc hH (by rfl) (tg := 103) (by rfl) (fun h9 => (zb_t h9 (ge_nI (n := 4) (i := i) (by omega) (by decide))).elim) (fun _ => ?_)
      refine z_rcs hc hH 4 (pc' := 73) (lv' := [(3, .int (nI i)), (1, .int 3), (2, .ref 79), (0, .ref 50)]) (st' := [.int (nI i), .ref 61, .int (nI i), .ref 61]) (μ' := μ1) (by rfl) ?_
      refine zq_iald hc hH (by rfl) 4 (by decide +kernel) (vp_in_nI (by omega) (by decide)) ?_
      refine z_rcs hc hH 2 (pc' := 76) (lv' := [(3, .int (nI i)), (1, .int 3), (2, .ref 79), (0, .ref 50)]) (st' := [.int (nI i), .ref 79, .int (μ1.1 61 (nI i).toNatClampNeg), .int (nI i), .ref 61]) (μ' := μ1) (by rfl) ?_
      refine zq_bald hc hH (by rfl) 4 (by decide +kernel) (vp_in_nI (by omega) (by decide)) ?_
      refine zq_if hc hH (by rfl) (tg := 88) (by rfl) (fun h1 => ?_) (fun h1 => ?_)
      · have h1 := cm_eq9.mp h1
        refine z_rcs hc hH 6 (pc' := 96) (lv' := [(3, .int (nI i)), (1, .int 3), (2, .ref 79), (0, .ref 50)]) (st' := [.int ((μ1.1 61 (nI i).toNatClampNeg) + ((-3000) / (4 - 3))), .int (nI i), .ref 61]) (μ' := μ1) (by rfl) ?_
        refine zq_iast hc hH (by rfl) 4 (by decide +kernel) (vp_in_nI (by omega) (by decide)) ?_
        refine z_rcs hc hH 2 (pc' := 62) (lv' := [(3, .int ((nI i) + 1)), (1, .int 3), (2, .ref 79), (0, .ref 50)]) (st' := []) (μ' := z_ui μ1 61 ((nI i).toNatClampNeg) ((μ1.1 61 (nI i).toNatClampNeg) + ((-3000) / (4 - 3)))) (by rfl) ?_
        rw [nI_1]
        exact ih (i + 1) (by omega) _ (hS.to (md := [(61, 9999)]) (a_H_ui hS.1 (bI_top _)) (GW_ne hS.2.1 (by decide)) (a_Fz_ui (a_Fz_rf _ _) (a_mda_md (by decide) _)) (by decide))
      · have h1 := cn_eq.mp h1
        refine z_rcs hc hH 5 (pc' := 96) (lv' := [(3, .int (nI i)), (1, .int 3), (2, .ref 79), (0, .ref 50)]) (st' := [.int ((μ1.1 61 (nI i).toNatClampNeg) + (3000 / 3)), .int (nI i), .ref 61]) (μ' := μ1) (by rfl) ?_
        refine zq_iast hc hH (by rfl) 4 (by decide +kernel) (vp_in_nI (by omega) (by decide)) ?_
        refine z_rcs hc hH 2 (pc' := 62) (lv' := [(3, .int ((nI i) + 1)), (1, .int 3), (2, .ref 79), (0, .ref 50)]) (st' := []) (μ' := z_ui μ1 61 ((nI i).toNatClampNeg) ((μ1.1 61 (nI i).toNatClampNeg) + (3000 / 3))) (by rfl) ?_
        rw [nI_1]
        exact ih (i + 1) (by omega) _ (hS.to (md := [(61, 9999)]) (a_H_ui hS.1 (bI_top _)) (GW_ne hS.2.1 (by decide)) (a_Fz_ui (a_Fz_rf _ _) (a_mda_md (by decide) _)) (by decide))
  have af : ∀ (cn : Nat) (u : Int32) (μ1 : zM), cn ≤ 4 → GST μ μ1 → Z 1 51 [(3, .int u), (1, .int (nI cn)), (2, .ref 79), (0, .ref 50)] [] μ1 := by
    intro cn u μ1 h4 hS
    have hcn : cn = 0 ∨ cn = 1 ∨ cn = 2 ∨ cn = 3 ∨ cn = 4 := by omega
    rcases hcn with rfl | rfl | rfl | rfl | rfl
    · show Z 1 51 [(3, .int u), (1, .int 0), (2, .ref 79), (0, .ref 50)] [] μ1
      refine z_rcs hc hH 2 (pc' := 103) (lv' := [(3, .int u), (1, .int 0), (2, .ref 79), (0, .ref 50)]) (st' := []) (μ' := μ1) (by rfl) ?_
      exact tl _ _ μ1 hS
    · show Z 1 51 [(3, .int u), (1, .int 1), (2, .ref 79), (0, .ref 50)] [] μ1
      refine z_rcs hc hH 7 (pc' := 62) (lv' := [(3, .int 0), (1, .int 1), (2, .ref 79), (0, .ref 50)]) (st' := []) (μ' := μ1) (by rfl) ?_
      exact l1 4 0 rfl μ1 hS
    · show Z 1 51 [(3, .int u), (1, .int 2), (2, .ref 79), (0, .ref 50)] [] μ1
      refine z_rcs hc hH 7 (pc' := 62) (lv' := [(3, .int 0), (1, .int 2), (2, .ref 79), (0, .ref 50)]) (st' := []) (μ' := μ1) (by rfl) ?_
      exact l2 4 0 rfl μ1 hS
    · show Z 1 51 [(3, .int u), (1, .int 3), (2, .ref 79), (0, .ref 50)] [] μ1
      refine z_rcs hc hH 7 (pc' := 62) (lv' := [(3, .int 0), (1, .int 3), (2, .ref 79), (0, .ref 50)]) (st' := []) (μ' := μ1) (by rfl) ?_
      exact l3 4 0 rfl μ1 hS
    · show Z 1 51 [(3, .int u), (1, .int 4), (2, .ref 79), (0, .ref 50)] [] μ1
      refine z_rcs hc hH 5 (pc' := 103) (lv' := [(3, .int u), (1, .int 4), (2, .ref 79), (0, .ref 50)]) (st' := []) (μ' := μ1) (by rfl) ?_
      exact tl _ _ μ1 hS
  have lp : ∀ (n i : Nat), i + n = 4 → ∀ (cn : Nat) (μ1 : zM), cn ≤ i → GST μ μ1 → Z 1 8 [(3, .int (nI i)), (1, .int (nI cn)), (2, .ref 79), (0, .ref 50)] [] μ1 := by
    intro n
    induction n with
    | zero =>
      intro i hi cn μ1 hcn hS
      have hi : i = 4 := by omega
      subst hi
      refine z_rcs hc hH 2 (pc' := 10) (lv' := [(3, .int (nI 4)), (1, .int (nI cn)), (2, .ref 79), (0, .ref 50)]) (st' := [.int 4, .int (nI 4)]) (μ' := μ1) (by rfl) ?_
      refine zq_ic hc hH (by rfl) (tg := 51) (by rfl) (fun _ => ?_) (fun h9 => (zb_t (ge_nIt (n := 4) (i := 4) (by decide) (by decide)) h9).elim)
      exact af cn _ μ1 hcn hS
    | succ n ih =>
      intro i hi cn μ1 hcn hS
      refine z_rcs hc hH 2 (pc' := 10) (lv' := [(3, .int (nI i)), (1, .int (nI cn)), (2, .ref 79), (0, .ref 50)]) (st' := [.int 4, .int (nI i)]) (μ' := μ1) (by rfl) ?_
      refine zq_ic hc hH (by rfl) (tg := 51) (by rfl) (fun h9 => (zb_t h9 (ge_nI (n := 4) (i := i) (by omega) (by decide))).elim) (fun _ => ?_)
      refine z_rcs hc hH 4 (pc' := 17) (lv' := [(3, .int (nI i)), (1, .int (nI cn)), (2, .ref 79), (0, .ref 50)]) (st' := [.int (nI i), .ref 50, .int (nI i), .ref 79]) (μ' := μ1) (by rfl) ?_
      refine zq_call hc (z_cx_ok hH (by rfl)) (a_use (i := 118) (K := ak_118) rfl (by omega) [.ref 50, .int (nI i)] _ (aArg_pre ⟨⟨50, by decide, rfl⟩, ⟨_, rfl, (show bI 0 3 _ from bd_nI (by omega) ⟨by omega, by omega⟩)⟩, trivial⟩ rfl) hS.1) (by decide +kernel) (fun r9 μ9 hq => ?_)
      obtain ⟨q1, q3, hr9⟩ := hq
      obtain ⟨v9, rfl, x9, rfl, -⟩ := hr9
      have hB := hS.to q1 (GW_keep hS.2.1 q3 (by decide)) q3 (by decide)
      show Z 1 20 [(3, .int (nI i)), (1, .int (nI cn)), (2, .ref 79), (0, .ref 50)] [.long x9, .int (nI i), .ref 79] μ9
      refine z_rcs hc hH 2 (pc' := 22) (lv' := [(3, .int (nI i)), (1, .int (nI cn)), (2, .ref 79), (0, .ref 50)]) (st' := [.int (lg_cmp x9 0), .int (nI i), .ref 79]) (μ' := μ9) (by rfl) ?_
      refine zq_if hc hH (by rfl) (tg := 29) (by rfl) (fun h1 => ?_) (fun h1 => ?_)
      · have h1 := cm_eq9.mp h1
        refine z_rcs hc hH 1 (pc' := 30) (lv' := [(3, .int (nI i)), (1, .int (nI cn)), (2, .ref 79), (0, .ref 50)]) (st' := [.int 0, .int (nI i), .ref 79]) (μ' := μ9) (by rfl) ?_
        refine zq_bast hc hH (by rfl) 4 (by decide +kernel) (vp_in_nI (by omega) (by decide)) (by decide) ?_
        refine z_rcs hc hH 3 (pc' := 34) (lv' := [(3, .int (nI i)), (1, .int (nI cn)), (2, .ref 79), (0, .ref 50)]) (st' := [.int (nI i), .ref 79, .int (nI cn)]) (μ' := z_ui μ9 79 ((nI i).toNatClampNeg) 0) (by rfl) ?_
        refine zq_bald hc hH (by rfl) 4 (by decide +kernel) (vp_in_nI (by omega) (by decide)) ?_
        refine zq_if hc hH (by rfl) (tg := 42) (by rfl) (fun h2 => ?_) (fun h2 => ?_)
        · have h2 := cm_eq9.mp h2
          refine z_rcs hc hH 5 (pc' := 8) (lv' := [(3, .int ((nI i) + 1)), (1, .int ((nI cn) + 0)), (2, .ref 79), (0, .ref 50)]) (st' := []) (μ' := z_ui μ9 79 ((nI i).toNatClampNeg) 0) (by rfl) ?_
          rw [Int32.add_zero, nI_1]
          exact ih (i + 1) (by omega) cn _ (by omega) (hB.to (md := [(79, 9999)]) (a_H_ui hB.1 (show bI 0 1 0 from ⟨by decide, by decide⟩)) (GW_ne hB.2.1 (by decide)) (a_Fz_ui (a_Fz_rf _ _) (a_mda_md (by decide) _)) (by decide))
        · have h2 := cn_eq.mp h2
          refine z_rcs hc hH 6 (pc' := 8) (lv' := [(3, .int ((nI i) + 1)), (1, .int ((nI cn) + 1)), (2, .ref 79), (0, .ref 50)]) (st' := []) (μ' := z_ui μ9 79 ((nI i).toNatClampNeg) 0) (by rfl) ?_
          rw [nI_1, nI_1]
          exact ih (i + 1) (by omega) (cn + 1) _ (by omega) (hB.to (md := [(79, 9999)]) (a_H_ui hB.1 (show bI 0 1 0 from ⟨by decide, by decide⟩)) (GW_ne hB.2.1 (by decide)) (a_Fz_ui (a_Fz_rf _ _) (a_mda_md (by decide) _)) (by decide))
      · have h1 := cn_eq.mp h1
        refine z_rcs hc hH 2 (pc' := 30) (lv' := [(3, .int (nI i)), (1, .int (nI cn)), (2, .ref 79), (0, .ref 50)]) (st' := [.int 1, .int (nI i), .ref 79]) (μ' := μ9) (by rfl) ?_
        refine zq_bast hc hH (by rfl) 4 (by decide +kernel) (vp_in_nI (by omega) (by decide)) (by decide) ?_
        refine z_rcs hc hH 3 (pc' := 34) (lv' := [(3, .int (nI i)), (1, .int (nI cn)), (2, .ref 79), (0, .ref 50)]) (st' := [.int (nI i), .ref 79, .int (nI cn)]) (μ' := z_ui μ9 79 ((nI i).toNatClampNeg) 1) (by rfl) ?_
        refine zq_bald hc hH (by rfl) 4 (by decide +kernel) (vp_in_nI (by omega) (by decide)) ?_
        refine zq_if hc hH (by rfl) (tg := 42) (by rfl) (fun h3 => ?_) (fun h3 => ?_)
        · have h3 := cm_eq9.mp h3
          refine z_rcs hc hH 5 (pc' := 8) (lv' := [(3, .int ((nI i) + 1)), (1, .int ((nI cn) + 0)), (2, .ref 79), (0, .ref 50)]) (st' := []) (μ' := z_ui μ9 79 ((nI i).toNatClampNeg) 1) (by rfl) ?_
          rw [Int32.add_zero, nI_1]
          exact ih (i + 1) (by omega) cn _ (by omega) (hB.to (md := [(79, 9999)]) (a_H_ui hB.1 (show bI 0 1 1 from ⟨by decide, by decide⟩)) (GW_ne hB.2.1 (by decide)) (a_Fz_ui (a_Fz_rf _ _) (a_mda_md (by decide) _)) (by decide))
        · have h3 := cn_eq.mp h3
          refine z_rcs hc hH 6 (pc' := 8) (lv' := [(3, .int ((nI i) + 1)), (1, .int ((nI cn) + 1)), (2, .ref 79), (0, .ref 50)]) (st' := []) (μ' := z_ui μ9 79 ((nI i).toNatClampNeg) 1) (by rfl) ?_
          rw [nI_1, nI_1]
          exact ih (i + 1) (by omega) (cn + 1) _ (by omega) (hB.to (md := [(79, 9999)]) (a_H_ui hB.1 (show bI 0 1 1 from ⟨by decide, by decide⟩)) (GW_ne hB.2.1 (by decide)) (a_Fz_ui (a_Fz_rf _ _) (a_mda_md (by decide) _)) (by decide))
  have s0 : ∀ (cn i : Nat) (μ1 : zM), cn = 0 → i = 0 → GST μ μ1 → Z 1 8 [(3, .int (nI i)), (2, .ref 79), (1, .int (nI cn)), (0, .ref 50)] [] μ1 := by
    intro cn i μ1 hcn hi hS
    refine z_rcs hc hH 2 (pc' := 10) (lv' := [(3, .int (nI i)), (2, .ref 79), (1, .int (nI cn)), (0, .ref 50)]) (st' := [.int 4, .int (nI i)]) (μ' := μ1) (by rfl) ?_
    refine zq_ic hc hH (by rfl) (tg := 51) (by rfl) (fun h9 => (zb_t h9 (ge_nI (n := 4) (i := i) (by omega) (by decide))).elim) (fun _ => ?_)
    refine z_rcs hc hH 4 (pc' := 17) (lv' := [(3, .int (nI i)), (2, .ref 79), (1, .int (nI cn)), (0, .ref 50)]) (st' := [.int (nI i), .ref 50, .int (nI i), .ref 79]) (μ' := μ1) (by rfl) ?_
    refine zq_call hc (z_cx_ok hH (by rfl)) (a_use (i := 118) (K := ak_118) rfl (by omega) [.ref 50, .int (nI i)] _ (aArg_pre ⟨⟨50, by decide, rfl⟩, ⟨_, rfl, (show bI 0 3 _ from bd_nI (by omega) ⟨by omega, by omega⟩)⟩, trivial⟩ rfl) hS.1) (by decide +kernel) (fun r9 μ9 hq => ?_)
    obtain ⟨q1, q3, hr9⟩ := hq
    obtain ⟨v9, rfl, x9, rfl, -⟩ := hr9
    have hB := hS.to q1 (GW_keep hS.2.1 q3 (by decide)) q3 (by decide)
    show Z 1 20 [(3, .int (nI i)), (2, .ref 79), (1, .int (nI cn)), (0, .ref 50)] [.long x9, .int (nI i), .ref 79] μ9
    refine z_rcs hc hH 2 (pc' := 22) (lv' := [(3, .int (nI i)), (2, .ref 79), (1, .int (nI cn)), (0, .ref 50)]) (st' := [.int (lg_cmp x9 0), .int (nI i), .ref 79]) (μ' := μ9) (by rfl) ?_
    refine zq_if hc hH (by rfl) (tg := 29) (by rfl) (fun h1 => ?_) (fun h1 => ?_)
    · have h1 := cm_eq9.mp h1
      refine z_rcs hc hH 1 (pc' := 30) (lv' := [(3, .int (nI i)), (2, .ref 79), (1, .int (nI cn)), (0, .ref 50)]) (st' := [.int 0, .int (nI i), .ref 79]) (μ' := μ9) (by rfl) ?_
      refine zq_bast hc hH (by rfl) 4 (by decide +kernel) (vp_in_nI (by omega) (by decide)) (by decide) ?_
      refine z_rcs hc hH 3 (pc' := 34) (lv' := [(3, .int (nI i)), (2, .ref 79), (1, .int (nI cn)), (0, .ref 50)]) (st' := [.int (nI i), .ref 79, .int (nI cn)]) (μ' := z_ui μ9 79 ((nI i).toNatClampNeg) 0) (by rfl) ?_
      refine zq_bald hc hH (by rfl) 4 (by decide +kernel) (vp_in_nI (by omega) (by decide)) ?_
      refine zq_if hc hH (by rfl) (tg := 42) (by rfl) (fun h2 => ?_) (fun h2 => ?_)
      · have h2 := cm_eq9.mp h2
        refine z_rcs hc hH 5 (pc' := 8) (lv' := [(3, .int ((nI i) + 1)), (1, .int ((nI cn) + 0)), (2, .ref 79), (0, .ref 50)]) (st' := []) (μ' := z_ui μ9 79 ((nI i).toNatClampNeg) 0) (by rfl) ?_
        rw [Int32.add_zero, nI_1]
        exact lp 3 (i + 1) (by omega) cn _ (by omega) (hB.to (md := [(79, 9999)]) (a_H_ui hB.1 (show bI 0 1 0 from ⟨by decide, by decide⟩)) (GW_ne hB.2.1 (by decide)) (a_Fz_ui (a_Fz_rf _ _) (a_mda_md (by decide) _)) (by decide))
      · have h2 := cn_eq.mp h2
        refine z_rcs hc hH 6 (pc' := 8) (lv' := [(3, .int ((nI i) + 1)), (1, .int ((nI cn) + 1)), (2, .ref 79), (0, .ref 50)]) (st' := []) (μ' := z_ui μ9 79 ((nI i).toNatClampNeg) 0) (by rfl) ?_
        rw [nI_1, nI_1]
        exact lp 3 (i + 1) (by omega) (cn + 1) _ (by omega) (hB.to (md := [(79, 9999)]) (a_H_ui hB.1 (show bI 0 1 0 from ⟨by decide, by decide⟩)) (GW_ne hB.2.1 (by decide)) (a_Fz_ui (a_Fz_rf _ _) (a_mda_md (by decide) _)) (by decide))
    · have h1 := cn_eq.mp h1
      refine z_rcs hc hH 2 (pc' := 30) (lv' := [(3, .int (nI i)), (2, .ref 79), (1, .int (nI cn)), (0, .ref 50)]) (st' := [.int 1, .int (nI i), .ref 79]) (μ' := μ9) (by rfl) ?_
      refine zq_bast hc hH (by rfl) 4 (by decide +kernel) (vp_in_nI (by omega) (by decide)) (by decide) ?_
      refine z_rcs hc hH 3 (pc' := 34) (lv' := [(3, .int (nI i)), (2, .ref 79), (1, .int (nI cn)), (0, .ref 50)]) (st' := [.int (nI i), .ref 79, .int (nI cn)]) (μ' := z_ui μ9 79 ((nI i).toNatClampNeg) 1) (by rfl) ?_
      refine zq_bald hc hH (by rfl) 4 (by decide +kernel) (vp_in_nI (by omega) (by decide)) ?_
      refine zq_if hc hH (by rfl) (tg := 42) (by rfl) (fun h3 => ?_) (fun h3 => ?_)
      · have h3 := cm_eq9.mp h3
        refine z_rcs hc hH 5 (pc' := 8) (lv' := [(3, .int ((nI i) + 1)), (1, .int ((nI cn) + 0)), (2, .ref 79), (0, .ref 50)]) (st' := []) (μ' := z_ui μ9 79 ((nI i).toNatClampNeg) 1) (by rfl) ?_
        rw [Int32.add_zero, nI_1]
        exact lp 3 (i + 1) (by omega) cn _ (by omega) (hB.to (md := [(79, 9999)]) (a_H_ui hB.1 (show bI 0 1 1 from ⟨by decide, by decide⟩)) (GW_ne hB.2.1 (by decide)) (a_Fz_ui (a_Fz_rf _ _) (a_mda_md (by decide) _)) (by decide))
      · have h3 := cn_eq.mp h3
        refine z_rcs hc hH 6 (pc' := 8) (lv' := [(3, .int ((nI i) + 1)), (1, .int ((nI cn) + 1)), (2, .ref 79), (0, .ref 50)]) (st' := []) (μ' := z_ui μ9 79 ((nI i).toNatClampNeg) 1) (by rfl) ?_
        rw [nI_1, nI_1]
        exact lp 3 (i + 1) (by omega) (cn + 1) _ (by omega) (hB.to (md := [(79, 9999)]) (a_H_ui hB.1 (show bI 0 1 1 from ⟨by decide, by decide⟩)) (GW_ne hB.2.1 (by decide)) (a_Fz_ui (a_Fz_rf _ _) (a_mda_md (by decide) _)) (by decide))
  refine z_rcs hc hH 2 (pc' := 8) (lv' := [(3, .int 0), (2, .ref 79), (1, .int 0), (0, .ref 50)]) (st' := []) (μ' := z_zero μ) (by rfl) ?_
  exact s0 0 0 _ rfl rfl hS0

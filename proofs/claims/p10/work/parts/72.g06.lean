set_option maxRecDepth 8000
theorem aq209 (d' : Nat) (Z : zK) (hd : 11 ≤ d') (μ : zM) (w : Nat → Nat) (q : Nat) (hq : q ≤ 4) (hw : RW μ 51 w) (e4 : μ.1 50 4 = nI q) (sL lL : Nat → Nat) (hL : ∀ j, j < q → μ.1 52 j = nI (sL j) ∧ sL j ≤ 3 ∧ μ.1 53 j = nI (lL j) ∧ lL j < 34) (h14 : sn w 34 + 3 * q = 14) (hc : z_clo z_x0 mi_X7_apart (z_C d') Z) (hr : z_ret mi_X7_apart (fun r μ' => r = none ∧ AV μ μ' (SR μ w q sL lL)) Z) (h0 : q = 0) (x4 : Int32) (hx : (x4 = 1 ∧ ∃ k, k < 34 ∧ eN k = true ∧ w k = 2) ∨ (x4 = 0 ∧ ¬ ∃ k, k < 34 ∧ eN k = true ∧ w k = 2)) (b2 : cn (fun k => decide (w k = 2)) 34 < 100) (bE : cn (fun k => eN k && decide (0 < w k)) 34 < 100) (μ1 : zM) (hA : AV μ μ1 (Si μ w q sL lL 34)) : Z 0 209 [(5, .int (nI 34)), (4, .int x4), (3, .int (nI (cn (fun k => eN k && decide (0 < w k)) 34))), (2, .int (nI (cn (fun k => decide (w k = 2)) 34))), (0, .ref 50), (1, .int 1)] [] μ1 := by
  have hH := zh_X7_apart
  have t228 : ∀ (μ2 : zM), AV μ μ2 (fun x => Si μ w q sL lL 34 x ∨ S7 μ w q x) → Z 0 228 [(5, .int (nI 34)), (4, .int x4), (3, .int (nI (cn (fun k => eN k && decide (0 < w k)) 34))), (2, .int (nI (cn (fun k => decide (w k = 2)) 34))), (0, .ref 50), (1, .int 1)] [] μ2 := by
    intro μ2 h2
    refine z_rcs hc hH 2 (pc' := 231) (lv' := [(5, .int (nI 34)), (4, .int x4), (3, .int (nI (cn (fun k => eN k && decide (0 < w k)) 34))), (2, .int (nI (cn (fun k => decide (w k = 2)) 34))), (0, .ref 50), (1, .int 1)]) (st' := [.int 13, .int (nI (cn (fun k => eN k && decide (0 < w k)) 34))]) (μ' := μ2) (by rfl) ?_
    refine zq_ic hc hH (by rfl) (tg := 252) (by rfl) (fun h1 => ?_) (fun h1 => ?_)
    · have h1 := cm_ne.mp h1
      exact hr 0 252 _ _ _ none (by decide +kernel) (by rfl) (⟨rfl, h2.iff (fun x => ⟨fun z => ⟨h14, Or.inl z⟩, fun z => z.2.resolve_right (fun z => h1 (by rw [z.1.2.1]; rfl))⟩)⟩)
    · have h1 := cn_ne.mp h1
      refine z_rcs hc hH 1 (pc' := 236) (lv' := [(5, .int (nI 34)), (4, .int x4), (3, .int (nI (cn (fun k => eN k && decide (0 < w k)) 34))), (2, .int (nI (cn (fun k => decide (w k = 2)) 34))), (0, .ref 50), (1, .int 1)]) (st' := [.int x4]) (μ' := μ2) (by rfl) ?_
      rcases hx with ⟨rfl, hz⟩ | ⟨rfl, hz⟩
      · skip
        refine z_rcs hc hH 7 (pc' := 249) (lv' := [(5, .int (nI 34)), (4, .int 1), (3, .int (nI (cn (fun k => eN k && decide (0 < w k)) 34))), (2, .int (nI (cn (fun k => decide (w k = 2)) 34))), (0, .ref 50), (1, .int 1)]) (st' := [.ref 50]) (μ' := z_ui μ2 50 18 1) (by rfl) ?_
        refine zq_call hc (z_cx_ok hH (by rfl)) (fb_X7_thirteen d' (by omega) (z_ui μ2 50 18 1) (a_H_ui h2.2.2.1 ⟨by decide, by decide⟩)) (by decide +kernel) (fun r3 μ3 hq3 => ?_)
        obtain ⟨rfl, hP⟩ := hq3
        have eT : vT (z_ui μ2 50 18 1) = vT μ := ah_vT (AH_Fz (a_Fz_ui h2.2.1 (by decide +kernel)))
        rw [eT] at hP
        show Z 0 252 [(5, .int (nI 34)), (4, .int 1), (3, .int (nI (cn (fun k => eN k && decide (0 < w k)) 34))), (2, .int (nI (cn (fun k => decide (w k = 2)) 34))), (0, .ref 50), (1, .int 1)] [] μ3
        exact hr 0 252 _ _ _ none (by decide +kernel) (by rfl) (⟨rfl, (h2.more hP).iff (fun x => ⟨fun z => ⟨h14, z.imp id (fun y => ⟨⟨h0, (nI_eq (by omega) (by omega)).mp h1, hz⟩, y⟩)⟩, fun z => z.2.imp id (fun y => y.2)⟩)⟩)
      · skip
        refine z_rcs hc hH 1 (pc' := 252) (lv' := [(5, .int (nI 34)), (4, .int 0), (3, .int (nI (cn (fun k => eN k && decide (0 < w k)) 34))), (2, .int (nI (cn (fun k => decide (w k = 2)) 34))), (0, .ref 50), (1, .int 1)]) (st' := []) (μ' := μ2) (by rfl) ?_
        exact hr 0 252 _ _ _ none (by decide +kernel) (by rfl) (⟨rfl, h2.iff (fun x => ⟨fun z => ⟨h14, Or.inl z⟩, fun z => z.2.resolve_right (fun z => hz z.1.2.2)⟩)⟩)
  refine z_rcs hc hH 2 (pc' := 212) (lv' := [(5, .int (nI 34)), (4, .int x4), (3, .int (nI (cn (fun k => eN k && decide (0 < w k)) 34))), (2, .int (nI (cn (fun k => decide (w k = 2)) 34))), (0, .ref 50), (1, .int 1)]) (st' := [.int 7, .int (nI (cn (fun k => decide (w k = 2)) 34))]) (μ' := μ1) (by rfl) ?_
  refine zq_ic hc hH (by rfl) (tg := 228) (by rfl) (fun h1 => ?_) (fun h1 => ?_)
  · have h1 := cm_ne.mp h1
    exact t228 _ (hA.iff (fun x => ⟨Or.inl, fun z => z.resolve_right (fun e => h1 (by rw [e.1.2]; rfl))⟩))
  · have h1 := cn_ne.mp h1
    refine z_rcs hc hH 6 (pc' := 225) (lv' := [(5, .int (nI 34)), (4, .int x4), (3, .int (nI (cn (fun k => eN k && decide (0 < w k)) 34))), (2, .int (nI (cn (fun k => decide (w k = 2)) 34))), (0, .ref 50), (1, .int 1)]) (st' := [.ref 50]) (μ' := z_ui μ1 50 18 1) (by rfl) ?_
    refine zq_call hc (z_cx_ok hH (by rfl)) (fb_X7_pairsWay d' (by omega) (z_ui μ1 50 18 1) (a_H_ui hA.2.2.1 ⟨by decide, by decide⟩) q hq (by rw [z_ui_rd, if_neg (by omega), a_Fz_at hA.2.1 50 4 (by decide +kernel)]; exact e4)) (by decide +kernel) (fun r3 μ3 hq3 => ?_)
    obtain ⟨rfl, hP⟩ := hq3
    have eP : vP (z_ui μ1 50 18 1) q = vP μ q := ah_vP (AH_Fz (a_Fz_ui hA.2.1 (by decide +kernel))) q
    rw [eP] at hP
    show Z 0 228 [(5, .int (nI 34)), (4, .int x4), (3, .int (nI (cn (fun k => eN k && decide (0 < w k)) 34))), (2, .int (nI (cn (fun k => decide (w k = 2)) 34))), (0, .ref 50), (1, .int 1)] [] μ3
    exact t228 _ ((hA.more hP).iff (fun x => ⟨fun z => z.imp id (fun y => ⟨⟨h0, (nI_eq (by omega) (by omega)).mp h1⟩, y⟩), fun z => z.imp id (fun y => y.2)⟩))

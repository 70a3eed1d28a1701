set_option maxRecDepth 8000
theorem fb_X7_pairsWay (d : Nat) (hd : 4 ≤ d) (μ : zM) (hH0 : a_H μ) (q : Nat) (hq : q ≤ 4) (e4 : μ.1 50 4 = nI q) : z_C d mi_X7_pairsWay [.ref 50] μ (fun r μ' => r = none ∧ PQ μ μ' (vP μ q)) := by
  refine z_C_in (by decide) (by omega) (fun d' Z ed hc hr => ?_)
  have hH := zh_X7_pairsWay
  refine z_rcs hc hH 6 (pc' := 10) (lv' := [(0, .ref 50)]) (st' := []) (μ' := z_ui μ 50 16 ((μ.1 50 16) + 1)) (by rfl) ?_
  rw [mGP_z]
  show Z 0 10 [(0, .ref 50)] [] (mGP (z_ui μ 50 16 (μ.1 50 16 + 1)) (μ.2.1 50 24) (μ.2.1 50 25) (μ.1 50 23))
  refine z_rcs hc hH 3 (pc' := 15) (lv' := [(0, .ref 50)]) (st' := []) (μ' := z_uj (mGP (z_ui μ 50 16 (μ.1 50 16 + 1)) (μ.2.1 50 24) (μ.2.1 50 25) (μ.1 50 23)) 50 24 0) (by rfl) ?_
  rw [mGP_g]
  show Z 0 15 [(0, .ref 50)] [] (mGP (z_ui μ 50 16 (μ.1 50 16 + 1)) 0 (μ.2.1 50 25) (μ.1 50 23))
  refine z_rcs0 hc hH 2 (pc' := 18) (lv' := [(0, .ref 50)]) (st' := [.int 16, .ref 50]) (by rfl) ?_
  refine zq_call hc (z_cx_ok hH (by rfl)) (fb_X7_bit d' (by omega) (mGP (z_ui μ 50 16 (μ.1 50 16 + 1)) 0 (μ.2.1 50 25) (μ.1 50 23)) 16) (by decide +kernel) (fun r9 μ9 hq => ?_)
  obtain ⟨hμ9, rfl⟩ := hq
  rw [hμ9]
  clear hμ9 μ9
  show Z 0 21 [(0, .ref 50)] [.long (lb true 16), .ref 50] _
  refine z_rcs hc hH 1 (pc' := 24) (lv' := [(0, .ref 50)]) (st' := []) (μ' := z_uj (mGP (z_ui μ 50 16 (μ.1 50 16 + 1)) 0 (μ.2.1 50 25) (μ.1 50 23)) 50 25 (lb true 16)) (by rfl) ?_
  rw [mGP_p]
  show Z 0 24 [(0, .ref 50)] [] (mGP (z_ui μ 50 16 (μ.1 50 16 + 1)) 0 (lb true 16) (μ.1 50 23))
  refine z_rcs0 hc hH 1 (pc' := 25) (lv' := [(0, .ref 50)]) (st' := [.ref 50]) (by rfl) ?_
  refine zq_call hc (z_cx_ok hH (by rfl)) (fb_X7_tiles d' (by omega) (mGP (z_ui μ 50 16 (μ.1 50 16 + 1)) 0 (lb true 16) (μ.1 50 23)) q hq (by show (z_ui μ 50 16 (μ.1 50 16 + 1)).1 50 4 = nI q; rw [z_ui_rd, if_neg (by omega)]; exact e4)) (by decide +kernel) (fun r9 μ9 hq => ?_)
  obtain ⟨rfl, rfl⟩ := hq
  rw [mGP2, tF_mGP, ah_tF (AH_16 μ _)]
  show Z 0 28 [(0, .ref 50)] [] (mGP (z_ui μ 50 16 (μ.1 50 16 + 1)) (tlG (mGP (z_ui μ 50 16 (μ.1 50 16 + 1)) 0 (lb true 16) (μ.1 50 23)) 0 (tF μ q 34 0 t70)) (tlP (mGP (z_ui μ 50 16 (μ.1 50 16 + 1)) 0 (lb true 16) (μ.1 50 23)) (lb true 16) (tF μ q 34 0 t70)) (μ.1 50 23))
  refine z_rcs hc hH 3 (pc' := 34) (lv' := [(0, .ref 50)]) (st' := []) (μ' := z_ui (mGP (z_ui μ 50 16 (μ.1 50 16 + 1)) (tlG (mGP (z_ui μ 50 16 (μ.1 50 16 + 1)) 0 (lb true 16) (μ.1 50 23)) 0 (tF μ q 34 0 t70)) (tlP (mGP (z_ui μ 50 16 (μ.1 50 16 + 1)) 0 (lb true 16) (μ.1 50 23)) (lb true 16) (tF μ q 34 0 t70)) (μ.1 50 23)) 50 23 25) (by rfl) ?_
  rw [mGP_f]
  show Z 0 34 [(0, .ref 50)] [] (mGP (z_ui μ 50 16 (μ.1 50 16 + 1)) (tlG (mGP (z_ui μ 50 16 (μ.1 50 16 + 1)) 0 (lb true 16) (μ.1 50 23)) 0 (tF μ q 34 0 t70)) (tlP (mGP (z_ui μ 50 16 (μ.1 50 16 + 1)) 0 (lb true 16) (μ.1 50 23)) (lb true 16) (tF μ q 34 0 t70)) 25)
  refine z_rcs0 hc hH 2 (pc' := 36) (lv' := [(0, .ref 50)]) (st' := [.int 0, .ref 50]) (by rfl) ?_
  refine zq_call hc (z_cx_ok hH (by rfl)) (fb_X7_compare d' (by omega) (mGP (z_ui μ 50 16 (μ.1 50 16 + 1)) (tlG (mGP (z_ui μ 50 16 (μ.1 50 16 + 1)) 0 (lb true 16) (μ.1 50 23)) 0 (tF μ q 34 0 t70)) (tlP (mGP (z_ui μ 50 16 (μ.1 50 16 + 1)) 0 (lb true 16) (μ.1 50 23)) (lb true 16) (tF μ q 34 0 t70)) 25) false) (by decide +kernel) (fun r9 μ9 hq9 => ?_)
  obtain ⟨rfl, hC⟩ := hq9
  show Z 0 39 [(0, .ref 50)] [] μ9
  exact hr 0 39 _ _ _ none (by decide +kernel) (by rfl) (⟨rfl, PQ_of hH0 hC (by rw [ah_cOf (AH_16 μ _)]; unfold vP; first | (rw [tlG_mGP9, ah_tlG (AH_16 μ _)]; exact congrArg (fun z => cOf (mGP μ (tlG μ 0 (tF μ q 34 0 t70)) z 25) false) (tlP_any _ _ _ _)) | (rw [show tlG (mGP (z_ui μ 50 16 (μ.1 50 16 + 1)) 0 (lb true 16) (μ.1 50 23)) 0 (tF μ q 34 0 t70) = tlG (z_ui μ 50 16 (μ.1 50 16 + 1)) 0 (tF μ q 34 0 t70) from rfl, ah_tlG (AH_16 μ _)]; rfl))⟩)
theorem zh_X7_thirteen : zH mi_X7_thirteen zt_X7_thirteen 79 7 1 := hh_X7_thirteen

set_option maxRecDepth 8000
theorem fr_X7_apart (d : Nat) (hd : 12 ≤ d) (μ : zM) (w : Nat → Nat) (q : Nat) (hq : q ≤ 4) (hw : RW μ 51 w) (e4 : μ.1 50 4 = nI q) (sL lL : Nat → Nat) (hL : ∀ j, j < q → μ.1 52 j = nI (sL j) ∧ sL j ≤ 3 ∧ μ.1 53 j = nI (lL j) ∧ lL j < 34) (hH0 : a_H μ) : z_C d mi_X7_apart [.ref 50, .int 1] μ (fun r μ' => r = none ∧ AV μ μ' (SR μ w q sL lL)) := by
  refine z_C_in (by decide) (by omega) (fun d' Z ed hc hr => ?_)
  have hH := zh_X7_apart
  have hsn : sn w 34 < 1000 := by have := sn_ub (w := w) (c := 5) 34 (fun k hk => by have := (hw k hk).2; omega); omega
  refine z_rcs hc hH 18 (pc' := 30) (lv' := [(0, .ref 50), (1, .int 1)]) (st' := []) (μ' := z_uj (z_ui (z_ui (z_ui (z_ui (z_ui μ 50 18 0) 50 16 0) 50 13 0) 50 14 0) 50 15 0) 50 17 0) (by rfl) ?_
  have hA : AV μ (z_uj (z_ui (z_ui (z_ui (z_ui (z_ui μ 50 18 0) 50 16 0) 50 13 0) 50 14 0) 50 15 0) 50 17 0) (Si μ w q sL lL 0) := by
    refine ⟨fun j => ?_, a_Fz_uj (a_Fz_ui (a_Fz_ui (a_Fz_ui (a_Fz_ui (a_Fz_ui (a_Fz_rf _ _) (by decide +kernel)) (by decide +kernel)) (by decide +kernel)) (by decide +kernel)) (by decide +kernel)) (by decide +kernel), a_H_uj (a_H_ui (a_H_ui (a_H_ui (a_H_ui (a_H_ui hH0 ⟨by decide, by decide⟩) (bI_top _)) (bI_top _)) (bI_top _)) (bI_top _)), ?_⟩
    · show (z_ui (z_ui (z_ui (z_ui (z_ui μ 50 18 0) 50 16 0) 50 13 0) 50 14 0) 50 15 0).1 51 j = _
      rw [z_ui_rd, if_neg (by omega), z_ui_rd, if_neg (by omega), z_ui_rd, if_neg (by omega), z_ui_rd, if_neg (by omega), z_ui_rd, if_neg (by omega)]
    · have z : bq (z_uj (z_ui (z_ui (z_ui (z_ui (z_ui μ 50 18 0) 50 16 0) 50 13 0) 50 14 0) 50 15 0) 50 17 0) = (0, 0, 0, 0) := by
        refine Prod.ext ?_ (Prod.ext ?_ (Prod.ext ?_ ?_))
        · show (z_ui (z_ui (z_ui (z_ui (z_ui μ 50 18 0) 50 16 0) 50 13 0) 50 14 0) 50 15 0).1 50 13 = 0; rw [z_ui_rd, if_neg (by omega), z_ui_rd, if_neg (by omega), z_ui_rd, if_pos ⟨rfl, rfl⟩]
        · show (z_ui (z_ui (z_ui (z_ui (z_ui μ 50 18 0) 50 16 0) 50 13 0) 50 14 0) 50 15 0).1 50 14 = 0; rw [z_ui_rd, if_neg (by omega), z_ui_rd, if_pos ⟨rfl, rfl⟩]
        · show (z_ui (z_ui (z_ui (z_ui (z_ui μ 50 18 0) 50 16 0) 50 13 0) 50 14 0) 50 15 0).1 50 15 = 0; rw [z_ui_rd, if_pos ⟨rfl, rfl⟩]
        · show (z_uj (z_ui (z_ui (z_ui (z_ui (z_ui μ 50 18 0) 50 16 0) 50 13 0) 50 14 0) 50 15 0) 50 17 0).2.1 50 17 = 0; rw [z_uj_rd, if_pos ⟨rfl, rfl⟩]
      rw [z]
      exact BS_rf (fun x ⟨p9, u1, _⟩ => absurd u1 (by omega))
  generalize z_uj (z_ui (z_ui (z_ui (z_ui (z_ui μ 50 18 0) 50 16 0) 50 13 0) 50 14 0) 50 15 0) 50 17 0 = μ1 at hA ⊢
  have e41 : μ1.1 50 4 = nI q := (a_Fz_at hA.2.1 50 4 (by decide +kernel)).trans e4
  have es : sm (μ1.1 51) 34 = nI (sn w 34) := sm_sn 34 (fun k hk => (hA.1 k).trans (hw k hk).1)
  refine z_rcs hc hH 1 (pc' := 31) (lv' := [(0, .ref 50), (1, .int 1)]) (st' := [.ref 50]) (μ' := μ1) (by rfl) ?_
  refine zq_call hc (z_cx_ok hH (by rfl)) (fc_X7_inHand d' (by omega) μ1) (by decide +kernel) (fun r9 μ9 hq => ?_)
  obtain ⟨hμ9, rfl⟩ := hq
  rw [hμ9]
  clear hμ9 μ9
  show Z 0 34 [(0, .ref 50), (1, .int 1)] [.int (sm (μ1.1 51) 34)] μ1
  refine z_rcs hc hH 5 (pc' := 41) (lv' := [(0, .ref 50), (1, .int 1)]) (st' := [.int ((sm (μ1.1 51) 34) + (3 * (μ1.1 50 4)))]) (μ' := μ1) (by rfl) ?_
  rw [es, e41, size_nI]
  show Z 0 41 [(0, .ref 50), (1, .int 1)] [.int (nI (sn w 34 + 3 * q))] μ1
  refine z_rcs hc hH 1 (pc' := 43) (lv' := [(0, .ref 50), (1, .int 1)]) (st' := [.int 14, .int (nI (sn w 34 + 3 * q))]) (μ' := μ1) (by rfl) ?_
  refine zq_ic hc hH (by rfl) (tg := 47) (by rfl) (fun h1 => ?_) (fun h1 => ?_)
  · have h1 := cm_eq9.mp h1
    refine z_rcs hc hH 2 (pc' := 49) (lv' := [(2, .int 0), (0, .ref 50), (1, .int 1)]) (st' := []) (μ' := μ1) (by rfl) ?_
    exact aq49 d' Z (by omega) μ w q hq hw e4 sL lL hL ((nI_eq (by omega) (by omega)).mp h1) hc hr 34 0 (by omega) μ1 hA
  · have h1 := cn_eq.mp h1
    exact hr 0 46 _ _ _ none (by decide +kernel) (by rfl) (⟨rfl, hA.iff (fun x => ⟨fun ⟨p9, u1, _⟩ => absurd u1 (by omega), fun z => absurd (show nI (sn w 34 + 3 * q) = 14 by rw [z.1]; rfl) h1⟩)⟩)

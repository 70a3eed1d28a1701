/-! the class: a hand is judged; what the desk is worth -/
set_option maxRecDepth 8000
theorem b01 (b : Bool) : z_b01 (nB b) = true := by cases b <;> rfl
abbrev rw9 (wi : Int32) : Int32 := 27 + ((wi.toUInt32 >>> ((2 : Int32).toUInt32 &&& Int32.toUInt32 31)).toInt32 &&& 3)
theorem CI_0 {μ : zM} {S : Q4 → Prop} (h : μ.1 14 4 = 0 ∧ bqC μ = (0, 0, 0, 0)) (hS : ∀ x, ¬ S x) : CI S 0 μ := ⟨0, Nat.le_refl _, h.1, Or.inl ⟨rfl, h.2, hS⟩⟩
theorem fb_X1_judge (d : Nat) (hd : 8 ≤ d) (μ : zM) (w aw : Nat → Nat) (q : Nat) (hq : q ≤ 4) (sL lL : Nat → Nat) (hLb : ∀ j, j < q → sL j ≤ 3 ∧ lL j < 34) (hw4 : ∀ k, k < 34 → w k ≤ 4) (w10 : RW μ 10 w) (w11 : RW μ 11 aw) (w110 : q = 0 → ∀ k, k < 34 → aw k = w k) (d4 : μ.1 9 4 = nI q) (d5 : μ.1 9 5 = nI (sn w 34)) (hL : ∀ j, j < q → μ.1 12 j = nI (sL j) ∧ μ.1 13 j = nI (lL j)) (hH0 : a_H μ) (k wi de : Int32) (dr : Bool) (told : Int64) : z_C d mi_X1_judge [.ref 14, .ref 9, .int k, .int (nB dr), .long told, .int wi, .int de] μ (fun r μ' => r = none ∧ a_H μ' ∧ a_Fz mdJJ μ μ' ∧ ((¬ (sn w 34 + 3 * q = 14 ∧ vp_in k 34 ∧ 0 < w k.toNatClampNeg) ∧ bqC μ' = (0, 0, 0, 0)) ∨ ((sn w 34 + 3 * q = 14 ∧ vp_in k 34 ∧ 0 < w k.toNatClampNeg) ∧ ∃ κ, KC κ w aw q sL lL k dr told (27 + (wi &&& 3)) (rw9 wi) de ∧ CI (SCl κ w q sL lL 34) 5000 μ'))) := by
  refine z_C_in (by decide) (by omega) (fun d' Z ed hc hr => ?_)
  have hH := zh_X1_judge
  have hsn : sn w 34 < 1000 := by have := sn_ub (w := w) (c := 4) 34 hw4; omega
  refine z_rcs hc hH 15 (pc' := 25) (lv' := [(0, .ref 14), (1, .ref 9), (2, .int k), (3, .int (nB dr)), (4, .long told), (6, .int wi), (7, .int de)]) (st' := []) (μ' := z_ui (z_uj (z_ui (z_ui (z_ui μ 14 0 0) 14 1 0) 14 2 0) 14 3 0) 14 4 0) (by rfl) ?_
  have F1 : a_Fz mdJJ μ (z_ui (z_uj (z_ui (z_ui (z_ui μ 14 0 0) 14 1 0) 14 2 0) 14 3 0) 14 4 0) := a_Fz_ui (a_Fz_uj (a_Fz_ui (a_Fz_ui (a_Fz_ui (a_Fz_rf _ _) (by decide)) (by decide)) (by decide)) (by decide)) (by decide)
  have H1 : a_H (z_ui (z_uj (z_ui (z_ui (z_ui μ 14 0 0) 14 1 0) 14 2 0) 14 3 0) 14 4 0) := a_H_ui (a_H_uj (a_H_ui (a_H_ui (a_H_ui hH0 (bI_top _)) (bI_top _)) (bI_top _))) (bI_top _)
  have q1 : bqC (z_ui (z_uj (z_ui (z_ui (z_ui μ 14 0 0) 14 1 0) 14 2 0) 14 3 0) 14 4 0) = (0, 0, 0, 0) := rfl
  have n1 : (z_ui (z_uj (z_ui (z_ui (z_ui μ 14 0 0) 14 1 0) 14 2 0) 14 3 0) 14 4 0).1 14 4 = 0 ∧ bqC (z_ui (z_uj (z_ui (z_ui (z_ui μ 14 0 0) 14 1 0) 14 2 0) 14 3 0) 14 4 0) = (0, 0, 0, 0) := ⟨rfl, rfl⟩
  generalize z_ui (z_uj (z_ui (z_ui (z_ui μ 14 0 0) 14 1 0) 14 2 0) 14 3 0) 14 4 0 = μ1 at F1 H1 q1 n1 ⊢
  have d41 : μ1.1 9 4 = nI q := (a_Fz_at F1 9 4 (a_md_row (by decide))).trans d4
  have d51 : μ1.1 9 5 = nI (sn w 34) := (a_Fz_at F1 9 5 (a_md_row (by decide))).trans d5
  have w101 : RW μ1 10 w := fun j hj => by rw [a_Fz_at F1 10 j (a_md_row (by decide))]; exact w10 j hj
  refine z_rcs hc hH 1 (pc' := 26) (lv' := [(0, .ref 14), (1, .ref 9), (2, .int k), (3, .int (nB dr)), (4, .long told), (6, .int wi), (7, .int de)]) (st' := [.ref 9]) (μ' := μ1) (by rfl) ?_
  refine z_rcs hc hH 2 (pc' := 30) (lv' := [(0, .ref 14), (1, .ref 9), (2, .int k), (3, .int (nB dr)), (4, .long told), (6, .int wi), (7, .int de)]) (st' := [.ref 9]) (μ' := μ1) (by rfl) ?_
  refine zq_call hc (by rfl) (fc_X3_size d' (by omega) μ1) (by decide +kernel) (fun r9 μ9 hq => ?_)
  obtain ⟨hμ9, rfl⟩ := hq
  rw [hμ9]
  clear hμ9 μ9
  show Z 0 33 [(0, .ref 14), (1, .ref 9), (2, .int k), (3, .int (nB dr)), (4, .long told), (6, .int wi), (7, .int de)] [.int (μ1.1 9 5 + 3 * μ1.1 9 4)] μ1
  rw [d51, d41, size_nI]
  show Z 0 33 [(0, .ref 14), (1, .ref 9), (2, .int k), (3, .int (nB dr)), (4, .long told), (6, .int wi), (7, .int de)] [.int (nI (sn w 34 + 3 * q))] μ1
  refine z_rcs hc hH 1 (pc' := 35) (lv' := [(0, .ref 14), (1, .ref 9), (2, .int k), (3, .int (nB dr)), (4, .long told), (6, .int wi), (7, .int de)]) (st' := [.int 14, .int (nI (sn w 34 + 3 * q))]) (μ' := μ1) (by rfl) ?_
  by_cases h14 : sn w 34 + 3 * q = 14
  · skip
    refine zq_ic hc hH (by rfl) (tg := 46) (by rfl) (fun h9 => (zb_t h9 (cn_ne.mpr (by rw [h14]; rfl))).elim) (fun _ => ?_)
    refine z_rcs hc hH 2 (pc' := 40) (lv' := [(0, .ref 14), (1, .ref 9), (2, .int k), (3, .int (nB dr)), (4, .long told), (6, .int wi), (7, .int de)]) (st' := [.int k, .ref 9]) (μ' := μ1) (by rfl) ?_
    refine zq_call hc (by rfl) (fc_X3_free d' (by omega) μ1 k) (by decide +kernel) (fun r9 μ9 hq9 => ?_)
    obtain ⟨hμ9, hq9⟩ := hq9
    rw [hμ9]
    clear hμ9 μ9
    obtain ⟨hk, rfl⟩ | ⟨hk, rfl⟩ := hq9
    · have hkn : k.toNatClampNeg < 34 := by have := vp_in_iff.mp hk; rw [Int32.toNatClampNeg]; omega
      rw [(w101 _ hkn).1]
      show Z 0 43 [(0, .ref 14), (1, .ref 9), (2, .int k), (3, .int (nB dr)), (4, .long told), (6, .int wi), (7, .int de)] [.int (nI (w k.toNatClampNeg))] μ1
      by_cases h0 : w k.toNatClampNeg = 0
      · skip
        have b5 := (w101 _ hkn).2
        refine zq_if hc hH (by rfl) (tg := 47) (by rfl) (fun h9 => (zb_t h9 (cn_ne.mpr (by rw [h0]; rfl))).elim) (fun _ => ?_)
        exact hr 0 46 _ _ _ none (by decide +kernel) (by rfl) (⟨rfl, H1, F1, Or.inl ⟨fun z => absurd z.2.2 (by omega), q1⟩⟩)
      · skip
        have b5 := (w101 _ hkn).2
        refine zq_if hc hH (by rfl) (tg := 47) (by rfl) (fun _ => ?_) (fun h9 => (zb_t (cm_ne.mpr (fun z => h0 ((nI_eq (by omega) (by decide)).mp z))) h9).elim)
        refine z_rcs hc hH 2 (pc' := 49) (lv' := [(0, .ref 14), (1, .ref 9), (2, .int k), (3, .int (nB dr)), (4, .long told), (6, .int wi), (7, .int de)]) (st' := [.ref 9, .ref 14]) (μ' := μ1) (by rfl) ?_
        refine z_rcs hc hH 6 (pc' := 59) (lv' := [(0, .ref 14), (1, .ref 9), (2, .int k), (3, .int (nB dr)), (4, .long told), (6, .int wi), (7, .int de)]) (st' := [.int (nB dr), .ref 14]) (μ' := z_ui (z_ur μ1 14 9) 14 6 k) (by rfl) ?_
        refine zq_zput hc hH (by rfl) (ci := 0) (f := 7) (by decide +kernel) (b01 _) ?_
        have F2 : a_Fz mdJJ μ (z_ui (z_ui (z_ur μ1 14 9) 14 6 k) 14 7 (nB dr)) := a_Fz_ui (a_Fz_ui (a_Fz_ur F1 (by decide)) (by decide)) (by decide)
        have H2 : a_H (z_ui (z_ui (z_ur μ1 14 9) 14 6 k) 14 7 (nB dr)) := a_H_ui (a_H_ui (show a_H (z_ur μ1 14 9) from H1) (bI_top _)) (by cases dr <;> exact ⟨by decide, by decide⟩)
        have t2 : (z_ui (z_ui (z_ur μ1 14 9) 14 6 k) 14 7 (nB dr)).2.2 14 = 9 := rfl
        have a2 : (z_ui (z_ui (z_ur μ1 14 9) 14 6 k) 14 7 (nB dr)).1 14 6 = k := rfl
        have b2 : (z_ui (z_ui (z_ur μ1 14 9) 14 6 k) 14 7 (nB dr)).1 14 7 = nB dr := rfl
        have n2 : (z_ui (z_ui (z_ur μ1 14 9) 14 6 k) 14 7 (nB dr)).1 14 4 = 0 ∧ bqC (z_ui (z_ui (z_ur μ1 14 9) 14 6 k) 14 7 (nB dr)) = (0, 0, 0, 0) := n1
        generalize z_ui (z_ui (z_ur μ1 14 9) 14 6 k) 14 7 (nB dr) = μ2 at F2 H2 t2 a2 b2 n2 ⊢
        have d42 : μ2.1 9 4 = nI q := (a_Fz_at F2 9 4 (a_md_row (by decide))).trans d4
        refine z_rcs hc hH 2 (pc' := 64) (lv' := [(0, .ref 14), (1, .ref 9), (2, .int k), (3, .int (nB dr)), (4, .long told), (6, .int wi), (7, .int de)]) (st' := [.ref 9, .ref 14]) (μ' := μ2) (by rfl) ?_
        refine zq_call hc (by rfl) (fx_X3_isOpen d' (by omega) μ2 q hq d42) (by decide +kernel) (fun r9 μ9 hq => ?_)
        obtain ⟨hμ9, rfl⟩ := hq
        rw [hμ9]
        clear hμ9 μ9
        show Z 0 67 [(0, .ref 14), (1, .ref 9), (2, .int k), (3, .int (nB dr)), (4, .long told), (6, .int wi), (7, .int de)] [.int (nB (xOr (μ2.1 12) q)), .ref 14] μ2
        generalize eo : xOr (μ2.1 12) q = op
        show Z 0 67 [(0, .ref 14), (1, .ref 9), (2, .int k), (3, .int (nB dr)), (4, .long told), (6, .int wi), (7, .int de)] [.int (nB op), .ref 14] μ2
        refine zq_zput hc hH (by rfl) (ci := 0) (f := 8) (by decide +kernel) (b01 _) ?_
        refine z_rcs hc hH 11 (pc' := 87) (lv' := [(0, .ref 14), (1, .ref 9), (2, .int k), (3, .int (nB dr)), (4, .long told), (6, .int wi), (7, .int de)]) (st' := [.int 2, .int wi, .int 27, .ref 14]) (μ' := z_ui (z_ui μ2 14 8 (nB op)) 14 9 (27 + (wi &&& 3))) (by rfl) ?_
        refine z_rcs hc hH 8 (pc' := 100) (lv' := [(0, .ref 14), (1, .ref 9), (2, .int k), (3, .int (nB dr)), (4, .long told), (6, .int wi), (7, .int de)]) (st' := []) (μ' := z_ui (z_ui (z_ui (z_ui μ2 14 8 (nB op)) 14 9 (27 + (wi &&& 3))) 14 10 (27 + (((wi.toUInt32 >>> ((2 : Int32).toUInt32 &&& Int32.toUInt32 31)).toInt32) &&& 3))) 14 11 de) (by rfl) ?_
        have F3 : a_Fz mdJJ μ (z_ui (z_ui (z_ui (z_ui μ2 14 8 (nB op)) 14 9 (27 + (wi &&& 3))) 14 10 (27 + (((wi.toUInt32 >>> ((2 : Int32).toUInt32 &&& Int32.toUInt32 31)).toInt32) &&& 3))) 14 11 de) := a_Fz_ui (a_Fz_ui (a_Fz_ui (a_Fz_ui F2 (by decide)) (by decide)) (by decide)) (by decide)
        have H3 : a_H (z_ui (z_ui (z_ui (z_ui μ2 14 8 (nB op)) 14 9 (27 + (wi &&& 3))) 14 10 (27 + (((wi.toUInt32 >>> ((2 : Int32).toUInt32 &&& Int32.toUInt32 31)).toInt32) &&& 3))) 14 11 de) := a_H_ui (a_H_ui (a_H_ui (a_H_ui H2 (by cases op <;> exact ⟨by decide, by decide⟩)) (bI_top _)) (bI_top _)) (bI_top _)
        have fa : (z_ui (z_ui (z_ui (z_ui μ2 14 8 (nB op)) 14 9 (27 + (wi &&& 3))) 14 10 (27 + (((wi.toUInt32 >>> ((2 : Int32).toUInt32 &&& Int32.toUInt32 31)).toInt32) &&& 3))) 14 11 de).2.2 14 = 9 ∧ (z_ui (z_ui (z_ui (z_ui μ2 14 8 (nB op)) 14 9 (27 + (wi &&& 3))) 14 10 (27 + (((wi.toUInt32 >>> ((2 : Int32).toUInt32 &&& Int32.toUInt32 31)).toInt32) &&& 3))) 14 11 de).1 14 6 = k ∧ (z_ui (z_ui (z_ui (z_ui μ2 14 8 (nB op)) 14 9 (27 + (wi &&& 3))) 14 10 (27 + (((wi.toUInt32 >>> ((2 : Int32).toUInt32 &&& Int32.toUInt32 31)).toInt32) &&& 3))) 14 11 de).1 14 7 = nB dr ∧ (z_ui (z_ui (z_ui (z_ui μ2 14 8 (nB op)) 14 9 (27 + (wi &&& 3))) 14 10 (27 + (((wi.toUInt32 >>> ((2 : Int32).toUInt32 &&& Int32.toUInt32 31)).toInt32) &&& 3))) 14 11 de).1 14 8 = nB op ∧ (z_ui (z_ui (z_ui (z_ui μ2 14 8 (nB op)) 14 9 (27 + (wi &&& 3))) 14 10 (27 + (((wi.toUInt32 >>> ((2 : Int32).toUInt32 &&& Int32.toUInt32 31)).toInt32) &&& 3))) 14 11 de).1 14 9 = 27 + (wi &&& 3) ∧ (z_ui (z_ui (z_ui (z_ui μ2 14 8 (nB op)) 14 9 (27 + (wi &&& 3))) 14 10 (27 + (((wi.toUInt32 >>> ((2 : Int32).toUInt32 &&& Int32.toUInt32 31)).toInt32) &&& 3))) 14 11 de).1 14 10 = rw9 wi ∧ (z_ui (z_ui (z_ui (z_ui μ2 14 8 (nB op)) 14 9 (27 + (wi &&& 3))) 14 10 (27 + (((wi.toUInt32 >>> ((2 : Int32).toUInt32 &&& Int32.toUInt32 31)).toInt32) &&& 3))) 14 11 de).1 14 11 = de ∧ ((z_ui (z_ui (z_ui (z_ui μ2 14 8 (nB op)) 14 9 (27 + (wi &&& 3))) 14 10 (27 + (((wi.toUInt32 >>> ((2 : Int32).toUInt32 &&& Int32.toUInt32 31)).toInt32) &&& 3))) 14 11 de).1 14 4 = 0 ∧ bqC (z_ui (z_ui (z_ui (z_ui μ2 14 8 (nB op)) 14 9 (27 + (wi &&& 3))) 14 10 (27 + (((wi.toUInt32 >>> ((2 : Int32).toUInt32 &&& Int32.toUInt32 31)).toInt32) &&& 3))) 14 11 de) = (0, 0, 0, 0)) := ⟨t2, a2, b2, rfl, rfl, rfl, rfl, n2⟩
        have e12 : (z_ui (z_ui (z_ui (z_ui μ2 14 8 (nB op)) 14 9 (27 + (wi &&& 3))) 14 10 (27 + (((wi.toUInt32 >>> ((2 : Int32).toUInt32 &&& Int32.toUInt32 31)).toInt32) &&& 3))) 14 11 de).1 12 = μ2.1 12 := funext fun j => by rw [z_ui_rd, if_neg (by omega), z_ui_rd, if_neg (by omega), z_ui_rd, if_neg (by omega), z_ui_rd, if_neg (by omega)]
        generalize z_ui (z_ui (z_ui (z_ui μ2 14 8 (nB op)) 14 9 (27 + (wi &&& 3))) 14 10 (27 + (((wi.toUInt32 >>> ((2 : Int32).toUInt32 &&& Int32.toUInt32 31)).toInt32) &&& 3))) 14 11 de = μ3 at F3 H3 fa e12 ⊢
        have w113 : RW μ3 11 aw := fun j hj => by rw [a_Fz_at F3 11 j (a_md_row (by decide))]; exact w11 j hj
        have op3 : nB op = nB (xOr (μ3.1 12) q) := by rw [e12, eo]
        refine z_rcs hc hH 3 (pc' := 104) (lv' := [(0, .ref 14), (1, .ref 9), (2, .int k), (3, .int (nB dr)), (4, .long told), (6, .int wi), (7, .int de)]) (st' := [.long told, .ref 14, .ref 14]) (μ' := μ3) (by rfl) ?_
        refine zq_call hc (by rfl) (fb_X1_toldOnes d' (by omega) μ3 told) (by decide +kernel) (fun r9 μ9 hq => ?_)
        obtain ⟨hμ9, rfl⟩ := hq
        rw [hμ9]
        clear hμ9 μ9
        show Z 0 107 [(0, .ref 14), (1, .ref 9), (2, .int k), (3, .int (nB dr)), (4, .long told), (6, .int wi), (7, .int de)] [.long (xTO μ3 told), .ref 14] μ3
        refine z_rcs hc hH 2 (pc' := 109) (lv' := [(0, .ref 14), (1, .ref 9), (2, .int k), (3, .int (nB dr)), (4, .long told), (6, .int wi), (7, .int de)]) (st' := [.ref 9, .ref 14, .long (xTO μ3 told), .ref 14]) (μ' := μ3) (by rfl) ?_
        refine zq_call hc (by rfl) (fc_X3_kinds d' (by omega) μ3 aw w113) (by decide +kernel) (fun r9 μ9 hq => ?_)
        obtain ⟨hμ9, rfl⟩ := hq
        rw [hμ9]
        clear hμ9 μ9
        show Z 0 112 [(0, .ref 14), (1, .ref 9), (2, .int k), (3, .int (nB dr)), (4, .long told), (6, .int wi), (7, .int de)] [.long (kb (fun k => decide (0 < aw k)) 34), .ref 14, .long (xTO μ3 told), .ref 14] μ3
        refine zq_call hc (by rfl) (fb_X1_tileForms d' (by omega) μ3 (kb (fun k => decide (0 < aw k)) 34) (xNG μ3 (kb (fun k => decide (0 < aw k)) 34)) (fun d9 h9 => fb_X1_isNineGates d9 h9 μ3 (kb (fun k => decide (0 < aw k)) 34) fa.1)) (by decide +kernel) (fun r9 μ9 hq => ?_)
        obtain ⟨hμ9, rfl⟩ := hq
        rw [hμ9]
        clear hμ9 μ9
        show Z 0 115 [(0, .ref 14), (1, .ref 9), (2, .int k), (3, .int (nB dr)), (4, .long told), (6, .int wi), (7, .int de)] [.long (xTF (kb (fun k => decide (0 < aw k)) 34) (xNG μ3 (kb (fun k => decide (0 < aw k)) 34))), .long (xTO μ3 told), .ref 14] μ3
        refine z_rcs hc hH 2 (pc' := 119) (lv' := [(0, .ref 14), (1, .ref 9), (2, .int k), (3, .int (nB dr)), (4, .long told), (6, .int wi), (7, .int de)]) (st' := []) (μ' := z_uj μ3 14 12 ((xTO μ3 told) ||| (xTF (kb (fun k => decide (0 < aw k)) 34) (xNG μ3 (kb (fun k => decide (0 < aw k)) 34))))) (by rfl) ?_
        have F4 : a_Fz mdJJ μ (z_uj μ3 14 12 ((xTO μ3 told) ||| (xTF (kb (fun k => decide (0 < aw k)) 34) (xNG μ3 (kb (fun k => decide (0 < aw k)) 34))))) := a_Fz_uj F3 (by decide)
        have H4 : a_H (z_uj μ3 14 12 ((xTO μ3 told) ||| (xTF (kb (fun k => decide (0 < aw k)) 34) (xNG μ3 (kb (fun k => decide (0 < aw k)) 34))))) := a_H_uj H3
        have K4 : KC (z_uj μ3 14 12 ((xTO μ3 told) ||| (xTF (kb (fun k => decide (0 < aw k)) 34) (xNG μ3 (kb (fun k => decide (0 < aw k)) 34))))) w aw q sL lL k dr told (27 + (wi &&& 3)) (rw9 wi) de := ⟨(a_Fz_at F4 9 4 (a_md_row (by decide))).trans d4, (a_Fz_at F4 9 5 (a_md_row (by decide))).trans d5, fun j hj => by rw [a_Fz_at F4 10 j (a_md_row (by decide))]; exact w10 j hj, fun j hj => by rw [a_Fz_at F4 12 j (a_md_row (by decide)), a_Fz_at F4 13 j (a_md_row (by decide))]; exact hL j hj, fa.2.1, fa.2.2.1, fa.2.2.2.1.trans op3, fa.2.2.2.2.1, fa.2.2.2.2.2.1, fa.2.2.2.2.2.2.1, (by rw [z_uj_rd, if_pos ⟨rfl, rfl⟩]; rfl), fa.1⟩
        have n4 : (z_uj μ3 14 12 ((xTO μ3 told) ||| (xTF (kb (fun k => decide (0 < aw k)) 34) (xNG μ3 (kb (fun k => decide (0 < aw k)) 34))))).1 14 4 = 0 ∧ bqC (z_uj μ3 14 12 ((xTO μ3 told) ||| (xTF (kb (fun k => decide (0 < aw k)) 34) (xNG μ3 (kb (fun k => decide (0 < aw k)) 34))))) = (0, 0, 0, 0) := fa.2.2.2.2.2.2.2
        generalize z_uj μ3 14 12 ((xTO μ3 told) ||| (xTF (kb (fun k => decide (0 < aw k)) 34) (xNG μ3 (kb (fun k => decide (0 < aw k)) 34)))) = κ at F4 H4 K4 n4 ⊢
        have V : (sn w 34 + 3 * q = 14 ∧ vp_in k 34 ∧ 0 < w k.toNatClampNeg) := ⟨h14, hk, by omega⟩
        have K := jg164 d' Z (by omega) μ w aw q hq sL lL hLb hw4 h14 k wi de (27 + (wi &&& 3)) (rw9 wi) de dr told κ K4 hc (fun b pc lv st ν r h1 h2 h3 => hr b pc lv st ν r h1 h2 ⟨h3.1, h3.2.2.1, a_Fz_tr (by decide) F4 h3.2.1, Or.inr ⟨V, κ, K4, h3.2.2.2⟩⟩) 34 0 (by omega)
        have t161 : ∀ μ5, a_Fz mdO κ μ5 → a_H μ5 → CI (fun x => S7c κ w x ∨ S13c κ w x) 2 μ5 → Z 0 161 [(0, .ref 14), (1, .ref 9), (2, .int k), (3, .int (nB dr)), (4, .long told), (6, .int wi), (7, .int de)] [] μ5 := by
          intro μ5 F5 H5 C5
          refine z_rcs hc hH 2 (pc' := 164) (lv' := [(8, .int 0), (0, .ref 14), (1, .ref 9), (2, .int k), (3, .int (nB dr)), (4, .long told), (6, .int wi), (7, .int de)]) (st' := []) (μ' := μ5) (by rfl) ?_
          exact (K μ5 ⟨a_Fz_tr (by decide) (a_Fz_rf mdJ κ) F5, H5, (C5.up (by omega)).iff (fun x => ⟨Or.inl, fun y => y.resolve_right (fun ⟨p9, u1, _⟩ => by omega)⟩)⟩).1
        have t140 : ∀ μ5, a_Fz mdO κ μ5 → a_H μ5 → CI (fun x => S7c κ w x) 1 μ5 → Z 0 140 [(0, .ref 14), (1, .ref 9), (2, .int k), (3, .int (nB dr)), (4, .long told), (6, .int wi), (7, .int de)] [] μ5 := by
          intro μ5 F5 H5 C5
          have d45 : μ5.1 9 4 = κ.1 9 4 := a_Fz_at F5 9 4 (a_md_row (by decide))
          have d55 : μ5.1 9 5 = κ.1 9 5 := a_Fz_at F5 9 5 (a_md_row (by decide))
          have w115 : μ5.1 9 4 = 0 → RW μ5 11 w := fun z j hj => by
            have q0 : q = 0 := by rw [d45, K4.d4] at z; exact (nI_eq (by omega) (by decide)).mp z
            rw [a_Fz_at F5 11 j (a_md_row (by decide)), a_Fz_at F4 11 j (a_md_row (by decide)), ← w110 q0 j hj]; exact w11 j hj
          refine z_rcs hc hH 1 (pc' := 141) (lv' := [(0, .ref 14), (1, .ref 9), (2, .int k), (3, .int (nB dr)), (4, .long told), (6, .int wi), (7, .int de)]) (st' := [.ref 9]) (μ' := μ5) (by rfl) ?_
          refine zq_call hc (by rfl) (fc_X3_isThirteen d' (by omega) μ5 w w115) (by decide +kernel) (fun r9 μ9 hq => ?_)
          obtain ⟨hμ9, hq⟩ := hq
          rw [hμ9]
          clear hμ9 μ9
          obtain ⟨rfl, h13⟩ | ⟨rfl, h13⟩ := hq
          · show Z 0 144 [(0, .ref 14), (1, .ref 9), (2, .int k), (3, .int (nB dr)), (4, .long told), (6, .int wi), (7, .int de)] [.int 1] μ5
            refine z_rcs hc hH 7 (pc' := 158) (lv' := [(0, .ref 14), (1, .ref 9), (2, .int k), (3, .int (nB dr)), (4, .long told), (6, .int wi), (7, .int de)]) (st' := [.int 30, .long ((μ5.2.1 14 12) ||| 4294967296), .ref 14]) (μ' := μ5) (by rfl) ?_
            have e12 : μ5.2.1 14 12 = κ.2.1 14 12 := (F5.1 14 12 (by decide)).2
            have e8 : μ5.1 14 8 = κ.1 14 8 := a_Fz_at F5 14 8 (by decide)
            have e11 : μ5.1 14 11 = κ.1 14 11 := a_Fz_at F5 14 11 (by decide)
            refine zq_call hc (by rfl) (fb_X1_offer d' (by omega) μ5 (μ5.2.1 14 12 ||| 4294967296) 30 H5) (by decide +kernel) (fun r6 μ6 hq6 => ?_)
            obtain ⟨rfl, ho⟩ := hq6
            rw [e8, e11, e12] at ho
            show Z 0 161 [(0, .ref 14), (1, .ref 9), (2, .int k), (3, .int (nB dr)), (4, .long told), (6, .int wi), (7, .int de)] [] μ6
            exact t161 μ6 (a_Fz_tr (by decide) F5 ho.1) ho.2.1 ((C5.add (by omega) ho).iff (fun x => ⟨fun y => y.imp id (fun e => ⟨by rw [← d45, ← d55]; exact h13, e⟩), fun y => y.imp id (fun e => e.2)⟩))
          · show Z 0 144 [(0, .ref 14), (1, .ref 9), (2, .int k), (3, .int (nB dr)), (4, .long told), (6, .int wi), (7, .int de)] [.int 0] μ5
            refine z_rcs hc hH 1 (pc' := 161) (lv' := [(0, .ref 14), (1, .ref 9), (2, .int k), (3, .int (nB dr)), (4, .long told), (6, .int wi), (7, .int de)]) (st' := []) (μ' := μ5) (by rfl) ?_
            exact t161 μ5 F5 H5 ((C5.up (by omega)).iff (fun x => ⟨Or.inl, fun y => y.resolve_right (fun e => h13 (by rw [d45, d55]; exact e.1))⟩))
        refine z_rcs hc hH 1 (pc' := 120) (lv' := [(0, .ref 14), (1, .ref 9), (2, .int k), (3, .int (nB dr)), (4, .long told), (6, .int wi), (7, .int de)]) (st' := [.ref 9]) (μ' := κ) (by rfl) ?_
        refine zq_call hc (by rfl) (fc_X3_isSevenPairs d' (by omega) κ w K4.r10) (by decide +kernel) (fun r9 μ9 hq => ?_)
        obtain ⟨hμ9, hq⟩ := hq
        rw [hμ9]
        clear hμ9 μ9
        obtain ⟨rfl, h7⟩ | ⟨rfl, h7⟩ := hq
        · show Z 0 123 [(0, .ref 14), (1, .ref 9), (2, .int k), (3, .int (nB dr)), (4, .long told), (6, .int wi), (7, .int de)] [.int 1] (κ)
          refine z_rcs hc hH 7 (pc' := 137) (lv' := [(0, .ref 14), (1, .ref 9), (2, .int k), (3, .int (nB dr)), (4, .long told), (6, .int wi), (7, .int de)]) (st' := [.int 25, .long ((κ.2.1 14 12) ||| 65536), .ref 14]) (μ' := κ) (by rfl) ?_
          refine zq_call hc (by rfl) (fb_X1_offer d' (by omega) κ (κ.2.1 14 12 ||| 65536) 25 H4) (by decide +kernel) (fun r6 μ6 hq6 => ?_)
          obtain ⟨rfl, ho⟩ := hq6
          show Z 0 140 [(0, .ref 14), (1, .ref 9), (2, .int k), (3, .int (nB dr)), (4, .long told), (6, .int wi), (7, .int de)] [] μ6
          exact t140 μ6 ho.1 ho.2.1 (((CI_0 (S := fun _ => False) n4 (fun _ h => h)).add (by omega) ho).iff (fun x => ⟨fun y => y.elim False.elim (fun e => ⟨h7, e⟩), fun y => Or.inr y.2⟩))
        · show Z 0 123 [(0, .ref 14), (1, .ref 9), (2, .int k), (3, .int (nB dr)), (4, .long told), (6, .int wi), (7, .int de)] [.int 0] (κ)
          refine z_rcs hc hH 1 (pc' := 140) (lv' := [(0, .ref 14), (1, .ref 9), (2, .int k), (3, .int (nB dr)), (4, .long told), (6, .int wi), (7, .int de)]) (st' := []) (μ' := κ) (by rfl) ?_
          exact t140 κ (a_Fz_rf _ _) H4 ((CI_0 n4 (fun x (e : S7c κ w x) => h7 e.1)).up (by omega))
    · skip
      show Z 0 43 [(0, .ref 14), (1, .ref 9), (2, .int k), (3, .int (nB dr)), (4, .long told), (6, .int wi), (7, .int de)] [.int 0] μ1
      refine z_rcs hc hH 1 (pc' := 46) (lv' := [(0, .ref 14), (1, .ref 9), (2, .int k), (3, .int (nB dr)), (4, .long told), (6, .int wi), (7, .int de)]) (st' := []) (μ' := μ1) (by rfl) ?_
      exact hr 0 46 _ _ _ none (by decide +kernel) (by rfl) (⟨rfl, H1, F1, Or.inl ⟨fun z => hk z.2.1, q1⟩⟩)
  · skip
    refine zq_ic hc hH (by rfl) (tg := 46) (by rfl) (fun _ => ?_) (fun h9 => (zb_t (cm_ne.mpr (fun z => h14 ((nI_eq (by omega) (by decide)).mp z))) h9).elim)
    exact hr 0 46 _ _ _ none (by decide +kernel) (by rfl) (⟨rfl, H1, F1, Or.inl ⟨fun z => h14 z.1, q1⟩⟩)
theorem zh_X6_worth : zH mi_X6_worth zc_X6_worth 79 6 7 := ⟨by rfl, by rfl, by rfl, by rfl⟩
theorem fb_X6_worth (d : Nat) (hd : 9 ≤ d) (μ : zM) (w aw : Nat → Nat) (q : Nat) (hq : q ≤ 4) (sL lL : Nat → Nat) (hLb : ∀ j, j < q → sL j ≤ 3 ∧ lL j < 34) (hw4 : ∀ k, k < 34 → w k ≤ 4) (w10 : RW μ 10 w) (w11 : RW μ 11 aw) (w110 : q = 0 → ∀ k, k < 34 → aw k = w k) (d4 : μ.1 9 4 = nI q) (d5 : μ.1 9 5 = nI (sn w 34)) (hL : ∀ j, j < q → μ.1 12 j = nI (sL j) ∧ μ.1 13 j = nI (lL j)) (hH0 : a_H μ) (k wi de : Int32) (dr : Bool) (told : Int64) : z_C d mi_X6_worth [.ref 0, .int k, .int (nB dr), .long told, .int wi, .int de] μ (fun r μ' => r = some (.int (bqC μ').1) ∧ a_H μ' ∧ a_Fz mdJJ μ μ' ∧ ((¬ (sn w 34 + 3 * q = 14 ∧ vp_in k 34 ∧ 0 < w k.toNatClampNeg) ∧ bqC μ' = (0, 0, 0, 0)) ∨ ((sn w 34 + 3 * q = 14 ∧ vp_in k 34 ∧ 0 < w k.toNatClampNeg) ∧ ∃ κ, KC κ w aw q sL lL k dr told (27 + (wi &&& 3)) (rw9 wi) (de &&& 63) ∧ CI (SCl κ w q sL lL 34) 5000 μ'))) := by
  refine z_C_in (by decide) (by omega) (fun d' Z ed hc hr => ?_)
  have hH := zh_X6_worth
  refine z_rcs hc hH 11 (pc' := 18) (lv' := [(0, .ref 0), (1, .int k), (2, .int (nB dr)), (3, .long told), (5, .int wi), (6, .int de)]) (st' := [.int (de &&& 63), .int wi, .long told, .int (nB dr), .int k, .ref 9, .ref 14]) (μ' := μ) (by rfl) ?_
  refine zq_call hc (by rfl) (fb_X1_judge d' (by omega) μ w aw q hq sL lL hLb hw4 w10 w11 w110 d4 d5 hL hH0 k wi (de &&& 63) dr told) (by decide +kernel) (fun r1 μ1 hq1 => ?_)
  obtain ⟨rfl, hj⟩ := hq1
  show Z 0 21 [(0, .ref 0), (1, .int k), (2, .int (nB dr)), (3, .long told), (5, .int wi), (6, .int de)] [] μ1
  refine z_rcs hc hH 3 (pc' := 28) (lv' := [(0, .ref 0), (1, .int k), (2, .int (nB dr)), (3, .long told), (5, .int wi), (6, .int de)]) (st' := [.int (μ1.1 14 0)]) (μ' := μ1) (by rfl) ?_
  exact hr 0 28 _ _ _ (some (.int (μ1.1 14 0))) (by decide +kernel) (by rfl) (⟨rfl, hj⟩)

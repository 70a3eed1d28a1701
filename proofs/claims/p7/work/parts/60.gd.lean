/-! the model draws, writes a win, pays -/
def GW (μ : zM) : Prop := ∀ i, i < 4 → bI 0 3 (μ.1 72 (7 * i))
theorem c7 {w j : Nat} (hw : w < 4) (hj : j < 7) : ((7 : Int32) * nI w + nI j).toNatClampNeg = 7 * w + j := by
  rw [show (7 : Int32) = nI 7 from rfl, nI_ml, nI_add, nI_clamp (by omega)]
theorem c70 {w : Nat} (hw : w < 4) : ((7 : Int32) * nI w).toNatClampNeg = 7 * w := by
  rw [show (7 : Int32) = nI 7 from rfl, nI_ml, nI_clamp (by omega)]
theorem in7 {w j : Nat} (hw : w < 4) (hj : j < 7) : vp_in ((7 : Int32) * nI w + nI j) 28 := by
  rw [show (7 : Int32) = nI 7 from rfl, nI_ml, nI_add]
  exact vp_in_nI (by omega) (by decide)
theorem in70 {w : Nat} (hw : w < 4) : vp_in ((7 : Int32) * nI w) 28 := by
  rw [show (7 : Int32) = nI 7 from rfl, nI_ml]
  exact vp_in_nI (by omega) (by decide)
theorem GW_ui {μ : zM} {n : Nat} {x : Int32} (h : GW μ) (hx : n % 7 ≠ 0 ∨ bI 0 3 x) : GW (z_ui μ 72 n x) := by
  intro i hi
  rw [z_ui_rd]
  by_cases e : 7 * i = n
  · rw [if_pos ⟨rfl, e⟩]
    rcases hx with hx | hx
    · omega
    · exact hx
  · rw [if_neg (fun z => e z.2)]
    exact h i hi
theorem GW_ne {μ : zM} {r n : Nat} {x : Int32} (h : GW μ) (hr : r ≠ 72) : GW (z_ui μ r n x) := by
  intro i hi
  rw [z_ui_rd, if_neg (fun z => hr z.1.symm)]
  exact h i hi
theorem GW_keep {md : List (Nat × Nat)} {μ μ' : zM} (h : GW μ) (hz : a_Fz md μ μ') (hm : (md.all (fun q => !Nat.beq q.1 72)) = true) : GW μ' := fun i hi => by rw [a_Fz_at hz 72 _ (a_md_row hm)]; exact h i hi
theorem GW_7 {w j : Nat} (hw : w < 4) (hj : j < 7) (h0 : j ≠ 0) : ((7 : Int32) * nI w + nI j).toNatClampNeg % 7 ≠ 0 := by
  rw [c7 hw hj]
  omega
theorem zq_last {xs : Nat × (Nat → Int32)} {j : Nat} {C : Nat → List Value → zM → zQ → Prop} {Z : zK} {code : zT} {np oc nL : Nat} {b pc : Nat} {lv : zL} {μ : zM} (h : z_clo xs j C Z) (hH : zH j code np oc nL) (hi : z_tk code.2.1 pc = some .lastore) {r : Nat} {i : Int32} {x : Int64} {t : List Value} (n : Nat) (h1 : Nat.blt r np = true ∧ Nat.beq (z_sh r).1 2 = true ∧ (z_sh r).2.2 = n) (hin : vp_in i n) (k : Z b (pc + 1) lv t (z_uj μ r i.toNatClampNeg x)) : Z b pc lv (.long x :: .int i :: .ref r :: t) μ := by
  refine zq_st h hH hi ?_ k
  show (match z_hp xs np oc .lastore (.long x :: .int i :: .ref r :: t) μ with | some (st', μ') => some (pc + 1, lv, st', μ') | none => none) = _
  unfold z_hp
  simp only [h1.1, h1.2.1, h1.2.2, z_in_iff.mpr hin, Bool.and_self, cond_true]
theorem a_H_uj {μ : zM} {r k : Nat} {x : Int64} (h : a_H μ) : a_H (z_uj μ r k x) := h
theorem GW_uj {μ : zM} {r k : Nat} {x : Int64} (h : GW μ) : GW (z_uj μ r k x) := h
abbrev md_win : List (Nat × Nat) := [(50, 43), (61, 9999), (72, 9999), (73, 9999)]
theorem zh_X7_writes : zH mi_X7_writes zt_X7_writes 79 7 5 := hh_X7_writes
theorem fc_X7_writes (d : Nat) (hd : 1 ≤ d) (μ : zM) (w a : Nat) (y k : Int32) (hw : w < 4) (ha : a < 4) (hH0 : a_H μ) (hg : GW μ) : z_C d mi_X7_writes [.ref 50, .int (nI w), .int (nI a), .int y, .int k] μ (fun r μ' => r = none ∧ a_H μ' ∧ GW μ' ∧ a_Fz md_win μ μ') := by
  refine z_C_in (by decide) (by omega) (fun d' Z ed hc hr => ?_)
  have hH := zh_X7_writes
  refine z_rcs hc hH 6 (pc' := 9) (lv' := [(0, .ref 50), (1, .int (nI w)), (2, .int (nI a)), (3, .int y), (4, .int k)]) (st' := [.int (nI a), .int (7 * (nI w)), .ref 72]) (μ' := μ) (by rfl) ?_
  refine zq_iast hc hH (by rfl) 28 (by decide +kernel) (in70 hw) ?_
  refine z_rcs hc hH 8 (pc' := 21) (lv' := [(0, .ref 50), (1, .int (nI w)), (2, .int (nI a)), (3, .int y), (4, .int k)]) (st' := [.int y, .int ((7 * (nI w)) + 1), .ref 72]) (μ' := z_ui μ 72 ((7 * (nI w)).toNatClampNeg) (nI a)) (by rfl) ?_
  refine zq_iast hc hH (by rfl) 28 (by decide +kernel) (in7 (j := 1) hw (by decide)) ?_
  refine z_rcs hc hH 9 (pc' := 36) (lv' := [(0, .ref 50), (1, .int (nI w)), (2, .int (nI a)), (3, .int y), (4, .int k)]) (st' := [.int (μ.1 50 13), .int ((7 * (nI w)) + 2), .ref 72]) (μ' := z_ui (z_ui μ 72 ((7 * (nI w)).toNatClampNeg) (nI a)) 72 (((7 * (nI w)) + 1).toNatClampNeg) y) (by rfl) ?_
  refine zq_iast hc hH (by rfl) 28 (by decide +kernel) (in7 (j := 2) hw (by decide)) ?_
  refine z_rcs hc hH 9 (pc' := 51) (lv' := [(0, .ref 50), (1, .int (nI w)), (2, .int (nI a)), (3, .int y), (4, .int k)]) (st' := [.int (μ.1 50 14), .int ((7 * (nI w)) + 3), .ref 72]) (μ' := z_ui (z_ui (z_ui μ 72 ((7 * (nI w)).toNatClampNeg) (nI a)) 72 (((7 * (nI w)) + 1).toNatClampNeg) y) 72 (((7 * (nI w)) + 2).toNatClampNeg) (μ.1 50 13)) (by rfl) ?_
  refine zq_iast hc hH (by rfl) 28 (by decide +kernel) (in7 (j := 3) hw (by decide)) ?_
  refine z_rcs hc hH 9 (pc' := 66) (lv' := [(0, .ref 50), (1, .int (nI w)), (2, .int (nI a)), (3, .int y), (4, .int k)]) (st' := [.int (μ.1 50 15), .int ((7 * (nI w)) + 4), .ref 72]) (μ' := z_ui (z_ui (z_ui (z_ui μ 72 ((7 * (nI w)).toNatClampNeg) (nI a)) 72 (((7 * (nI w)) + 1).toNatClampNeg) y) 72 (((7 * (nI w)) + 2).toNatClampNeg) (μ.1 50 13)) 72 (((7 * (nI w)) + 3).toNatClampNeg) (μ.1 50 14)) (by rfl) ?_
  refine zq_iast hc hH (by rfl) 28 (by decide +kernel) (in7 (j := 4) hw (by decide)) ?_
  refine z_rcs hc hH 8 (pc' := 78) (lv' := [(0, .ref 50), (1, .int (nI w)), (2, .int (nI a)), (3, .int y), (4, .int k)]) (st' := [.int 0, .int ((7 * (nI w)) + 5), .ref 72]) (μ' := z_ui (z_ui (z_ui (z_ui (z_ui μ 72 ((7 * (nI w)).toNatClampNeg) (nI a)) 72 (((7 * (nI w)) + 1).toNatClampNeg) y) 72 (((7 * (nI w)) + 2).toNatClampNeg) (μ.1 50 13)) 72 (((7 * (nI w)) + 3).toNatClampNeg) (μ.1 50 14)) 72 (((7 * (nI w)) + 4).toNatClampNeg) (μ.1 50 15)) (by rfl) ?_
  refine zq_iast hc hH (by rfl) 28 (by decide +kernel) (in7 (j := 5) hw (by decide)) ?_
  refine z_rcs hc hH 8 (pc' := 92) (lv' := [(0, .ref 50), (1, .int (nI w)), (2, .int (nI a)), (3, .int y), (4, .int k)]) (st' := [.int k, .int ((7 * (nI w)) + 6), .ref 72]) (μ' := z_ui (z_ui (z_ui (z_ui (z_ui (z_ui μ 72 ((7 * (nI w)).toNatClampNeg) (nI a)) 72 (((7 * (nI w)) + 1).toNatClampNeg) y) 72 (((7 * (nI w)) + 2).toNatClampNeg) (μ.1 50 13)) 72 (((7 * (nI w)) + 3).toNatClampNeg) (μ.1 50 14)) 72 (((7 * (nI w)) + 4).toNatClampNeg) (μ.1 50 15)) 72 (((7 * (nI w)) + 5).toNatClampNeg) 0) (by rfl) ?_
  refine zq_iast hc hH (by rfl) 28 (by decide +kernel) (in7 (j := 6) hw (by decide)) ?_
  refine z_rcs hc hH 5 (pc' := 102) (lv' := [(0, .ref 50), (1, .int (nI w)), (2, .int (nI a)), (3, .int y), (4, .int k)]) (st' := [.long (μ.2.1 50 17), .int (nI w), .ref 73]) (μ' := z_ui (z_ui (z_ui (z_ui (z_ui (z_ui (z_ui μ 72 ((7 * (nI w)).toNatClampNeg) (nI a)) 72 (((7 * (nI w)) + 1).toNatClampNeg) y) 72 (((7 * (nI w)) + 2).toNatClampNeg) (μ.1 50 13)) 72 (((7 * (nI w)) + 3).toNatClampNeg) (μ.1 50 14)) 72 (((7 * (nI w)) + 4).toNatClampNeg) (μ.1 50 15)) 72 (((7 * (nI w)) + 5).toNatClampNeg) 0) 72 (((7 * (nI w)) + 6).toNatClampNeg) k) (by rfl) ?_
  refine zq_last hc hH (by rfl) 4 (by decide +kernel) (vp_in_nI (by omega) (by decide)) ?_
  exact hr 0 103 _ _ _ none (by decide +kernel) (by rfl) (⟨rfl, (a_H_uj (a_H_ui (a_H_ui (a_H_ui (a_H_ui (a_H_ui (a_H_ui (a_H_ui hH0 (bI_top _)) (bI_top _)) (bI_top _)) (bI_top _)) (bI_top _)) (bI_top _)) (bI_top _))), (GW_uj (GW_ui (GW_ui (GW_ui (GW_ui (GW_ui (GW_ui (GW_ui hg (Or.inr (bd_nI (by omega) ⟨by omega, by omega⟩))) (Or.inl (GW_7 (j := 1) hw (by decide) (by decide)))) (Or.inl (GW_7 (j := 2) hw (by decide) (by decide)))) (Or.inl (GW_7 (j := 3) hw (by decide) (by decide)))) (Or.inl (GW_7 (j := 4) hw (by decide) (by decide)))) (Or.inl (GW_7 (j := 5) hw (by decide) (by decide)))) (Or.inl (GW_7 (j := 6) hw (by decide) (by decide))))), (a_Fz_uj (a_Fz_ui (a_Fz_ui (a_Fz_ui (a_Fz_ui (a_Fz_ui (a_Fz_ui (a_Fz_ui (a_Fz_rf _ _) (a_mda_md (by decide) _)) (a_mda_md (by decide) _)) (a_mda_md (by decide) _)) (a_mda_md (by decide) _)) (a_mda_md (by decide) _)) (a_mda_md (by decide) _)) (a_mda_md (by decide) _)) (a_mda_md (by decide) _))⟩)
theorem zh_X7_pays : zH mi_X7_pays zt_X7_pays 79 7 4 := hh_X7_pays
theorem fc_X7_pays (d : Nat) (hd : 1 ≤ d) (μ : zM) (b w : Nat) (n : Int32) (hb : b < 4) (hw : w < 4) (hH0 : a_H μ) (hg : GW μ) : z_C d mi_X7_pays [.ref 50, .int (nI b), .int (nI w), .int n] μ (fun r μ' => r = none ∧ a_H μ' ∧ GW μ' ∧ a_Fz md_win μ μ') := by
  refine z_C_in (by decide) (by omega) (fun d' Z ed hc hr => ?_)
  have hH := zh_X7_pays
  have hwi : vp_in (μ.1 72 ((7 : Int32) * nI w).toNatClampNeg) 4 := by rw [c70 hw]; exact vp_in_bI (b := (0, 3)) (hg w hw) (by decide)
  refine z_rcs hc hH 4 (pc' := 6) (lv' := [(0, .ref 50), (1, .int (nI b)), (2, .int (nI w)), (3, .int n)]) (st' := [.int (nI b), .ref 61, .int (nI b), .ref 61]) (μ' := μ) (by rfl) ?_
  refine zq_iald hc hH (by rfl) 4 (by decide +kernel) (vp_in_nI (by omega) (by decide)) ?_
  refine z_rcs hc hH 2 (pc' := 9) (lv' := [(0, .ref 50), (1, .int (nI b)), (2, .int (nI w)), (3, .int n)]) (st' := [.int ((μ.1 61 (nI b).toNatClampNeg) - n), .int (nI b), .ref 61]) (μ' := μ) (by rfl) ?_
  refine zq_iast hc hH (by rfl) 4 (by decide +kernel) (vp_in_nI (by omega) (by decide)) ?_
  refine z_rcs hc hH 7 (pc' := 22) (lv' := [(0, .ref 50), (1, .int (nI b)), (2, .int (nI w)), (3, .int n)]) (st' := [.int (7 * (nI w)), .ref 72, .ref 61]) (μ' := z_ui μ 61 ((nI b).toNatClampNeg) ((μ.1 61 (nI b).toNatClampNeg) - n)) (by rfl) ?_
  refine zq_iald hc hH (by rfl) 28 (by decide +kernel) (in70 hw) ?_
  refine z_rcs hc hH 1 (pc' := 24) (lv' := [(0, .ref 50), (1, .int (nI b)), (2, .int (nI w)), (3, .int n)]) (st' := [.int ((z_ui μ 61 ((nI b).toNatClampNeg) ((μ.1 61 (nI b).toNatClampNeg) - n)).1 72 (7 * (nI w)).toNatClampNeg), .ref 61, .int ((z_ui μ 61 ((nI b).toNatClampNeg) ((μ.1 61 (nI b).toNatClampNeg) - n)).1 72 (7 * (nI w)).toNatClampNeg), .ref 61]) (μ' := z_ui μ 61 ((nI b).toNatClampNeg) ((μ.1 61 (nI b).toNatClampNeg) - n)) (by rfl) ?_
  refine zq_iald hc hH (by rfl) 4 (by decide +kernel) (hwi) ?_
  refine z_rcs hc hH 2 (pc' := 27) (lv' := [(0, .ref 50), (1, .int (nI b)), (2, .int (nI w)), (3, .int n)]) (st' := [.int (((z_ui μ 61 ((nI b).toNatClampNeg) ((μ.1 61 (nI b).toNatClampNeg) - n)).1 61 ((z_ui μ 61 ((nI b).toNatClampNeg) ((μ.1 61 (nI b).toNatClampNeg) - n)).1 72 (7 * (nI w)).toNatClampNeg).toNatClampNeg) + n), .int ((z_ui μ 61 ((nI b).toNatClampNeg) ((μ.1 61 (nI b).toNatClampNeg) - n)).1 72 (7 * (nI w)).toNatClampNeg), .ref 61]) (μ' := z_ui μ 61 ((nI b).toNatClampNeg) ((μ.1 61 (nI b).toNatClampNeg) - n)) (by rfl) ?_
  refine zq_iast hc hH (by rfl) 4 (by decide +kernel) (hwi) ?_
  refine z_rcs hc hH 8 (pc' := 39) (lv' := [(0, .ref 50), (1, .int (nI b)), (2, .int (nI w)), (3, .int n)]) (st' := [.int ((7 * (nI w)) + 5), .ref 72, .int ((7 * (nI w)) + 5), .ref 72]) (μ' := z_ui (z_ui μ 61 ((nI b).toNatClampNeg) ((μ.1 61 (nI b).toNatClampNeg) - n)) 61 (((z_ui μ 61 ((nI b).toNatClampNeg) ((μ.1 61 (nI b).toNatClampNeg) - n)).1 72 (7 * (nI w)).toNatClampNeg).toNatClampNeg) (((z_ui μ 61 ((nI b).toNatClampNeg) ((μ.1 61 (nI b).toNatClampNeg) - n)).1 61 ((z_ui μ 61 ((nI b).toNatClampNeg) ((μ.1 61 (nI b).toNatClampNeg) - n)).1 72 (7 * (nI w)).toNatClampNeg).toNatClampNeg) + n)) (by rfl) ?_
  refine zq_iald hc hH (by rfl) 28 (by decide +kernel) (in7 (j := 5) hw (by decide)) ?_
  refine z_rcs hc hH 2 (pc' := 42) (lv' := [(0, .ref 50), (1, .int (nI b)), (2, .int (nI w)), (3, .int n)]) (st' := [.int (((z_ui (z_ui μ 61 ((nI b).toNatClampNeg) ((μ.1 61 (nI b).toNatClampNeg) - n)) 61 (((z_ui μ 61 ((nI b).toNatClampNeg) ((μ.1 61 (nI b).toNatClampNeg) - n)).1 72 (7 * (nI w)).toNatClampNeg).toNatClampNeg) (((z_ui μ 61 ((nI b).toNatClampNeg) ((μ.1 61 (nI b).toNatClampNeg) - n)).1 61 ((z_ui μ 61 ((nI b).toNatClampNeg) ((μ.1 61 (nI b).toNatClampNeg) - n)).1 72 (7 * (nI w)).toNatClampNeg).toNatClampNeg) + n)).1 72 ((7 * (nI w)) + 5).toNatClampNeg) + n), .int ((7 * (nI w)) + 5), .ref 72]) (μ' := z_ui (z_ui μ 61 ((nI b).toNatClampNeg) ((μ.1 61 (nI b).toNatClampNeg) - n)) 61 (((z_ui μ 61 ((nI b).toNatClampNeg) ((μ.1 61 (nI b).toNatClampNeg) - n)).1 72 (7 * (nI w)).toNatClampNeg).toNatClampNeg) (((z_ui μ 61 ((nI b).toNatClampNeg) ((μ.1 61 (nI b).toNatClampNeg) - n)).1 61 ((z_ui μ 61 ((nI b).toNatClampNeg) ((μ.1 61 (nI b).toNatClampNeg) - n)).1 72 (7 * (nI w)).toNatClampNeg).toNatClampNeg) + n)) (by rfl) ?_
  refine zq_iast hc hH (by rfl) 28 (by decide +kernel) (in7 (j := 5) hw (by decide)) ?_
  exact hr 0 43 _ _ _ none (by decide +kernel) (by rfl) (⟨rfl, (a_H_ui (a_H_ui (a_H_ui hH0 (bI_top _)) (bI_top _)) (bI_top _)), (GW_ui (GW_ne (GW_ne hg (by decide)) (by decide)) (Or.inl (GW_7 (j := 5) hw (by decide) (by decide)))), (a_Fz_ui (a_Fz_ui (a_Fz_ui (a_Fz_rf _ _) (a_mda_md (by decide) _)) (a_mda_md (by decide) _)) (a_mda_md (by decide) _))⟩)
theorem zh_X7_takesBets : zH mi_X7_takesBets zt_X7_takesBets 79 7 2 := hh_X7_takesBets
theorem fc_X7_takesBets (d : Nat) (hd : 1 ≤ d) (μ : zM) (hH0 : a_H μ) (hg : GW μ) : z_C d mi_X7_takesBets [.ref 50] μ (fun r μ' => r = none ∧ a_H μ' ∧ GW μ' ∧ a_Fz md_win μ μ') := by
  refine z_C_in (by decide) (by omega) (fun d' Z ed hc hr => ?_)
  have hH := zh_X7_takesBets
  have hwi : vp_in (μ.1 72 ((0 : Int32)).toNatClampNeg) 4 := vp_in_bI (b := (0, 3)) (hg 0 (by decide)) (by decide)
  refine z_rcs hc hH 3 (pc' := 5) (lv' := [(0, .ref 50)]) (st' := [.int 0, .ref 72]) (μ' := μ) (by rfl) ?_
  refine zq_iald hc hH (by rfl) 28 (by decide +kernel) (vp_in_nI (n := 0) (N := 28) (by decide) (by decide)) ?_
  refine z_rcs hc hH 5 (pc' := 13) (lv' := [(1, .int (μ.1 72 (0 : Int32).toNatClampNeg)), (0, .ref 50)]) (st' := [.int (μ.1 72 (0 : Int32).toNatClampNeg), .ref 61, .int (μ.1 72 (0 : Int32).toNatClampNeg), .ref 61]) (μ' := μ) (by rfl) ?_
  refine zq_iald hc hH (by rfl) 4 (by decide +kernel) (hwi) ?_
  refine z_rcs hc hH 5 (pc' := 23) (lv' := [(1, .int (μ.1 72 (0 : Int32).toNatClampNeg)), (0, .ref 50)]) (st' := [.int ((μ.1 61 (μ.1 72 (0 : Int32).toNatClampNeg).toNatClampNeg) + (1000 * (μ.1 50 43))), .int (μ.1 72 (0 : Int32).toNatClampNeg), .ref 61]) (μ' := μ) (by rfl) ?_
  refine zq_iast hc hH (by rfl) 4 (by decide +kernel) (hwi) ?_
  refine z_rcs hc hH 4 (pc' := 30) (lv' := [(1, .int (μ.1 72 (0 : Int32).toNatClampNeg)), (0, .ref 50)]) (st' := [.int 5, .ref 72, .int 5, .ref 72]) (μ' := z_ui μ 61 ((μ.1 72 (0 : Int32).toNatClampNeg).toNatClampNeg) ((μ.1 61 (μ.1 72 (0 : Int32).toNatClampNeg).toNatClampNeg) + (1000 * (μ.1 50 43)))) (by rfl) ?_
  refine zq_iald hc hH (by rfl) 28 (by decide +kernel) (vp_in_nI (n := 5) (N := 28) (by decide) (by decide)) ?_
  refine z_rcs hc hH 5 (pc' := 40) (lv' := [(1, .int (μ.1 72 (0 : Int32).toNatClampNeg)), (0, .ref 50)]) (st' := [.int (((z_ui μ 61 ((μ.1 72 (0 : Int32).toNatClampNeg).toNatClampNeg) ((μ.1 61 (μ.1 72 (0 : Int32).toNatClampNeg).toNatClampNeg) + (1000 * (μ.1 50 43)))).1 72 (5 : Int32).toNatClampNeg) + (1000 * (μ.1 50 43))), .int 5, .ref 72]) (μ' := z_ui μ 61 ((μ.1 72 (0 : Int32).toNatClampNeg).toNatClampNeg) ((μ.1 61 (μ.1 72 (0 : Int32).toNatClampNeg).toNatClampNeg) + (1000 * (μ.1 50 43)))) (by rfl) ?_
  refine zq_iast hc hH (by rfl) 28 (by decide +kernel) (vp_in_nI (n := 5) (N := 28) (by decide) (by decide)) ?_
  refine z_rcs hc hH 3 (pc' := 46) (lv' := [(1, .int (μ.1 72 (0 : Int32).toNatClampNeg)), (0, .ref 50)]) (st' := []) (μ' := z_ui (z_ui (z_ui μ 61 ((μ.1 72 (0 : Int32).toNatClampNeg).toNatClampNeg) ((μ.1 61 (μ.1 72 (0 : Int32).toNatClampNeg).toNatClampNeg) + (1000 * (μ.1 50 43)))) 72 ((5 : Int32).toNatClampNeg) (((z_ui μ 61 ((μ.1 72 (0 : Int32).toNatClampNeg).toNatClampNeg) ((μ.1 61 (μ.1 72 (0 : Int32).toNatClampNeg).toNatClampNeg) + (1000 * (μ.1 50 43)))).1 72 (5 : Int32).toNatClampNeg) + (1000 * (μ.1 50 43)))) 50 43 0) (by rfl) ?_
  exact hr 0 46 _ _ _ none (by decide +kernel) (by rfl) (⟨rfl, (a_H_ui (a_H_ui (a_H_ui hH0 (bI_top _)) (bI_top _)) (bI_top _)), (GW_ne (GW_ui (GW_ne hg (by decide)) (Or.inl (by decide))) (by decide)), (a_Fz_ui (a_Fz_ui (a_Fz_ui (a_Fz_rf _ _) (a_mda_md (by decide) _)) (a_mda_md (by decide) _)) (by decide))⟩)
theorem zh_X7_draws : zH mi_X7_draws zt_X7_draws 79 7 4 := hh_X7_draws
abbrev md_draws : List (Nat × Nat) := [(50, 44), (50, 45), (50, 46), (50, 48), (50, 49), (50, 50), (50, 51), (50, 57), (50, 58), (60, 9999), (68, 9999), (70, 9999)]
theorem fc_X7_draws0 (d : Nat) (hd : 3 ≤ d) (μ : zM) (a t : Nat) (ha : a < 4) (ht : t < 122) (et : μ.1 50 46 = nI t) (hH0 : a_H μ) : z_C d mi_X7_draws [.ref 50, .int (nI a), .int 0] μ (fun r μ' => r = none ∧ a_H μ' ∧ a_Fz md_draws μ μ' ∧ μ'.1 50 44 = 1 ∧ μ'.1 50 45 = nI a ∧ μ'.1 50 57 = 0 ∧ μ'.1 50 46 = nI (t + 1) ∧ μ'.1 50 48 = μ.1 50 48 ∧ ∃ c, c < 34 ∧ μ'.1 50 49 = nI c ∧ ∀ j, μ'.1 60 j = (z_giv μ a c 1).1 60 j) := by
  refine z_C_in (by decide) (by omega) (fun d' Z ed hc hr => ?_)
  have hH := zh_X7_draws
  obtain ⟨c, hc34, ec⟩ : ∃ c, c < 34 ∧ μ.1 59 (t) = nI c := by
    obtain ⟨c, h1, h2⟩ := vp_in_of (vp_in_bI (n := 34) (b := (0, 33)) (hH0 59 (t)) (by decide)) (by decide)
    exact ⟨c, h1, h2⟩
  refine z_rcs hc hH 4 (pc' := 18) (lv' := [(0, .ref 50), (1, .int (nI a)), (2, .int 0)]) (st' := [.int (μ.1 50 46)]) (μ' := μ) (by rfl) ?_
  rw [et]
  refine z_rcs hc hH 8 (pc' := 43) (lv' := [(3, .int (nI t)), (0, .ref 50), (1, .int (nI a)), (2, .int 0)]) (st' := [.int ((μ.1 50 46) + 1), .ref 50]) (μ' := μ) (by rfl) ?_
  rw [show ((μ.1 50 46) + 1 : Int32) = nI (t + 1) from by rw [et, nI_1]]
  refine z_rcs hc hH 5 (pc' := 52) (lv' := [(3, .int (nI t)), (0, .ref 50), (1, .int (nI a)), (2, .int 0)]) (st' := [.int (nI t), .ref 59, .ref 50]) (μ' := z_ui μ 50 46 (nI (t + 1))) (by rfl) ?_
  refine zq_iald hc hH (by rfl) 136 (by decide +kernel) (vp_in_nI (by omega) (by decide)) ?_
  rw [nI_clamp (n := t) (by omega), show (z_ui μ 50 46 (nI (t + 1))).1 59 (t) = nI c from ec]
  refine z_rcs hc hH 6 (pc' := 63) (lv' := [(3, .int (nI t)), (0, .ref 50), (1, .int (nI a)), (2, .int 0)]) (st' := [.int 1, .int (nI c), .int (nI a), .ref 50]) (μ' := z_ui (z_ui μ 50 46 (nI (t + 1))) 50 49 (nI c)) (by rfl) ?_
  have hH1 : a_H (z_giv (z_ui (z_ui μ 50 46 (nI (t + 1))) 50 49 (nI c)) a c 1) := a_H_ui (a_H_ui (a_H_ui hH0 (show bI 0 122 _ from bd_nI (by omega) ⟨by omega, by omega⟩)) (show bI (-1) 33 _ from bd_nI (by omega) ⟨by omega, by omega⟩)) (bI_top _)
  have hF1 : a_Fz md_draws μ (z_giv (z_ui (z_ui μ 50 46 (nI (t + 1))) 50 49 (nI c)) a c 1) := a_Fz_ui (a_Fz_ui (a_Fz_ui (a_Fz_rf _ _) (by decide)) (by decide)) (a_mda_md (by decide) _)
  refine zq_call hc (z_cx_ok hH (by rfl)) (fc_X7_gives d' (by omega) _ a c 1 ha hc34) (by decide +kernel) (fun r9 μ9 hq => ?_)
  obtain ⟨rfl, rfl⟩ := hq
  show Z 0 66 [(3, .int (nI t)), (0, .ref 50), (1, .int (nI a)), (2, .int 0)] [] (z_giv (z_ui (z_ui μ 50 46 (nI (t + 1))) 50 49 (nI c)) a c 1)
  refine z_rcs hc hH 4 (pc' := 72) (lv' := [(3, .int (nI t)), (0, .ref 50), (1, .int (nI a)), (2, .int 0)]) (st' := [.int (nI a), .ref 68, .int (nI a), .ref 68]) (μ' := (z_giv (z_ui (z_ui μ 50 46 (nI (t + 1))) 50 49 (nI c)) a c 1)) (by rfl) ?_
  refine zq_iald hc hH (by rfl) 4 (by decide +kernel) (vp_in_nI (by omega) (by decide)) ?_
  refine z_rcs hc hH 2 (pc' := 75) (lv' := [(3, .int (nI t)), (0, .ref 50), (1, .int (nI a)), (2, .int 0)]) (st' := [.int (((z_giv (z_ui (z_ui μ 50 46 (nI (t + 1))) 50 49 (nI c)) a c 1).1 68 (nI a).toNatClampNeg) + 1), .int (nI a), .ref 68]) (μ' := (z_giv (z_ui (z_ui μ 50 46 (nI (t + 1))) 50 49 (nI c)) a c 1)) (by rfl) ?_
  refine zq_iast hc hH (by rfl) 4 (by decide +kernel) (vp_in_nI (by omega) (by decide)) ?_
  refine z_rcs hc hH 3 (pc' := 81) (lv' := [(3, .int (nI t)), (0, .ref 50), (1, .int (nI a)), (2, .int 0)]) (st' := [.int (nI a), .ref 67]) (μ' := z_ui (z_giv (z_ui (z_ui μ 50 46 (nI (t + 1))) 50 49 (nI c)) a c 1) 68 ((nI a).toNatClampNeg) (((z_giv (z_ui (z_ui μ 50 46 (nI (t + 1))) 50 49 (nI c)) a c 1).1 68 (nI a).toNatClampNeg) + 1)) (by rfl) ?_
  refine zq_iald hc hH (by rfl) 4 (by decide +kernel) (vp_in_nI (by omega) (by decide)) ?_
  refine zq_if hc hH (by rfl) (tg := 92) (by rfl) (fun h1 => ?_) (fun h1 => ?_)
  · have h1 := cm_ne.mp h1
    refine z_rcs hc hH 18 (pc' := 122) (lv' := [(3, .int (nI t)), (0, .ref 50), (1, .int (nI a)), (2, .int 0)]) (st' := []) (μ' := z_ui (z_ui (z_ui (z_ui (z_ui (z_ui (z_ui (z_giv (z_ui (z_ui μ 50 46 (nI (t + 1))) 50 49 (nI c)) a c 1) 68 ((nI a).toNatClampNeg) (((z_giv (z_ui (z_ui μ 50 46 (nI (t + 1))) 50 49 (nI c)) a c 1).1 68 (nI a).toNatClampNeg) + 1)) 50 45 (nI a)) 50 44 1) 50 57 0) 50 58 0) 50 50 (-1)) 50 51 (-1)) (by rfl) ?_
    exact hr 0 122 _ _ _ none (by decide +kernel) (by rfl) (⟨rfl, (a_H_ui (a_H_ui (a_H_ui (a_H_ui (a_H_ui (a_H_ui (a_H_ui hH1 (bI_top _)) (show bI 0 3 _ from bd_nI (by omega) ⟨by omega, by omega⟩)) (⟨by decide, by decide⟩)) (⟨by decide, by decide⟩)) (⟨by decide, by decide⟩)) (bI_top _)) (bI_top _)), (a_Fz_ui (a_Fz_ui (a_Fz_ui (a_Fz_ui (a_Fz_ui (a_Fz_ui (a_Fz_ui hF1 (a_mda_md (by decide) _)) (by decide)) (by decide)) (by decide)) (by decide)) (by decide)) (by decide)), rfl, rfl, rfl, rfl, rfl, c, hc34, rfl, fun j => rfl⟩)
  · have h1 := cn_ne.mp h1
    refine z_rcs hc hH 4 (pc' := 91) (lv' := [(3, .int (nI t)), (0, .ref 50), (1, .int (nI a)), (2, .int 0)]) (st' := [.int 0, .int (nI a), .ref 70]) (μ' := z_ui (z_giv (z_ui (z_ui μ 50 46 (nI (t + 1))) 50 49 (nI c)) a c 1) 68 ((nI a).toNatClampNeg) (((z_giv (z_ui (z_ui μ 50 46 (nI (t + 1))) 50 49 (nI c)) a c 1).1 68 (nI a).toNatClampNeg) + 1)) (by rfl) ?_
    refine zq_bast hc hH (by rfl) 4 (by decide +kernel) (vp_in_nI (by omega) (by decide)) (by decide) ?_
    refine z_rcs hc hH 18 (pc' := 122) (lv' := [(3, .int (nI t)), (0, .ref 50), (1, .int (nI a)), (2, .int 0)]) (st' := []) (μ' := z_ui (z_ui (z_ui (z_ui (z_ui (z_ui (z_ui (z_ui (z_giv (z_ui (z_ui μ 50 46 (nI (t + 1))) 50 49 (nI c)) a c 1) 68 ((nI a).toNatClampNeg) (((z_giv (z_ui (z_ui μ 50 46 (nI (t + 1))) 50 49 (nI c)) a c 1).1 68 (nI a).toNatClampNeg) + 1)) 70 ((nI a).toNatClampNeg) 0) 50 45 (nI a)) 50 44 1) 50 57 0) 50 58 0) 50 50 (-1)) 50 51 (-1)) (by rfl) ?_
    exact hr 0 122 _ _ _ none (by decide +kernel) (by rfl) (⟨rfl, (a_H_ui (a_H_ui (a_H_ui (a_H_ui (a_H_ui (a_H_ui (a_H_ui (a_H_ui hH1 (bI_top _)) (show bI 0 1 0 from ⟨by decide, by decide⟩)) (show bI 0 3 _ from bd_nI (by omega) ⟨by omega, by omega⟩)) (⟨by decide, by decide⟩)) (⟨by decide, by decide⟩)) (⟨by decide, by decide⟩)) (bI_top _)) (bI_top _)), (a_Fz_ui (a_Fz_ui (a_Fz_ui (a_Fz_ui (a_Fz_ui (a_Fz_ui (a_Fz_ui (a_Fz_ui hF1 (a_mda_md (by decide) _)) (a_mda_md (by decide) _)) (by decide)) (by decide)) (by decide)) (by decide)) (by decide)) (by decide)), rfl, rfl, rfl, rfl, rfl, c, hc34, rfl, fun j => rfl⟩)
theorem fc_X7_draws1 (d : Nat) (hd : 3 ≤ d) (μ : zM) (a t : Nat) (ha : a < 4) (ht : t < 4) (et : μ.1 50 48 = nI t) (hH0 : a_H μ) : z_C d mi_X7_draws [.ref 50, .int (nI a), .int 1] μ (fun r μ' => r = none ∧ a_H μ' ∧ a_Fz md_draws μ μ' ∧ μ'.1 50 44 = 1 ∧ μ'.1 50 45 = nI a ∧ μ'.1 50 57 = 0 ∧ μ'.1 50 48 = nI (t + 1) ∧ μ'.1 50 46 = μ.1 50 46 ∧ ∃ c, c < 34 ∧ μ'.1 50 49 = nI c ∧ ∀ j, μ'.1 60 j = (z_giv μ a c 1).1 60 j) := by
  refine z_C_in (by decide) (by omega) (fun d' Z ed hc hr => ?_)
  have hH := zh_X7_draws
  obtain ⟨c, hc34, ec⟩ : ∃ c, c < 34 ∧ μ.1 59 (122 + t) = nI c := by
    obtain ⟨c, h1, h2⟩ := vp_in_of (vp_in_bI (n := 34) (b := (0, 33)) (hH0 59 (122 + t)) (by decide)) (by decide)
    exact ⟨c, h1, h2⟩
  refine z_rcs hc hH 7 (pc' := 18) (lv' := [(0, .ref 50), (1, .int (nI a)), (2, .int 1)]) (st' := [.int (122 + (μ.1 50 48))]) (μ' := μ) (by rfl) ?_
  rw [et, show (122 : Int32) + nI t = nI (122 + t) from nI_add 122 t]
  refine z_rcs hc hH 8 (pc' := 30) (lv' := [(3, .int (nI (122 + t))), (0, .ref 50), (1, .int (nI a)), (2, .int 1)]) (st' := [.int ((μ.1 50 48) + 1), .ref 50]) (μ' := μ) (by rfl) ?_
  rw [show ((μ.1 50 48) + 1 : Int32) = nI (t + 1) from by rw [et, nI_1]]
  refine z_rcs hc hH 6 (pc' := 52) (lv' := [(3, .int (nI (122 + t))), (0, .ref 50), (1, .int (nI a)), (2, .int 1)]) (st' := [.int (nI (122 + t)), .ref 59, .ref 50]) (μ' := z_ui μ 50 48 (nI (t + 1))) (by rfl) ?_
  refine zq_iald hc hH (by rfl) 136 (by decide +kernel) (vp_in_nI (by omega) (by decide)) ?_
  rw [nI_clamp (n := 122 + t) (by omega), show (z_ui μ 50 48 (nI (t + 1))).1 59 (122 + t) = nI c from ec]
  refine z_rcs hc hH 6 (pc' := 63) (lv' := [(3, .int (nI (122 + t))), (0, .ref 50), (1, .int (nI a)), (2, .int 1)]) (st' := [.int 1, .int (nI c), .int (nI a), .ref 50]) (μ' := z_ui (z_ui μ 50 48 (nI (t + 1))) 50 49 (nI c)) (by rfl) ?_
  have hH1 : a_H (z_giv (z_ui (z_ui μ 50 48 (nI (t + 1))) 50 49 (nI c)) a c 1) := a_H_ui (a_H_ui (a_H_ui hH0 (show bI 0 4 _ from bd_nI (by omega) ⟨by omega, by omega⟩)) (show bI (-1) 33 _ from bd_nI (by omega) ⟨by omega, by omega⟩)) (bI_top _)
  have hF1 : a_Fz md_draws μ (z_giv (z_ui (z_ui μ 50 48 (nI (t + 1))) 50 49 (nI c)) a c 1) := a_Fz_ui (a_Fz_ui (a_Fz_ui (a_Fz_rf _ _) (by decide)) (by decide)) (a_mda_md (by decide) _)
  refine zq_call hc (z_cx_ok hH (by rfl)) (fc_X7_gives d' (by omega) _ a c 1 ha hc34) (by decide +kernel) (fun r9 μ9 hq => ?_)
  obtain ⟨rfl, rfl⟩ := hq
  show Z 0 66 [(3, .int (nI (122 + t))), (0, .ref 50), (1, .int (nI a)), (2, .int 1)] [] (z_giv (z_ui (z_ui μ 50 48 (nI (t + 1))) 50 49 (nI c)) a c 1)
  refine z_rcs hc hH 4 (pc' := 72) (lv' := [(3, .int (nI (122 + t))), (0, .ref 50), (1, .int (nI a)), (2, .int 1)]) (st' := [.int (nI a), .ref 68, .int (nI a), .ref 68]) (μ' := (z_giv (z_ui (z_ui μ 50 48 (nI (t + 1))) 50 49 (nI c)) a c 1)) (by rfl) ?_
  refine zq_iald hc hH (by rfl) 4 (by decide +kernel) (vp_in_nI (by omega) (by decide)) ?_
  refine z_rcs hc hH 2 (pc' := 75) (lv' := [(3, .int (nI (122 + t))), (0, .ref 50), (1, .int (nI a)), (2, .int 1)]) (st' := [.int (((z_giv (z_ui (z_ui μ 50 48 (nI (t + 1))) 50 49 (nI c)) a c 1).1 68 (nI a).toNatClampNeg) + 1), .int (nI a), .ref 68]) (μ' := (z_giv (z_ui (z_ui μ 50 48 (nI (t + 1))) 50 49 (nI c)) a c 1)) (by rfl) ?_
  refine zq_iast hc hH (by rfl) 4 (by decide +kernel) (vp_in_nI (by omega) (by decide)) ?_
  refine z_rcs hc hH 3 (pc' := 81) (lv' := [(3, .int (nI (122 + t))), (0, .ref 50), (1, .int (nI a)), (2, .int 1)]) (st' := [.int (nI a), .ref 67]) (μ' := z_ui (z_giv (z_ui (z_ui μ 50 48 (nI (t + 1))) 50 49 (nI c)) a c 1) 68 ((nI a).toNatClampNeg) (((z_giv (z_ui (z_ui μ 50 48 (nI (t + 1))) 50 49 (nI c)) a c 1).1 68 (nI a).toNatClampNeg) + 1)) (by rfl) ?_
  refine zq_iald hc hH (by rfl) 4 (by decide +kernel) (vp_in_nI (by omega) (by decide)) ?_
  refine zq_if hc hH (by rfl) (tg := 92) (by rfl) (fun h1 => ?_) (fun h1 => ?_)
  · have h1 := cm_ne.mp h1
    refine z_rcs hc hH 18 (pc' := 122) (lv' := [(3, .int (nI (122 + t))), (0, .ref 50), (1, .int (nI a)), (2, .int 1)]) (st' := []) (μ' := z_ui (z_ui (z_ui (z_ui (z_ui (z_ui (z_ui (z_giv (z_ui (z_ui μ 50 48 (nI (t + 1))) 50 49 (nI c)) a c 1) 68 ((nI a).toNatClampNeg) (((z_giv (z_ui (z_ui μ 50 48 (nI (t + 1))) 50 49 (nI c)) a c 1).1 68 (nI a).toNatClampNeg) + 1)) 50 45 (nI a)) 50 44 1) 50 57 0) 50 58 1) 50 50 (-1)) 50 51 (-1)) (by rfl) ?_
    exact hr 0 122 _ _ _ none (by decide +kernel) (by rfl) (⟨rfl, (a_H_ui (a_H_ui (a_H_ui (a_H_ui (a_H_ui (a_H_ui (a_H_ui hH1 (bI_top _)) (show bI 0 3 _ from bd_nI (by omega) ⟨by omega, by omega⟩)) (⟨by decide, by decide⟩)) (⟨by decide, by decide⟩)) (⟨by decide, by decide⟩)) (bI_top _)) (bI_top _)), (a_Fz_ui (a_Fz_ui (a_Fz_ui (a_Fz_ui (a_Fz_ui (a_Fz_ui (a_Fz_ui hF1 (a_mda_md (by decide) _)) (by decide)) (by decide)) (by decide)) (by decide)) (by decide)) (by decide)), rfl, rfl, rfl, rfl, rfl, c, hc34, rfl, fun j => rfl⟩)
  · have h1 := cn_ne.mp h1
    refine z_rcs hc hH 4 (pc' := 91) (lv' := [(3, .int (nI (122 + t))), (0, .ref 50), (1, .int (nI a)), (2, .int 1)]) (st' := [.int 0, .int (nI a), .ref 70]) (μ' := z_ui (z_giv (z_ui (z_ui μ 50 48 (nI (t + 1))) 50 49 (nI c)) a c 1) 68 ((nI a).toNatClampNeg) (((z_giv (z_ui (z_ui μ 50 48 (nI (t + 1))) 50 49 (nI c)) a c 1).1 68 (nI a).toNatClampNeg) + 1)) (by rfl) ?_
    refine zq_bast hc hH (by rfl) 4 (by decide +kernel) (vp_in_nI (by omega) (by decide)) (by decide) ?_
    refine z_rcs hc hH 18 (pc' := 122) (lv' := [(3, .int (nI (122 + t))), (0, .ref 50), (1, .int (nI a)), (2, .int 1)]) (st' := []) (μ' := z_ui (z_ui (z_ui (z_ui (z_ui (z_ui (z_ui (z_ui (z_giv (z_ui (z_ui μ 50 48 (nI (t + 1))) 50 49 (nI c)) a c 1) 68 ((nI a).toNatClampNeg) (((z_giv (z_ui (z_ui μ 50 48 (nI (t + 1))) 50 49 (nI c)) a c 1).1 68 (nI a).toNatClampNeg) + 1)) 70 ((nI a).toNatClampNeg) 0) 50 45 (nI a)) 50 44 1) 50 57 0) 50 58 1) 50 50 (-1)) 50 51 (-1)) (by rfl) ?_
    exact hr 0 122 _ _ _ none (by decide +kernel) (by rfl) (⟨rfl, (a_H_ui (a_H_ui (a_H_ui (a_H_ui (a_H_ui (a_H_ui (a_H_ui (a_H_ui hH1 (bI_top _)) (show bI 0 1 0 from ⟨by decide, by decide⟩)) (show bI 0 3 _ from bd_nI (by omega) ⟨by omega, by omega⟩)) (⟨by decide, by decide⟩)) (⟨by decide, by decide⟩)) (⟨by decide, by decide⟩)) (bI_top _)) (bI_top _)), (a_Fz_ui (a_Fz_ui (a_Fz_ui (a_Fz_ui (a_Fz_ui (a_Fz_ui (a_Fz_ui (a_Fz_ui hF1 (a_mda_md (by decide) _)) (a_mda_md (by decide) _)) (by decide)) (by decide)) (by decide)) (by decide)) (by decide)) (by decide)), rfl, rfl, rfl, rfl, rfl, c, hc34, rfl, fun j => rfl⟩)

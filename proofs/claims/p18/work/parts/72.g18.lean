/-! the reference: what a desk is worth -/
set_option maxRecDepth 8000
noncomputable abbrev mdK : List (Nat × Nat) := [(50, 7), (50, 8), (50, 9), (50, 10), (50, 11), (50, 12), (58, 9999)]
noncomputable abbrev mdKR : List (Nat × Nat) := [(50, 7), (50, 8), (50, 9), (50, 10), (50, 11), (50, 12), (50, 13), (50, 14), (50, 15), (50, 16), (50, 17), (50, 18), (50, 21), (50, 22), (50, 23), (50, 24), (50, 25), (51, 9999), (54, 9999), (55, 9999), (56, 9999), (57, 9999), (58, 9999)]
noncomputable abbrev mdWo : List (Nat × Nat) := [(50, 0), (50, 4), (50, 7), (50, 8), (50, 9), (50, 10), (50, 11), (50, 12), (50, 13), (50, 14), (50, 15), (50, 16), (50, 17), (50, 18), (50, 21), (50, 22), (50, 23), (50, 24), (50, 25), (50, 67), (51, 9999), (52, 9999), (53, 9999), (54, 9999), (55, 9999), (56, 9999), (57, 9999), (58, 9999), (77, 9999)]
/-- what the reckoning reads -/
noncomputable def KM (κ : zM) (w : Nat → Nat) (q : Nat) (sL lL : Nat → Nat) (k : Int32) (dr : Bool) (told : Int64) (sw rw dear : Int32) : Prop := (κ.1 50 4 = nI q) ∧ (∀ j, j < q → κ.1 52 j = nI (sL j) ∧ sL j ≤ 3 ∧ κ.1 53 j = nI (lL j) ∧ lL j < 34) ∧ (∀ j, j < 34 → κ.1 58 j = nI (w j)) ∧ (κ.1 50 7 = k) ∧ (κ.1 50 8 = sw) ∧ (κ.1 50 9 = rw) ∧ (κ.1 50 10 = dear) ∧ (κ.1 50 11 = nB dr) ∧ (κ.2.1 50 12 = told)
theorem KM.c4 {κ : zM} {w : Nat → Nat} {q : Nat} {sL lL : Nat → Nat} {k : Int32} {dr : Bool} {told : Int64} {sw rw dear : Int32} (h : KM κ w q sL lL k dr told sw rw dear) : κ.1 50 4 = nI q := h.1
theorem KM.r52 {κ : zM} {w : Nat → Nat} {q : Nat} {sL lL : Nat → Nat} {k : Int32} {dr : Bool} {told : Int64} {sw rw dear : Int32} (h : KM κ w q sL lL k dr told sw rw dear) : ∀ j, j < q → κ.1 52 j = nI (sL j) ∧ sL j ≤ 3 ∧ κ.1 53 j = nI (lL j) ∧ lL j < 34 := h.2.1
theorem KM.r58 {κ : zM} {w : Nat → Nat} {q : Nat} {sL lL : Nat → Nat} {k : Int32} {dr : Bool} {told : Int64} {sw rw dear : Int32} (h : KM κ w q sL lL k dr told sw rw dear) : ∀ j, j < 34 → κ.1 58 j = nI (w j) := h.2.2.1
theorem KM.c7 {κ : zM} {w : Nat → Nat} {q : Nat} {sL lL : Nat → Nat} {k : Int32} {dr : Bool} {told : Int64} {sw rw dear : Int32} (h : KM κ w q sL lL k dr told sw rw dear) : κ.1 50 7 = k := h.2.2.2.1
theorem KM.c8 {κ : zM} {w : Nat → Nat} {q : Nat} {sL lL : Nat → Nat} {k : Int32} {dr : Bool} {told : Int64} {sw rw dear : Int32} (h : KM κ w q sL lL k dr told sw rw dear) : κ.1 50 8 = sw := h.2.2.2.2.1
theorem KM.c9 {κ : zM} {w : Nat → Nat} {q : Nat} {sL lL : Nat → Nat} {k : Int32} {dr : Bool} {told : Int64} {sw rw dear : Int32} (h : KM κ w q sL lL k dr told sw rw dear) : κ.1 50 9 = rw := h.2.2.2.2.2.1
theorem KM.c10 {κ : zM} {w : Nat → Nat} {q : Nat} {sL lL : Nat → Nat} {k : Int32} {dr : Bool} {told : Int64} {sw rw dear : Int32} (h : KM κ w q sL lL k dr told sw rw dear) : κ.1 50 10 = dear := h.2.2.2.2.2.2.1
theorem KM.c11 {κ : zM} {w : Nat → Nat} {q : Nat} {sL lL : Nat → Nat} {k : Int32} {dr : Bool} {told : Int64} {sw rw dear : Int32} (h : KM κ w q sL lL k dr told sw rw dear) : κ.1 50 11 = nB dr := h.2.2.2.2.2.2.2.1
theorem KM.t12 {κ : zM} {w : Nat → Nat} {q : Nat} {sL lL : Nat → Nat} {k : Int32} {dr : Bool} {told : Int64} {sw rw dear : Int32} (h : KM κ w q sL lL k dr told sw rw dear) : κ.2.1 50 12 = told := h.2.2.2.2.2.2.2.2
noncomputable def RC (μ μ1 : zM) (i : Nat) (k sw rw dear : Int32) (dr : Bool) (told : Int64) : Prop := (∀ j, j < i → μ1.1 58 j = μ.1 51 j) ∧ a_Fz mdK μ μ1 ∧ a_H μ1 ∧ μ1.1 50 7 = k ∧ μ1.1 50 8 = sw ∧ μ1.1 50 9 = rw ∧ μ1.1 50 10 = dear ∧ μ1.1 50 11 = nB dr ∧ μ1.2.1 50 12 = told
theorem zh_X7_reckon : zH mi_X7_reckon zt_X7_reckon 79 7 9 := hh_X7_reckon
theorem fr_X7_reckon (d : Nat) (hd : 13 ≤ d) (μ : zM) (w : Nat → Nat) (q : Nat) (hq : q ≤ 4) (hw : RW μ 51 w) (e4 : μ.1 50 4 = nI q) (sL lL : Nat → Nat) (hL : ∀ j, j < q → μ.1 52 j = nI (sL j) ∧ sL j ≤ 3 ∧ μ.1 53 j = nI (lL j) ∧ lL j < 34) (hH0 : a_H μ) (k sw rw dear : Int32) (dr : Bool) (told : Int64) : z_C d mi_X7_reckon [.ref 50, .int k, .int (nB dr), .long told, .int sw, .int rw, .int dear] μ (fun r μ' => r = none ∧ a_H μ' ∧ a_Fz mdKR μ μ' ∧ ∃ κ, KM κ w q sL lL k dr told sw rw dear ∧ BS (SR κ w q sL lL) (0, 0, 0, 0) (bq μ')) := by
  refine z_C_in (by decide) (by omega) (fun d' Z ed hc hr => ?_)
  have hH := zh_X7_reckon
  have lp : ∀ (n i : Nat), i + n = 34 → ∀ μ1, RC μ μ1 i k sw rw dear dr told → Z 0 36 [(8, .int (nI i)), (0, .ref 50), (1, .int k), (2, .int (nB dr)), (3, .long told), (5, .int sw), (6, .int rw), (7, .int dear)] [] μ1 := by
    intro n
    induction n with
    | zero =>
      intro i hi μ1 g
      have hi : i = 34 := by omega
      subst hi
      have w1 : RW μ1 51 w := fun j hj => by rw [a_Fz_at g.2.1 51 j (a_md_row (by decide +kernel))]; exact hw j hj
      have e41 : μ1.1 50 4 = nI q := (a_Fz_at g.2.1 50 4 (by decide +kernel)).trans e4
      have hL1 : ∀ j, j < q → μ1.1 52 j = nI (sL j) ∧ sL j ≤ 3 ∧ μ1.1 53 j = nI (lL j) ∧ lL j < 34 := fun j hj => by rw [a_Fz_at g.2.1 52 j (a_md_row (by decide +kernel)), a_Fz_at g.2.1 53 j (a_md_row (by decide +kernel))]; exact hL j hj
      refine z_rcs hc hH 2 (pc' := 40) (lv' := [(8, .int (nI 34)), (0, .ref 50), (1, .int k), (2, .int (nB dr)), (3, .long told), (5, .int sw), (6, .int rw), (7, .int dear)]) (st' := [.int 34, .int (nI 34)]) (μ' := μ1) (by rfl) ?_
      refine zq_ic hc hH (by rfl) (tg := 63) (by rfl) (fun _ => ?_) (fun h9 => (zb_t (ge_nIt (n := 34) (i := 34) (by decide) (by decide)) h9).elim)
      refine z_rcs hc hH 2 (pc' := 65) (lv' := [(8, .int (nI 34)), (0, .ref 50), (1, .int k), (2, .int (nB dr)), (3, .long told), (5, .int sw), (6, .int rw), (7, .int dear)]) (st' := [.int 1, .ref 50]) (μ' := μ1) (by rfl) ?_
      refine zq_call hc (z_cx_ok hH (by rfl)) (fr_X7_apart d' (by omega) μ1 w q hq w1 e41 sL lL hL1 g.2.2.1) (by decide +kernel) (fun r2 μ2 hq2 => ?_)
      obtain ⟨rfl, hA⟩ := hq2
      show Z 0 68 [(8, .int (nI 34)), (0, .ref 50), (1, .int k), (2, .int (nB dr)), (3, .long told), (5, .int sw), (6, .int rw), (7, .int dear)] [] μ2
      exact hr 0 68 _ _ _ none (by decide +kernel) (by rfl) (⟨rfl, hA.2.2.1, a_Fz_tr (by decide +kernel) (a_Fz_tr (by decide +kernel) (a_Fz_rf mdKR μ) g.2.1) hA.2.1, μ1, ⟨e41, hL1, fun j hj => (g.1 j hj).trans (hw j hj).1, g.2.2.2.1, g.2.2.2.2.1, g.2.2.2.2.2.1, g.2.2.2.2.2.2.1, g.2.2.2.2.2.2.2.1, g.2.2.2.2.2.2.2.2⟩, hA.2.2.2⟩)
    | succ n ih =>
      intro i hi μ1 g
      have hin : vp_in (nI i) 34 := vp_in_nI (by omega) (by decide)
      refine z_rcs hc hH 2 (pc' := 40) (lv' := [(8, .int (nI i)), (0, .ref 50), (1, .int k), (2, .int (nB dr)), (3, .long told), (5, .int sw), (6, .int rw), (7, .int dear)]) (st' := [.int 34, .int (nI i)]) (μ' := μ1) (by rfl) ?_
      refine zq_ic hc hH (by rfl) (tg := 63) (by rfl) (fun h9 => (zb_t h9 (ge_nI (n := 34) (i := i) (by omega) (by decide))).elim) (fun _ => ?_)
      refine z_rcs hc hH 6 (pc' := 55) (lv' := [(8, .int (nI i)), (0, .ref 50), (1, .int k), (2, .int (nB dr)), (3, .long told), (5, .int sw), (6, .int rw), (7, .int dear)]) (st' := [.int (nI i), .ref 51, .int (nI i), .ref 58]) (μ' := μ1) (by rfl) ?_
      refine zq_iald hc hH (by rfl) 34 (by decide +kernel) (hin) ?_
      rw [nI_clamp (n := i) (by omega), a_Fz_at g.2.1 51 i (a_md_row (by decide +kernel))]
      show Z 0 56 [(8, .int (nI i)), (0, .ref 50), (1, .int k), (2, .int (nB dr)), (3, .long told), (5, .int sw), (6, .int rw), (7, .int dear)] [.int (μ.1 51 i), .int (nI i), .ref 58] μ1
      refine zq_iast hc hH (by rfl) 34 (by decide +kernel) (hin) ?_
      rw [nI_clamp (n := i) (by omega)]
      have g2 : RC μ (z_ui μ1 58 i (μ.1 51 i)) (i + 1) k sw rw dear dr told := by
        refine ⟨fun j hj => ?_, a_Fz_ui g.2.1 (a_mda_md (by decide +kernel) _), a_H_ui g.2.2.1 (bI_top _), ?_⟩
        · rw [z_ui_rd]
          by_cases e : j = i
          · rw [if_pos ⟨rfl, e⟩, e]
          · rw [if_neg (fun z => e z.2)]; exact g.1 j (by omega)
        · rw [z_ui_rd, if_neg (by omega), z_ui_rd, if_neg (by omega), z_ui_rd, if_neg (by omega), z_ui_rd, if_neg (by omega), z_ui_rd, if_neg (by omega)]; exact g.2.2.2
      generalize z_ui μ1 58 i (μ.1 51 i) = μ3 at g2 ⊢
      refine z_rcs hc hH 2 (pc' := 36) (lv' := [(8, .int ((nI i) + 1)), (0, .ref 50), (1, .int k), (2, .int (nB dr)), (3, .long told), (5, .int sw), (6, .int rw), (7, .int dear)]) (st' := []) (μ' := μ3) (by rfl) ?_
      rw [nI_1]
      exact ih (i + 1) (by omega) μ3 g2
  refine z_rcs hc hH 5 (pc' := 7) (lv' := [(0, .ref 50), (1, .int k), (2, .int (nB dr)), (3, .long told), (5, .int sw), (6, .int rw), (7, .int dear)]) (st' := [.int (nB dr), .ref 50]) (μ' := z_ui μ 50 7 k) (by rfl) ?_
  refine zq_zput hc hH (by rfl) (ci := 6) (f := 11) (by decide +kernel) ((by cases dr <;> rfl)) ?_
  refine z_rcs hc hH 14 (pc' := 36) (lv' := [(8, .int 0), (0, .ref 50), (1, .int k), (2, .int (nB dr)), (3, .long told), (5, .int sw), (6, .int rw), (7, .int dear)]) (st' := []) (μ' := z_ui (z_ui (z_ui (z_uj (z_ui (z_ui μ 50 7 k) 50 11 (nB dr)) 50 12 told) 50 8 sw) 50 9 rw) 50 10 dear) (by rfl) ?_
  refine lp 34 0 (by omega) _ ⟨fun j hj => absurd hj (by omega), ?_, ?_, ?_, ?_, ?_, ?_, ?_, ?_⟩
  · exact a_Fz_ui (a_Fz_ui (a_Fz_ui (a_Fz_uj (a_Fz_ui (a_Fz_ui (a_Fz_rf _ _) (by decide +kernel)) (by decide +kernel)) (by decide +kernel)) (by decide +kernel)) (by decide +kernel)) (by decide +kernel)
  · exact a_H_ui (a_H_ui (a_H_ui (a_H_uj (a_H_ui (a_H_ui hH0 (bI_top _)) (by cases dr <;> exact ⟨by decide, by decide⟩))) (bI_top _)) (bI_top _)) (bI_top _)
  · rw [z_ui_rd, if_neg (by omega), z_ui_rd, if_neg (by omega), z_ui_rd, if_neg (by omega)]; show (z_ui (z_ui μ 50 7 k) 50 11 (nB dr)).1 50 7 = k; rw [z_ui_rd, if_neg (by omega), z_ui_rd, if_pos ⟨rfl, rfl⟩]
  · rw [z_ui_rd, if_neg (by omega), z_ui_rd, if_neg (by omega), z_ui_rd, if_pos ⟨rfl, rfl⟩]
  · rw [z_ui_rd, if_neg (by omega), z_ui_rd, if_pos ⟨rfl, rfl⟩]
  · rw [z_ui_rd, if_pos ⟨rfl, rfl⟩]
  · rw [z_ui_rd, if_neg (by omega), z_ui_rd, if_neg (by omega), z_ui_rd, if_neg (by omega)]; show (z_ui (z_ui μ 50 7 k) 50 11 (nB dr)).1 50 11 = nB dr; rw [z_ui_rd, if_pos ⟨rfl, rfl⟩]
  · show (z_uj (z_ui (z_ui μ 50 7 k) 50 11 (nB dr)) 50 12 told).2.1 50 12 = told; rw [z_uj_rd, if_pos ⟨rfl, rfl⟩]
theorem zh_X7_nothing : zH mi_X7_nothing zt_X7_nothing 79 7 1 := hh_X7_nothing
theorem fr_X7_nothing (d : Nat) (hd : 1 ≤ d) (μ : zM) (hH0 : a_H μ) : z_C d mi_X7_nothing [.ref 50] μ (fun r μ' => r = none ∧ a_H μ' ∧ a_Fz mdKR μ μ' ∧ bq μ' = (0, 0, 0, 0)) := by
  refine z_C_in (by decide) (by omega) (fun d' Z ed hc hr => ?_)
  have hH := zh_X7_nothing
  refine z_rcs hc hH 15 (pc' := 25) (lv' := [(0, .ref 50)]) (st' := []) (μ' := z_uj (z_ui (z_ui (z_ui (z_ui μ 50 16 0) 50 13 0) 50 14 0) 50 15 0) 50 17 0) (by rfl) ?_
  have z : bq (z_uj (z_ui (z_ui (z_ui (z_ui μ 50 16 0) 50 13 0) 50 14 0) 50 15 0) 50 17 0) = (0, 0, 0, 0) := by
    refine Prod.ext ?_ (Prod.ext ?_ (Prod.ext ?_ ?_))
    · show (z_ui (z_ui (z_ui (z_ui μ 50 16 0) 50 13 0) 50 14 0) 50 15 0).1 50 13 = 0; rw [z_ui_rd, if_neg (by omega), z_ui_rd, if_neg (by omega), z_ui_rd, if_pos ⟨rfl, rfl⟩]
    · show (z_ui (z_ui (z_ui (z_ui μ 50 16 0) 50 13 0) 50 14 0) 50 15 0).1 50 14 = 0; rw [z_ui_rd, if_neg (by omega), z_ui_rd, if_pos ⟨rfl, rfl⟩]
    · show (z_ui (z_ui (z_ui (z_ui μ 50 16 0) 50 13 0) 50 14 0) 50 15 0).1 50 15 = 0; rw [z_ui_rd, if_pos ⟨rfl, rfl⟩]
    · show (z_uj (z_ui (z_ui (z_ui (z_ui μ 50 16 0) 50 13 0) 50 14 0) 50 15 0) 50 17 0).2.1 50 17 = 0; rw [z_uj_rd, if_pos ⟨rfl, rfl⟩]
  exact hr 0 25 _ _ _ none (by decide +kernel) (by rfl) (⟨rfl, a_H_uj (a_H_ui (a_H_ui (a_H_ui (a_H_ui hH0 (bI_top _)) (bI_top _)) (bI_top _)) (bI_top _)), a_Fz_uj (a_Fz_ui (a_Fz_ui (a_Fz_ui (a_Fz_ui (a_Fz_rf _ _) (by decide +kernel)) (by decide +kernel)) (by decide +kernel)) (by decide +kernel)) (by decide +kernel), z⟩)
theorem zh_X7_worth : zH mi_X7_worth zt_X7_worth 79 7 9 := hh_X7_worth
noncomputable abbrev tlm : Int64 := (247 ||| lb true 42) ||| lb true 43
theorem fr_X7_worth (d : Nat) (hd : 15 ≤ d) (μ : zM) (w : Nat → Nat) (q : Nat) (hR : RD μ q) (hw : ∀ j, j < 34 → μ.1 74 j = nI (w j) ∧ w j ≤ 4) (sL lL : Nat → Nat) (hL : ∀ j, j < q → μ.1 75 j = nI (sL j) ∧ sL j ≤ 3 ∧ μ.1 76 j = nI (lL j) ∧ lL j < 34) (hH0 : a_H μ) (k wi de : Int32) (dr : Bool) (told : Int64) : z_C d mi_X7_worth [.ref 50, .int k, .int (nB dr), .long told, .int wi, .int de] μ (fun r μ' => a_H μ' ∧ a_Fz mdWo μ μ' ∧ ∃ (κ : zM) (b : Q4), r = some (.int b.1) ∧ μ'.2.1 50 67 = b.2.2.2 ∧ ((¬ (vp_in k 34 ∧ 0 < w k.toNatClampNeg) ∧ b = (0, 0, 0, 0)) ∨ ((vp_in k 34 ∧ 0 < w k.toNatClampNeg) ∧ KM κ w q sL lL k dr (told &&& tlm) (wi &&& 3) ((wi >>> (2 &&& 31)) &&& 3) (de &&& 63) ∧ BS (SR κ w q sL lL) (0, 0, 0, 0) b))) := by
  refine z_C_in (by decide) (by omega) (fun d' Z ed hc hr => ?_)
  have hH := zh_X7_worth
  have t74 : ∀ μ2, a_H μ2 → a_Fz mdWo μ μ2 → (∃ κ : zM, ((¬ (vp_in k 34 ∧ 0 < w k.toNatClampNeg) ∧ bq μ2 = (0, 0, 0, 0)) ∨ ((vp_in k 34 ∧ 0 < w k.toNatClampNeg) ∧ KM κ w q sL lL k dr (told &&& tlm) (wi &&& 3) ((wi >>> (2 &&& 31)) &&& 3) (de &&& 63) ∧ BS (SR κ w q sL lL) (0, 0, 0, 0) (bq μ2)))) → Z 0 74 [(7, .long tlm), (0, .ref 50), (1, .int k), (2, .int (nB dr)), (3, .long told), (5, .int wi), (6, .int de)] [] μ2 := by
    intro μ2 H2 F2 hT
    refine z_rcs hc hH 5 (pc' := 83) (lv' := [(7, .long tlm), (0, .ref 50), (1, .int k), (2, .int (nB dr)), (3, .long told), (5, .int wi), (6, .int de)]) (st' := [.int (μ2.1 50 13), .int 0, .ref 77]) (μ' := μ2) (by rfl) ?_
    show Z 0 83 [(7, .long tlm), (0, .ref 50), (1, .int k), (2, .int (nB dr)), (3, .long told), (5, .int wi), (6, .int de)] [.int (μ2.1 50 13), .int 0, .ref 77] μ2
    refine zq_iast hc hH (by rfl) 4 (by decide +kernel) (show vp_in (nI 0) 4 from vp_in_nI (by decide) (by decide)) ?_
    rw [show (0 : Int32).toNatClampNeg = 0 from rfl]
    show Z 0 84 [(7, .long tlm), (0, .ref 50), (1, .int k), (2, .int (nB dr)), (3, .long told), (5, .int wi), (6, .int de)] [] (z_ui μ2 77 0 (μ2.1 50 13))
    refine z_rcs0 hc hH 5 (pc' := 93) (lv' := [(7, .long tlm), (0, .ref 50), (1, .int k), (2, .int (nB dr)), (3, .long told), (5, .int wi), (6, .int de)]) (st' := [.int (μ2.1 50 14), .int 1, .ref 77]) (by rfl) ?_
    show Z 0 93 [(7, .long tlm), (0, .ref 50), (1, .int k), (2, .int (nB dr)), (3, .long told), (5, .int wi), (6, .int de)] [.int (μ2.1 50 14), .int 1, .ref 77] _
    refine zq_iast hc hH (by rfl) 4 (by decide +kernel) (show vp_in (nI 1) 4 from vp_in_nI (by decide) (by decide)) ?_
    rw [show (1 : Int32).toNatClampNeg = 1 from rfl]
    show Z 0 94 [(7, .long tlm), (0, .ref 50), (1, .int k), (2, .int (nB dr)), (3, .long told), (5, .int wi), (6, .int de)] [] (z_ui (z_ui μ2 77 0 (μ2.1 50 13)) 77 1 (μ2.1 50 14))
    refine z_rcs0 hc hH 5 (pc' := 103) (lv' := [(7, .long tlm), (0, .ref 50), (1, .int k), (2, .int (nB dr)), (3, .long told), (5, .int wi), (6, .int de)]) (st' := [.int (μ2.1 50 15), .int 2, .ref 77]) (by rfl) ?_
    show Z 0 103 [(7, .long tlm), (0, .ref 50), (1, .int k), (2, .int (nB dr)), (3, .long told), (5, .int wi), (6, .int de)] [.int (μ2.1 50 15), .int 2, .ref 77] _
    refine zq_iast hc hH (by rfl) 4 (by decide +kernel) (show vp_in (nI 2) 4 from vp_in_nI (by decide) (by decide)) ?_
    rw [show (2 : Int32).toNatClampNeg = 2 from rfl]
    show Z 0 104 [(7, .long tlm), (0, .ref 50), (1, .int k), (2, .int (nB dr)), (3, .long told), (5, .int wi), (6, .int de)] [] (z_ui (z_ui (z_ui μ2 77 0 (μ2.1 50 13)) 77 1 (μ2.1 50 14)) 77 2 (μ2.1 50 15))
    refine z_rcs0 hc hH 5 (pc' := 113) (lv' := [(7, .long tlm), (0, .ref 50), (1, .int k), (2, .int (nB dr)), (3, .long told), (5, .int wi), (6, .int de)]) (st' := [.int (μ2.1 50 16), .int 3, .ref 77]) (by rfl) ?_
    show Z 0 113 [(7, .long tlm), (0, .ref 50), (1, .int k), (2, .int (nB dr)), (3, .long told), (5, .int wi), (6, .int de)] [.int (μ2.1 50 16), .int 3, .ref 77] _
    refine zq_iast hc hH (by rfl) 4 (by decide +kernel) (show vp_in (nI 3) 4 from vp_in_nI (by decide) (by decide)) ?_
    rw [show (3 : Int32).toNatClampNeg = 3 from rfl]
    show Z 0 114 [(7, .long tlm), (0, .ref 50), (1, .int k), (2, .int (nB dr)), (3, .long told), (5, .int wi), (6, .int de)] [] (z_ui (z_ui (z_ui (z_ui μ2 77 0 (μ2.1 50 13)) 77 1 (μ2.1 50 14)) 77 2 (μ2.1 50 15)) 77 3 (μ2.1 50 16))
    refine z_rcs hc hH 6 (pc' := 126) (lv' := [(7, .long tlm), (0, .ref 50), (1, .int k), (2, .int (nB dr)), (3, .long told), (5, .int wi), (6, .int de)]) (st' := [.int (μ2.1 50 13)]) (μ' := z_uj (z_ui (z_ui (z_ui (z_ui μ2 77 0 (μ2.1 50 13)) 77 1 (μ2.1 50 14)) 77 2 (μ2.1 50 15)) 77 3 (μ2.1 50 16)) 50 67 (μ2.2.1 50 17)) (by rfl) ?_
    show Z 0 126 [(7, .long tlm), (0, .ref 50), (1, .int k), (2, .int (nB dr)), (3, .long told), (5, .int wi), (6, .int de)] [.int (μ2.1 50 13)] _
    obtain ⟨κ, hT⟩ := hT
    exact hr 0 126 _ _ _ (some (.int (μ2.1 50 13))) (by decide +kernel) (z_rx_ok hH (by rfl)) (⟨a_H_uj (a_H_ui (a_H_ui (a_H_ui (a_H_ui H2 (bI_top _)) (bI_top _)) (bI_top _)) (bI_top _)), a_Fz_uj (a_Fz_ui (a_Fz_ui (a_Fz_ui (a_Fz_ui F2 (a_mda_md (by decide +kernel) _)) (a_mda_md (by decide +kernel) _)) (a_mda_md (by decide +kernel) _)) (a_mda_md (by decide +kernel) _)) (by decide +kernel), κ, bq μ2, rfl, by rw [z_uj_rd, if_pos ⟨rfl, rfl⟩]; rfl, hT⟩)
  refine z_rcs hc hH 3 (pc' := 5) (lv' := [(0, .ref 50), (1, .int k), (2, .int (nB dr)), (3, .long told), (5, .int wi), (6, .int de)]) (st' := []) (μ' := z_ui μ 50 0 0) (by rfl) ?_
  have H0 : a_H (z_ui μ 50 0 0) := a_H_ui hH0 (bI_top _)
  have e66 : (z_ui μ 50 0 0).1 50 66 = nI q := by rw [z_ui_rd, if_neg (by omega)]; exact hR.2.1
  have r74 : ∀ r j, r ≠ 50 → (z_ui μ 50 0 0).1 r j = μ.1 r j := fun r j h => by rw [z_ui_rd, if_neg (fun z => h z.1)]
  have F0 : a_Fz mdWo μ (z_ui μ 50 0 0) := a_Fz_ui (a_Fz_rf _ _) (by decide +kernel)
  generalize z_ui μ 50 0 0 = μ0 at H0 e66 r74 F0 ⊢
  refine z_rcs hc hH 1 (pc' := 6) (lv' := [(0, .ref 50), (1, .int k), (2, .int (nB dr)), (3, .long told), (5, .int wi), (6, .int de)]) (st' := [.ref 50]) (μ' := μ0) (by rfl) ?_
  refine zq_call hc (z_cx_ok hH (by rfl)) (fc_X7_takeDesk d' (by omega) μ0 q hR.1 e66) (by decide +kernel) (fun r1 μ1 hq1 => ?_)
  obtain ⟨rfl, ht⟩ := hq1
  have l4 := hR.1
  have H1 := a_H_TD H0 ht (by rw [e66]; exact bd_nI (by omega) ⟨by omega, by omega⟩)
  have w1 : RW μ1 51 w := fun k hk => by rw [(ht.1 k hk).1, r74 74 k (by decide), (hw k hk).1]; exact ⟨rfl, by have := (hw k hk).2; omega⟩
  have e41 : μ1.1 50 4 = nI q := ht.2.1.trans e66
  have F1 : a_Fz mdWo μ μ1 := a_Fz_tr (m1 := [(50, 4), (51, 9999), (52, 9999), (53, 9999), (58, 9999)]) (by decide +kernel) F0 (fz_of (fun r k hm => ht.2.2.2.1 r k (md_ne hm (by decide +kernel)) (md_ne hm (by decide +kernel)) (md_ne hm (by decide +kernel)) (md_ne hm (by decide +kernel)) (md_nc hm (by decide +kernel))) ht.2.2.2.2)
  have hL1 : ∀ j, j < q → μ1.1 52 j = nI (sL j) ∧ sL j ≤ 3 ∧ μ1.1 53 j = nI (lL j) ∧ lL j < 34 := fun i hi => by
    have := ht.2.2.1 i (by rw [e66, nI_clamp (by omega)]; exact hi)
    rw [r74 75 i (by decide), r74 76 i (by decide)] at this
    rw [this.1, this.2]; exact hL i hi
  show Z 0 9 [(0, .ref 50), (1, .int k), (2, .int (nB dr)), (3, .long told), (5, .int wi), (6, .int de)] [] μ1
  refine z_rcs hc hH 2 (pc' := 14) (lv' := [(0, .ref 50), (1, .int k), (2, .int (nB dr)), (3, .long told), (5, .int wi), (6, .int de)]) (st' := [.int 42, .long 247]) (μ' := μ1) (by rfl) ?_
  refine zq_call hc (z_cx_ok hH (by rfl)) (fb_X7_bit d' (by omega) μ1 42) (by decide +kernel) (fun r9 μ9 hq => ?_)
  obtain ⟨hμ9, rfl⟩ := hq
  rw [hμ9]
  clear hμ9 μ9
  show Z 0 17 [(0, .ref 50), (1, .int k), (2, .int (nB dr)), (3, .long told), (5, .int wi), (6, .int de)] [.long (lb true 42), .long 247] μ1
  refine z_rcs hc hH 2 (pc' := 20) (lv' := [(0, .ref 50), (1, .int k), (2, .int (nB dr)), (3, .long told), (5, .int wi), (6, .int de)]) (st' := [.int 43, .long (247 ||| (lb true 42))]) (μ' := μ1) (by rfl) ?_
  refine zq_call hc (z_cx_ok hH (by rfl)) (fb_X7_bit d' (by omega) μ1 43) (by decide +kernel) (fun r9 μ9 hq => ?_)
  obtain ⟨hμ9, rfl⟩ := hq
  rw [hμ9]
  clear hμ9 μ9
  show Z 0 23 [(0, .ref 50), (1, .int k), (2, .int (nB dr)), (3, .long told), (5, .int wi), (6, .int de)] [.long (lb true 43), .long (247 ||| (lb true 42))] μ1
  refine z_rcs hc hH 3 (pc' := 27) (lv' := [(7, .long ((247 ||| (lb true 42)) ||| (lb true 43))), (0, .ref 50), (1, .int k), (2, .int (nB dr)), (3, .long told), (5, .int wi), (6, .int de)]) (st' := [.int k]) (μ' := μ1) (by rfl) ?_
  refine zq_call hc (z_cx_ok hH (by rfl)) (fc_X7_isKind d' (by omega) μ1 k) (by decide +kernel) (fun r9 μ9 hq => ?_)
  obtain ⟨hμ9, hq⟩ := hq
  rw [hμ9]
  clear hμ9 μ9
  obtain ⟨rfl, hk⟩ | ⟨rfl, hk⟩ := hq
  · show Z 0 30 [(7, .long ((247 ||| (lb true 42)) ||| (lb true 43))), (0, .ref 50), (1, .int k), (2, .int (nB dr)), (3, .long told), (5, .int wi), (6, .int de)] [.int 1] μ1
    refine z_rcs hc hH 4 (pc' := 38) (lv' := [(7, .long ((247 ||| (lb true 42)) ||| (lb true 43))), (0, .ref 50), (1, .int k), (2, .int (nB dr)), (3, .long told), (5, .int wi), (6, .int de)]) (st' := [.int k, .ref 51]) (μ' := μ1) (by rfl) ?_
    refine zq_iald hc hH (by rfl) 34 (by decide +kernel) (hk) ?_
    have hkn : k.toNatClampNeg < 34 := by have := vp_in_iff.mp hk; rw [Int32.toNatClampNeg]; omega
    rw [(w1 _ hkn).1]
    show Z 0 39 [(7, .long ((247 ||| (lb true 42)) ||| (lb true 43))), (0, .ref 50), (1, .int k), (2, .int (nB dr)), (3, .long told), (5, .int wi), (6, .int de)] [.int (nI (w k.toNatClampNeg))] μ1
    refine zq_if hc hH (by rfl) (tg := 70) (by rfl) (fun h1 => ?_) (fun h1 => ?_)
    · have h1 := cm_le.mp h1
      refine z_rcs hc hH 1 (pc' := 71) (lv' := [(7, .long ((247 ||| (lb true 42)) ||| (lb true 43))), (0, .ref 50), (1, .int k), (2, .int (nB dr)), (3, .long told), (5, .int wi), (6, .int de)]) (st' := [.ref 50]) (μ' := μ1) (by rfl) ?_
      refine zq_call hc (z_cx_ok hH (by rfl)) (fr_X7_nothing d' (by omega) μ1 H1) (by decide +kernel) (fun r2 μ2 hq2 => ?_)
      obtain ⟨rfl, H2, F2, hB⟩ := hq2
      have hN : ¬ (vp_in k 34 ∧ 0 < w k.toNatClampNeg) := fun z => by
        have z2 := h1
        have := (w1 _ hkn).2
        rw [Int32.le_iff_toInt_le, nI_toInt (by omega)] at z2
        have z2 : ((w k.toNatClampNeg : Nat) : Int) ≤ 0 := z2
        omega
      show Z 0 74 [(7, .long ((247 ||| (lb true 42)) ||| (lb true 43))), (0, .ref 50), (1, .int k), (2, .int (nB dr)), (3, .long told), (5, .int wi), (6, .int de)] [] μ2
      exact t74 μ2 H2 (a_Fz_tr (by decide +kernel) F1 F2) ⟨μ, Or.inl ⟨hN, hB⟩⟩
    · have h1 := cn_le.mp h1
      refine z_rcs hc hH 11 (pc' := 56) (lv' := [(7, .long ((247 ||| (lb true 42)) ||| (lb true 43))), (0, .ref 50), (1, .int k), (2, .int (nB dr)), (3, .long told), (5, .int wi), (6, .int de)]) (st' := [.int 2, .int wi, .int (wi &&& 3), .long (told &&& ((247 ||| (lb true 42)) ||| (lb true 43))), .int (nB dr), .int k, .ref 50]) (μ' := μ1) (by rfl) ?_
      refine z_rcs hc hH 6 (pc' := 64) (lv' := [(7, .long ((247 ||| (lb true 42)) ||| (lb true 43))), (0, .ref 50), (1, .int k), (2, .int (nB dr)), (3, .long told), (5, .int wi), (6, .int de)]) (st' := [.int (de &&& 63), .int ((wi >>> (2 &&& 31)) &&& 3), .int (wi &&& 3), .long (told &&& ((247 ||| (lb true 42)) ||| (lb true 43))), .int (nB dr), .int k, .ref 50]) (μ' := μ1) (by rfl) ?_
      refine zq_call hc (z_cx_ok hH (by rfl)) (fr_X7_reckon d' (by omega) μ1 w q l4 w1 e41 sL lL hL1 H1 k (wi &&& 3) ((wi >>> (2 &&& 31)) &&& 3) (de &&& 63) dr (told &&& tlm)) (by decide +kernel) (fun r2 μ2 hq2 => ?_)
      obtain ⟨rfl, H2, F2, κ, hK, hB⟩ := hq2
      have hpos : 0 < w k.toNatClampNeg := by
        have z := h1
        have := (w1 _ hkn).2
        rw [Int32.not_le, Int32.lt_iff_toInt_lt, nI_toInt (by omega)] at z
        have z : (0 : Int) < ((w k.toNatClampNeg : Nat) : Int) := z
        omega
      show Z 0 67 [(7, .long ((247 ||| (lb true 42)) ||| (lb true 43))), (0, .ref 50), (1, .int k), (2, .int (nB dr)), (3, .long told), (5, .int wi), (6, .int de)] [] μ2
      refine z_rcs hc hH 1 (pc' := 74) (lv' := [(7, .long ((247 ||| (lb true 42)) ||| (lb true 43))), (0, .ref 50), (1, .int k), (2, .int (nB dr)), (3, .long told), (5, .int wi), (6, .int de)]) (st' := []) (μ' := μ2) (by rfl) ?_
      exact t74 μ2 H2 (a_Fz_tr (by decide +kernel) F1 F2) ⟨κ, Or.inr ⟨⟨hk, hpos⟩, hK, hB⟩⟩
  · show Z 0 30 [(7, .long ((247 ||| (lb true 42)) ||| (lb true 43))), (0, .ref 50), (1, .int k), (2, .int (nB dr)), (3, .long told), (5, .int wi), (6, .int de)] [.int 0] μ1
    refine z_rcs hc hH 2 (pc' := 71) (lv' := [(7, .long ((247 ||| (lb true 42)) ||| (lb true 43))), (0, .ref 50), (1, .int k), (2, .int (nB dr)), (3, .long told), (5, .int wi), (6, .int de)]) (st' := [.ref 50]) (μ' := μ1) (by rfl) ?_
    refine zq_call hc (z_cx_ok hH (by rfl)) (fr_X7_nothing d' (by omega) μ1 H1) (by decide +kernel) (fun r2 μ2 hq2 => ?_)
    obtain ⟨rfl, H2, F2, hB⟩ := hq2
    have hN : ¬ (vp_in k 34 ∧ 0 < w k.toNatClampNeg) := fun z => hk z.1
    show Z 0 74 [(7, .long ((247 ||| (lb true 42)) ||| (lb true 43))), (0, .ref 50), (1, .int k), (2, .int (nB dr)), (3, .long told), (5, .int wi), (6, .int de)] [] μ2
    exact t74 μ2 H2 (a_Fz_tr (by decide +kernel) F1 F2) ⟨μ, Or.inl ⟨hN, hB⟩⟩
/-! the class: HAN, an offer, a completed SET -/
set_option maxRecDepth 8000
theorem zq_hld {j : Nat} {C : Nat → List Value → zM → zQ → Prop} {Z : zK} {code : zT} {oc nL : Nat} {b pc : Nat} {lv : zL} {μ : zM} (h : z_clo z_x0 j C Z) (hH : zH j code 79 oc nL) (hi : z_tk code.2.1 pc = some .iaload) {t : List Value} (r : Nat) (hr : r = 101 ∨ r = 102) (n : Nat) (hn : n < 30) (k : Z b (pc + 1) lv (.int ((z_ro z_x0 r).2 n) :: t) μ) : Z b pc lv (.int (nI n) :: .ref r :: t) μ := by
  refine zq_st h hH hi ?_ k
  have e2 : z_in (nI n) 30 = true := z_in_iff.mpr (vp_in_nI hn (by omega))
  have e3 : (nI n).toNatClampNeg = n := nI_clamp (by omega)
  rcases hr with rfl | rfl
  · show (match (bif z_av z_x0 101 && z_in (nI n) 30 then some ((Value.int ((z_ro z_x0 101).2 (nI n).toNatClampNeg) :: t, μ) : List Value × zM) else none) with | some (st', μ') => some (pc + 1, lv, st', μ') | none => none) = _
    rw [show z_av z_x0 101 = true from rfl, e2, e3]; rfl
  · show (match (bif z_av z_x0 102 && z_in (nI n) 30 then some ((Value.int ((z_ro z_x0 102).2 (nI n).toNatClampNeg) :: t, μ) : List Value × zM) else none) with | some (st', μ') => some (pc + 1, lv, st', μ') | none => none) = _
    rw [show z_av z_x0 102 = true from rfl, e2, e3]; rfl
noncomputable def hb (f : Int64) (i : Nat) : Bool := decide (lg_cmp (((f.toUInt64 >>> ((nI i).toInt64.toUInt64 &&& Int64.toUInt64 63)).toInt64) &&& 1) 0 = 0)
noncomputable def hnc (f : Int64) (op : Int32) : Nat → Int32
  | 0 => 0
  | i + 1 => bif hb f i then hnc f op i else hnc f op i + (bif decide (op = 0) then (z_ro z_x0 101).2 i else (z_ro z_x0 102).2 i)
theorem zh_X0_hanOf : zH mi_X0_hanOf zt_X0_hanOf 79 0 5 := hh_X0_hanOf
theorem fb_X0_hanOf (d : Nat) (hd : 1 ≤ d) (μ : zM) (f : Int64) (op : Int32) : z_C d mi_X0_hanOf [.long f, .int op] μ (zR μ (.int (hnc f op 30))) := by
  refine z_C_in (by decide) (by omega) (fun d' Z ed hc hr => ?_)
  have hH := zh_X0_hanOf
  have lp : ∀ (n i : Nat), i + n = 30 → Z 0 5 [(4, .int (nI i)), (3, .int (hnc f op i)), (0, .long f), (2, .int op)] [] μ := by
    intro n
    induction n with
    | zero =>
      intro i hi
      have hi : i = 30 := by omega
      subst hi
      refine z_rcs hc hH 1 (pc' := 7) (lv' := [(4, .int (nI 30)), (3, .int (hnc f op 30)), (0, .long f), (2, .int op)]) (st' := [.int (nI 30)]) (μ' := μ) (by rfl) ?_
      refine z_rcs hc hH 1 (pc' := 10) (lv' := [(4, .int (nI 30)), (3, .int (hnc f op 30)), (0, .long f), (2, .int op)]) (st' := [.ref 101, .int (nI 30)]) (μ' := μ) (by rfl) ?_
      refine z_rcs hc hH 1 (pc' := 11) (lv' := [(4, .int (nI 30)), (3, .int (hnc f op 30)), (0, .long f), (2, .int op)]) (st' := [.int (nI 30), .int (nI 30)]) (μ' := μ) (by rfl) ?_
      refine zq_ic hc hH (by rfl) (tg := 62) (by rfl) (fun _ => ?_) (fun h9 => (zb_t (ge_nIt (n := 30) (i := 30) (by decide) (by decide)) h9).elim)
      refine z_rcs hc hH 1 (pc' := 63) (lv' := [(4, .int (nI 30)), (3, .int (hnc f op 30)), (0, .long f), (2, .int op)]) (st' := [.int (hnc f op 30)]) (μ' := μ) (by rfl) ?_
      exact hr 0 63 _ _ _ (some (.int (hnc f op 30))) (by decide +kernel) (z_rx_ok hH (by rfl)) (⟨rfl, rfl⟩)
    | succ n ih =>
      intro i hi
      have e0 : hnc f op (i + 1) = bif hb f i then hnc f op i else hnc f op i + (bif decide (op = 0) then (z_ro z_x0 101).2 i else (z_ro z_x0 102).2 i) := rfl
      refine z_rcs hc hH 1 (pc' := 7) (lv' := [(4, .int (nI i)), (3, .int (hnc f op i)), (0, .long f), (2, .int op)]) (st' := [.int (nI i)]) (μ' := μ) (by rfl) ?_
      refine z_rcs hc hH 1 (pc' := 10) (lv' := [(4, .int (nI i)), (3, .int (hnc f op i)), (0, .long f), (2, .int op)]) (st' := [.ref 101, .int (nI i)]) (μ' := μ) (by rfl) ?_
      refine z_rcs hc hH 1 (pc' := 11) (lv' := [(4, .int (nI i)), (3, .int (hnc f op i)), (0, .long f), (2, .int op)]) (st' := [.int (nI 30), .int (nI i)]) (μ' := μ) (by rfl) ?_
      refine zq_ic hc hH (by rfl) (tg := 62) (by rfl) (fun h9 => (zb_t h9 (ge_nI (n := 30) (i := i) (by omega) (by decide))).elim) (fun _ => ?_)
      refine z_rcs hc hH 1 (pc' := 16) (lv' := [(4, .int (nI i)), (3, .int (hnc f op i)), (0, .long f), (2, .int op)]) (st' := [.int (nI i)]) (μ' := μ) (by rfl) ?_
      refine z_rcs hc hH 1 (pc' := 19) (lv' := [(4, .int (nI i)), (3, .int (hnc f op i)), (0, .long f), (2, .int op)]) (st' := [.ref 102, .int (nI i)]) (μ' := μ) (by rfl) ?_
      refine z_rcs hc hH 1 (pc' := 20) (lv' := [(4, .int (nI i)), (3, .int (hnc f op i)), (0, .long f), (2, .int op)]) (st' := [.int (nI 30), .int (nI i)]) (μ' := μ) (by rfl) ?_
      refine zq_ic hc hH (by rfl) (tg := 62) (by rfl) (fun h9 => (zb_t h9 (ge_nI (n := 30) (i := i) (by omega) (by decide))).elim) (fun _ => ?_)
      refine z_rcs hc hH 7 (pc' := 31) (lv' := [(4, .int (nI i)), (3, .int (hnc f op i)), (0, .long f), (2, .int op)]) (st' := [.int (lg_cmp (((f.toUInt64 >>> ((nI i).toInt64.toUInt64 &&& Int64.toUInt64 63)).toInt64) &&& 1) 0)]) (μ' := μ) (by rfl) ?_
      refine zq_if hc hH (by rfl) (tg := 56) (by rfl) (fun h1 => ?_) (fun h1 => ?_)
      · have h1 := cm_eq9.mp h1
        refine z_rcs hc hH 2 (pc' := 5) (lv' := [(4, .int ((nI i) + 1)), (3, .int (hnc f op i)), (0, .long f), (2, .int op)]) (st' := []) (μ' := μ) (by rfl) ?_
        rw [show hb f i = true from decide_eq_true h1] at e0
        have e0 : hnc f op (i + 1) = hnc f op i := e0
        rw [nI_1, ← e0]
        exact ih (i + 1) (by omega)
      · have h1 := cn_eq.mp h1
        refine z_rcs hc hH 2 (pc' := 36) (lv' := [(4, .int (nI i)), (3, .int (hnc f op i)), (0, .long f), (2, .int op)]) (st' := [.int op, .int (hnc f op i)]) (μ' := μ) (by rfl) ?_
        refine zq_if hc hH (by rfl) (tg := 48) (by rfl) (fun h2 => ?_) (fun h2 => ?_)
        · have h2 := cm_eq9.mp h2
          refine z_rcs hc hH 2 (pc' := 53) (lv' := [(4, .int (nI i)), (3, .int (hnc f op i)), (0, .long f), (2, .int op)]) (st' := [.int (nI i), .ref 101, .int (hnc f op i)]) (μ' := μ) (by rfl) ?_
          refine zq_hld hc hH (by rfl) 101 (by decide) i (by omega) ?_
          show Z 0 54 [(4, .int (nI i)), (3, .int (hnc f op i)), (0, .long f), (2, .int op)] [.int ((z_ro z_x0 101).2 i), .int (hnc f op i)] μ
          refine z_rcs hc hH 4 (pc' := 5) (lv' := [(4, .int ((nI i) + 1)), (3, .int ((hnc f op i) + ((z_ro z_x0 101).2 i))), (0, .long f), (2, .int op)]) (st' := []) (μ' := μ) (by rfl) ?_
          rw [show hb f i = false from decide_eq_false h1] at e0
          rw [show decide (op = 0) = true from decide_eq_true h2] at e0
          have e0 : hnc f op (i + 1) = (hnc f op i) + ((z_ro z_x0 101).2 i) := e0
          rw [nI_1, ← e0]
          exact ih (i + 1) (by omega)
        · have h2 := cn_eq.mp h2
          refine z_rcs hc hH 2 (pc' := 44) (lv' := [(4, .int (nI i)), (3, .int (hnc f op i)), (0, .long f), (2, .int op)]) (st' := [.int (nI i), .ref 102, .int (hnc f op i)]) (μ' := μ) (by rfl) ?_
          refine zq_hld hc hH (by rfl) 102 (by decide) i (by omega) ?_
          show Z 0 45 [(4, .int (nI i)), (3, .int (hnc f op i)), (0, .long f), (2, .int op)] [.int ((z_ro z_x0 102).2 i), .int (hnc f op i)] μ
          refine z_rcs hc hH 5 (pc' := 5) (lv' := [(4, .int ((nI i) + 1)), (3, .int ((hnc f op i) + ((z_ro z_x0 102).2 i))), (0, .long f), (2, .int op)]) (st' := []) (μ' := μ) (by rfl) ?_
          rw [show hb f i = false from decide_eq_false h1] at e0
          rw [show decide (op = 0) = false from decide_eq_false h2] at e0
          have e0 : hnc f op (i + 1) = (hnc f op i) + ((z_ro z_x0 102).2 i) := e0
          rw [nI_1, ← e0]
          exact ih (i + 1) (by omega)
  refine z_rcs hc hH 4 (pc' := 5) (lv' := [(4, .int 0), (3, .int 0), (0, .long f), (2, .int op)]) (st' := []) (μ' := μ) (by rfl) ?_
  exact lp 30 0 (by omega)
noncomputable def baC (fu ha : Int32) : Int32 := bif decide (4 < ha) then bif decide (ha = 5) then (2000 : Int32) else bif decide (7 < ha) then bif decide (10 < ha) then bif decide (12 < ha) then (8000 : Int32) else 6000 else 4000 else 3000 else bif decide (2000 ≤ (fu <<< ((2 + ha) &&& 31))) then (2000 : Int32) else fu <<< ((2 + ha) &&& 31)
/-- what the class makes of FORMS and FU -/
noncomputable def fO (op : Int32) (f : Int64) : Int64 := bif decide (op = 0) then f else f &&& (-268437008)
noncomputable def vO (op dear : Int32) (f : Int64) (fu : Int32) : Q4 := bif decide (lg_cmp (fO op f &&& 17587891077120) 0 = 0) then (bif decide (lg_cmp (fO op f) 0 = 0) then (0, 0, fu, fO op f) else (baC fu (hnc (fO op f) op 30 + dear), hnc (fO op f) op 30 + dear, fu, fO op f)) else (8000 * xBc (fO op f &&& 17587891077120), 13 * xBc (fO op f &&& 17587891077120), fu, fO op f &&& 17587891077120)
noncomputable def bqC (μ : zM) : Q4 := (μ.1 14 0, μ.1 14 1, μ.1 14 2, μ.2.1 14 3)
noncomputable abbrev mdO : List (Nat × Nat) := [(14, 0), (14, 1), (14, 2), (14, 3), (14, 4)]
noncomputable def OQ (μ μ' : zM) (x : Q4) : Prop := a_Fz mdO μ μ' ∧ a_H μ' ∧ μ'.1 14 4 = μ.1 14 4 + 1 ∧ ((μ.1 14 4 + 1 = 1 ∧ bqC μ' = x) ∨ (¬ μ.1 14 4 + 1 = 1 ∧ BS (fun y => y = x) (bqC μ) (bqC μ')))
noncomputable def xBd (μ : zM) (b h f : Int32) (fo : Int64) : Bool := bif decide (b = (μ.1 14 0)) then bif decide (h = (μ.1 14 1)) then bif decide (f = (μ.1 14 2)) then !(decide ((lg_cmp fo (μ.2.1 14 3)) ≤ 0)) else !(decide (f ≤ (μ.1 14 2))) else !(decide (h ≤ (μ.1 14 1))) else !(decide (b ≤ (μ.1 14 0)))
theorem xBd_iff (μ : zM) (b h f : Int32) (fo : Int64) : xBd μ b h f fo = true ↔ g4 (b, h, f, fo) (bqC μ) := by
  unfold xBd g4 bqC
  rw [cmp_le]
  have le : ∀ x y : Int32, decide (x ≤ y) = !decide (y < x) := fun x y => by rw [← decide_not]; exact decide_eq_decide.mpr Int32.not_lt.symm
  rw [le, le, le]
  have irr : ∀ x : Int32, ¬ x < x := fun x => Int32.lt_irrefl
  by_cases h1 : b = μ.1 14 0 <;> by_cases h2 : h = μ.1 14 1 <;> by_cases h3 : f = μ.1 14 2 <;> simp [h1, h2, h3, irr]
theorem OQ_t {μ μ1 : zM} {b h f : Int32} {fo : Int64} (h1 : μ1 = z_ui μ 14 4 (μ.1 14 4 + 1)) (hH : a_H μ) (hg : μ.1 14 4 + 1 = 1 ∨ g4 (b, h, f, fo) (bqC μ1)) : OQ μ (z_uj (z_ui (z_ui (z_ui μ1 14 0 b) 14 1 h) 14 2 f) 14 3 fo) (b, h, f, fo) := by
  subst h1
  have e1 : bqC (z_ui μ 14 4 (μ.1 14 4 + 1)) = bqC μ := by
    unfold bqC
    rw [z_ui_rd, if_neg (by omega), z_ui_rd, if_neg (by omega), z_ui_rd, if_neg (by omega)]; rfl
  rw [e1] at hg
  have e2 : bqC (z_uj (z_ui (z_ui (z_ui (z_ui μ 14 4 (μ.1 14 4 + 1)) 14 0 b) 14 1 h) 14 2 f) 14 3 fo) = (b, h, f, fo) := by
    refine Prod.ext ?_ (Prod.ext ?_ (Prod.ext ?_ ?_))
    · show (z_ui (z_ui (z_ui (z_ui μ 14 4 (μ.1 14 4 + 1)) 14 0 b) 14 1 h) 14 2 f).1 14 0 = b; rw [z_ui_rd, if_neg (by omega), z_ui_rd, if_neg (by omega), z_ui_rd, if_pos ⟨rfl, rfl⟩]
    · show (z_ui (z_ui (z_ui (z_ui μ 14 4 (μ.1 14 4 + 1)) 14 0 b) 14 1 h) 14 2 f).1 14 1 = h; rw [z_ui_rd, if_neg (by omega), z_ui_rd, if_pos ⟨rfl, rfl⟩]
    · show (z_ui (z_ui (z_ui (z_ui μ 14 4 (μ.1 14 4 + 1)) 14 0 b) 14 1 h) 14 2 f).1 14 2 = f; rw [z_ui_rd, if_pos ⟨rfl, rfl⟩]
    · show (z_uj (z_ui (z_ui (z_ui (z_ui μ 14 4 (μ.1 14 4 + 1)) 14 0 b) 14 1 h) 14 2 f) 14 3 fo).2.1 14 3 = fo; rw [z_uj_rd, if_pos ⟨rfl, rfl⟩]
  refine ⟨a_Fz_uj (a_Fz_ui (a_Fz_ui (a_Fz_ui (a_Fz_ui (a_Fz_rf _ _) (by decide +kernel)) (by decide +kernel)) (by decide +kernel)) (by decide +kernel)) (by decide +kernel), a_H_uj (a_H_ui (a_H_ui (a_H_ui (a_H_ui hH (bI_top _)) (bI_top _)) (bI_top _)) (bI_top _)), ?_, ?_⟩
  · show (z_ui (z_ui (z_ui (z_ui μ 14 4 (μ.1 14 4 + 1)) 14 0 b) 14 1 h) 14 2 f).1 14 4 = _; rw [z_ui_rd, if_neg (by omega), z_ui_rd, if_neg (by omega), z_ui_rd, if_neg (by omega), z_ui_rd, if_pos ⟨rfl, rfl⟩]
  · by_cases c : μ.1 14 4 + 1 = 1
    · exact Or.inl ⟨c, e2⟩
    · exact Or.inr ⟨c, by rw [e2]; exact BS_one (Or.inl ⟨hg.resolve_left c, rfl⟩)⟩
theorem OQ_f {μ μ1 : zM} {x : Q4} (h1 : μ1 = z_ui μ 14 4 (μ.1 14 4 + 1)) (hH : a_H μ) (hn : ¬ μ.1 14 4 + 1 = 1) (hg : ¬ g4 x (bqC μ1)) : OQ μ μ1 x := by
  subst h1
  have e1 : bqC (z_ui μ 14 4 (μ.1 14 4 + 1)) = bqC μ := by
    unfold bqC
    rw [z_ui_rd, if_neg (by omega), z_ui_rd, if_neg (by omega), z_ui_rd, if_neg (by omega)]; rfl
  rw [e1] at hg
  exact ⟨a_Fz_ui (a_Fz_rf _ _) (by decide +kernel), a_H_ui hH (bI_top _), by rw [z_ui_rd, if_pos ⟨rfl, rfl⟩], Or.inr ⟨hn, by rw [e1]; exact BS_one (Or.inr ⟨hg, rfl⟩)⟩⟩
theorem zh_X1_offer : zH mi_X1_offer zt_X1_offer 79 1 10 := hh_X1_offer
theorem of108A (d' : Nat) (Z : zK) (hd : 2 ≤ d') (μ μ1 : zM) (hH0 : a_H μ) (hm1 : μ1 = z_ui μ 14 4 (μ.1 14 4 + 1)) (hc : z_clo z_x0 mi_X1_offer (z_C d') Z) (bb hh fu : Int32) (f fo g : Int64) (hr : z_ret mi_X1_offer (fun r μ' => r = none ∧ OQ μ μ' (bb, hh, fu, fo)) Z) : Z 0 108 [(9, .int bb), (8, .int hh), (6, .long g), (4, .long fo), (0, .ref 14), (1, .long f), (3, .int fu)] [] μ1 := by
  have hH := zh_X1_offer
  have e4 : μ1.1 14 4 = μ.1 14 4 + 1 := by rw [hm1, z_ui_rd, if_pos ⟨rfl, rfl⟩]
  refine z_rcs hc hH 3 (pc' := 113) (lv' := [(9, .int bb), (8, .int hh), (6, .long g), (4, .long fo), (0, .ref 14), (1, .long f), (3, .int fu)]) (st' := [.int 1, .int (μ1.1 14 4)]) (μ' := μ1) (by rfl) ?_
  refine zq_ic hc hH (by rfl) (tg := 130) (by rfl) (fun h1 => ?_) (fun h1 => ?_)
  · have h1 := cm_eq9.mp h1
    refine z_rcs hc hH 12 (pc' := 153) (lv' := [(9, .int bb), (8, .int hh), (6, .long g), (4, .long fo), (0, .ref 14), (1, .long f), (3, .int fu)]) (st' := []) (μ' := z_uj (z_ui (z_ui (z_ui μ1 14 0 bb) 14 1 hh) 14 2 fu) 14 3 fo) (by rfl) ?_
    exact hr 0 153 _ _ _ none (by decide +kernel) (by rfl) (⟨rfl, OQ_t hm1 hH0 (Or.inl (e4 ▸ h1))⟩)
  · have h1 := cn_eq.mp h1
    refine z_rcs hc hH 5 (pc' := 124) (lv' := [(9, .int bb), (8, .int hh), (6, .long g), (4, .long fo), (0, .ref 14), (1, .long f), (3, .int fu)]) (st' := [.long fo, .int fu, .int hh, .int bb, .ref 14]) (μ' := μ1) (by rfl) ?_
    refine zq_call hc (z_cx_ok hH (by rfl)) (fb_X1_isBetter d' (by omega) μ1 bb hh fu fo) (by decide +kernel) (fun r9 μ9 hq => ?_)
    obtain ⟨hμ9, rfl⟩ := hq
    rw [hμ9]
    clear hμ9 μ9
    show Z 0 127 [(9, .int bb), (8, .int hh), (6, .long g), (4, .long fo), (0, .ref 14), (1, .long f), (3, .int fu)] [.int (nB (xBd μ1 bb hh fu fo))] μ1
    have bt := xBd_iff μ1 bb hh fu fo
    generalize xBd μ1 bb hh fu fo = e at bt ⊢
    show Z 0 127 [(9, .int bb), (8, .int hh), (6, .long g), (4, .long fo), (0, .ref 14), (1, .long f), (3, .int fu)] [.int (nB e)] μ1
    refine zq_if hc hH (by rfl) (tg := 153) (by rfl) (fun h2 => ?_) (fun h2 => ?_)
    · have h2 := cm_eq9.mp h2
      exact hr 0 153 _ _ _ none (by decide +kernel) (by rfl) (⟨rfl, OQ_f hm1 hH0 (fun z => h1 (e4.trans z)) (fun z => nB_n.mpr (bt.mpr z) h2)⟩)
    · have h2 := cn_eq.mp h2
      refine z_rcs hc hH 12 (pc' := 153) (lv' := [(9, .int bb), (8, .int hh), (6, .long g), (4, .long fo), (0, .ref 14), (1, .long f), (3, .int fu)]) (st' := []) (μ' := z_uj (z_ui (z_ui (z_ui μ1 14 0 bb) 14 1 hh) 14 2 fu) 14 3 fo) (by rfl) ?_
      exact hr 0 153 _ _ _ none (by decide +kernel) (by rfl) (⟨rfl, OQ_t hm1 hH0 (Or.inr (bt.mp (nB_n.mp h2)))⟩)
theorem of108B (d' : Nat) (Z : zK) (hd : 2 ≤ d') (μ μ1 : zM) (hH0 : a_H μ) (hm1 : μ1 = z_ui μ 14 4 (μ.1 14 4 + 1)) (hc : z_clo z_x0 mi_X1_offer (z_C d') Z) (bb hh fu : Int32) (f fo g : Int64) (hr : z_ret mi_X1_offer (fun r μ' => r = none ∧ OQ μ μ' (bb, hh, fu, fo)) Z) : Z 0 108 [(9, .int bb), (8, .int hh), (4, .long fo), (6, .long g), (0, .ref 14), (1, .long f), (3, .int fu)] [] μ1 := by
  have hH := zh_X1_offer
  have e4 : μ1.1 14 4 = μ.1 14 4 + 1 := by rw [hm1, z_ui_rd, if_pos ⟨rfl, rfl⟩]
  refine z_rcs hc hH 3 (pc' := 113) (lv' := [(9, .int bb), (8, .int hh), (4, .long fo), (6, .long g), (0, .ref 14), (1, .long f), (3, .int fu)]) (st' := [.int 1, .int (μ1.1 14 4)]) (μ' := μ1) (by rfl) ?_
  refine zq_ic hc hH (by rfl) (tg := 130) (by rfl) (fun h1 => ?_) (fun h1 => ?_)
  · have h1 := cm_eq9.mp h1
    refine z_rcs hc hH 12 (pc' := 153) (lv' := [(9, .int bb), (8, .int hh), (4, .long fo), (6, .long g), (0, .ref 14), (1, .long f), (3, .int fu)]) (st' := []) (μ' := z_uj (z_ui (z_ui (z_ui μ1 14 0 bb) 14 1 hh) 14 2 fu) 14 3 fo) (by rfl) ?_
    exact hr 0 153 _ _ _ none (by decide +kernel) (by rfl) (⟨rfl, OQ_t hm1 hH0 (Or.inl (e4 ▸ h1))⟩)
  · have h1 := cn_eq.mp h1
    refine z_rcs hc hH 5 (pc' := 124) (lv' := [(9, .int bb), (8, .int hh), (4, .long fo), (6, .long g), (0, .ref 14), (1, .long f), (3, .int fu)]) (st' := [.long fo, .int fu, .int hh, .int bb, .ref 14]) (μ' := μ1) (by rfl) ?_
    refine zq_call hc (z_cx_ok hH (by rfl)) (fb_X1_isBetter d' (by omega) μ1 bb hh fu fo) (by decide +kernel) (fun r9 μ9 hq => ?_)
    obtain ⟨hμ9, rfl⟩ := hq
    rw [hμ9]
    clear hμ9 μ9
    show Z 0 127 [(9, .int bb), (8, .int hh), (4, .long fo), (6, .long g), (0, .ref 14), (1, .long f), (3, .int fu)] [.int (nB (xBd μ1 bb hh fu fo))] μ1
    have bt := xBd_iff μ1 bb hh fu fo
    generalize xBd μ1 bb hh fu fo = e at bt ⊢
    show Z 0 127 [(9, .int bb), (8, .int hh), (4, .long fo), (6, .long g), (0, .ref 14), (1, .long f), (3, .int fu)] [.int (nB e)] μ1
    refine zq_if hc hH (by rfl) (tg := 153) (by rfl) (fun h2 => ?_) (fun h2 => ?_)
    · have h2 := cm_eq9.mp h2
      exact hr 0 153 _ _ _ none (by decide +kernel) (by rfl) (⟨rfl, OQ_f hm1 hH0 (fun z => h1 (e4.trans z)) (fun z => nB_n.mpr (bt.mpr z) h2)⟩)
    · have h2 := cn_eq.mp h2
      refine z_rcs hc hH 12 (pc' := 153) (lv' := [(9, .int bb), (8, .int hh), (4, .long fo), (6, .long g), (0, .ref 14), (1, .long f), (3, .int fu)]) (st' := []) (μ' := z_uj (z_ui (z_ui (z_ui μ1 14 0 bb) 14 1 hh) 14 2 fu) 14 3 fo) (by rfl) ?_
      exact hr 0 153 _ _ _ none (by decide +kernel) (by rfl) (⟨rfl, OQ_t hm1 hH0 (Or.inr (bt.mp (nB_n.mp h2)))⟩)
theorem fb_X1_offer (d : Nat) (hd : 3 ≤ d) (μ : zM) (f : Int64) (fu : Int32) (hH0 : a_H μ) : z_C d mi_X1_offer [.ref 14, .long f, .int fu] μ (fun r μ' => r = none ∧ OQ μ μ' (vO (μ.1 14 8) (μ.1 14 11) f fu)) := by
  refine z_C_in (by decide) (by omega) (fun d' Z ed hc hr => ?_)
  have hH := zh_X1_offer
  refine z_rcs hc hH 6 (pc' := 10) (lv' := [(0, .ref 14), (1, .long f), (3, .int fu)]) (st' := []) (μ' := z_ui μ 14 4 ((μ.1 14 4) + 1)) (by rfl) ?_
  generalize hm : z_ui μ 14 4 ((μ.1 14 4) + 1) = μ1
  have hm1 : μ1 = z_ui μ 14 4 ((μ.1 14 4) + 1) := hm.symm
  have e8 : μ1.1 14 8 = μ.1 14 8 := by rw [hm1, z_ui_rd, if_neg (by omega)]
  have e11 : μ1.1 14 11 = μ.1 14 11 := by rw [hm1, z_ui_rd, if_neg (by omega)]
  rw [← e8, ← e11] at hr
  refine z_rcs hc hH 2 (pc' := 14) (lv' := [(0, .ref 14), (1, .long f), (3, .int fu)]) (st' := [.int (μ1.1 14 8)]) (μ' := μ1) (by rfl) ?_
  refine zq_if hc hH (by rfl) (tg := 25) (by rfl) (fun h1 => ?_) (fun h1 => ?_)
  · have h1 := cm_eq9.mp h1
    refine z_rcs hc hH 1 (pc' := 26) (lv' := [(0, .ref 14), (1, .long f), (3, .int fu)]) (st' := [.long f]) (μ' := μ1) (by rfl) ?_
    have ef : fO (μ1.1 14 8) f = f := by unfold fO; rw [decide_eq_true h1]; rfl
    refine zJ (lv := [(0, .ref 14), (1, .long f), (3, .int fu)]) (st := [.long (fO (μ1.1 14 8) f)]) (μ := μ1) ?_ rfl (by rw [ef]) rfl
    refine z_rcs hc hH 12 (pc' := 46) (lv' := [(9, .int 0), (8, .int 0), (6, .long ((fO (μ1.1 14 8) f) &&& 17587891077120)), (4, .long (fO (μ1.1 14 8) f)), (0, .ref 14), (1, .long f), (3, .int fu)]) (st' := [.int (lg_cmp ((fO (μ1.1 14 8) f) &&& 17587891077120) 0)]) (μ' := μ1) (by rfl) ?_
    refine zq_if hc hH (by rfl) (tg := 77) (by rfl) (fun h2 => ?_) (fun h2 => ?_)
    · have h2 := cm_eq9.mp h2
      refine z_rcs hc hH 3 (pc' := 81) (lv' := [(9, .int 0), (8, .int 0), (6, .long ((fO (μ1.1 14 8) f) &&& 17587891077120)), (4, .long (fO (μ1.1 14 8) f)), (0, .ref 14), (1, .long f), (3, .int fu)]) (st' := [.int (lg_cmp (fO (μ1.1 14 8) f) 0)]) (μ' := μ1) (by rfl) ?_
      refine zq_if hc hH (by rfl) (tg := 108) (by rfl) (fun h3 => ?_) (fun h3 => ?_)
      · have h3 := cm_eq9.mp h3
        have ev : vO (μ1.1 14 8) (μ1.1 14 11) f fu = (0, 0, fu, fO (μ1.1 14 8) f) := by unfold vO; rw [show decide (lg_cmp (fO (μ1.1 14 8) f &&& 17587891077120) 0 = 0) = true from decide_eq_true h2, show decide (lg_cmp (fO (μ1.1 14 8) f) 0 = 0) = true from decide_eq_true h3]; rfl
        rw [ev] at hr
        exact of108A d' Z (by omega) μ μ1 hH0 hm1 hc _ _ fu f _ _ hr
      · have h3 := cn_eq.mp h3
        refine z_rcs hc hH 3 (pc' := 90) (lv' := [(9, .int 0), (8, .int 0), (6, .long ((fO (μ1.1 14 8) f) &&& 17587891077120)), (4, .long (fO (μ1.1 14 8) f)), (0, .ref 14), (1, .long f), (3, .int fu)]) (st' := [.int (μ1.1 14 8), .long (fO (μ1.1 14 8) f)]) (μ' := μ1) (by rfl) ?_
        refine zq_call hc (z_cx_ok hH (by rfl)) (fb_X0_hanOf d' (by omega) μ1 (fO (μ1.1 14 8) f) (μ1.1 14 8)) (by decide +kernel) (fun r9 μ9 hq => ?_)
        obtain ⟨hμ9, rfl⟩ := hq
        rw [hμ9]
        clear hμ9 μ9
        show Z 0 93 [(9, .int 0), (8, .int 0), (6, .long ((fO (μ1.1 14 8) f) &&& 17587891077120)), (4, .long (fO (μ1.1 14 8) f)), (0, .ref 14), (1, .long f), (3, .int fu)] [.int (hnc (fO (μ1.1 14 8) f) (μ1.1 14 8) 30)] μ1
        refine z_rcs hc hH 6 (pc' := 103) (lv' := [(8, .int ((hnc (fO (μ1.1 14 8) f) (μ1.1 14 8) 30) + (μ1.1 14 11))), (9, .int 0), (6, .long ((fO (μ1.1 14 8) f) &&& 17587891077120)), (4, .long (fO (μ1.1 14 8) f)), (0, .ref 14), (1, .long f), (3, .int fu)]) (st' := [.int ((hnc (fO (μ1.1 14 8) f) (μ1.1 14 8) 30) + (μ1.1 14 11)), .int fu]) (μ' := μ1) (by rfl) ?_
        refine zq_call hc (z_cx_ok hH (by rfl)) (fb_X0_baseOf d' (by omega) μ1 fu ((hnc (fO (μ1.1 14 8) f) (μ1.1 14 8) 30) + (μ1.1 14 11))) (by decide +kernel) (fun r9 μ9 hq => ?_)
        obtain ⟨hμ9, rfl⟩ := hq
        rw [hμ9]
        clear hμ9 μ9
        show Z 0 106 [(8, .int ((hnc (fO (μ1.1 14 8) f) (μ1.1 14 8) 30) + (μ1.1 14 11))), (9, .int 0), (6, .long ((fO (μ1.1 14 8) f) &&& 17587891077120)), (4, .long (fO (μ1.1 14 8) f)), (0, .ref 14), (1, .long f), (3, .int fu)] [.int (baC fu ((hnc (fO (μ1.1 14 8) f) (μ1.1 14 8) 30) + (μ1.1 14 11)))] μ1
        refine z_rcs hc hH 1 (pc' := 108) (lv' := [(9, .int (baC fu ((hnc (fO (μ1.1 14 8) f) (μ1.1 14 8) 30) + (μ1.1 14 11)))), (8, .int ((hnc (fO (μ1.1 14 8) f) (μ1.1 14 8) 30) + (μ1.1 14 11))), (6, .long ((fO (μ1.1 14 8) f) &&& 17587891077120)), (4, .long (fO (μ1.1 14 8) f)), (0, .ref 14), (1, .long f), (3, .int fu)]) (st' := []) (μ' := μ1) (by rfl) ?_
        have ev : vO (μ1.1 14 8) (μ1.1 14 11) f fu = (baC fu ((hnc (fO (μ1.1 14 8) f) (μ1.1 14 8) 30) + (μ1.1 14 11)), (hnc (fO (μ1.1 14 8) f) (μ1.1 14 8) 30) + (μ1.1 14 11), fu, fO (μ1.1 14 8) f) := by unfold vO; rw [show decide (lg_cmp (fO (μ1.1 14 8) f &&& 17587891077120) 0 = 0) = true from decide_eq_true h2, show decide (lg_cmp (fO (μ1.1 14 8) f) 0 = 0) = false from decide_eq_false h3]; rfl
        rw [ev] at hr
        exact of108A d' Z (by omega) μ μ1 hH0 hm1 hc _ _ fu f _ _ hr
    · have h2 := cn_eq.mp h2
      refine z_rcs hc hH 4 (pc' := 57) (lv' := [(4, .long ((fO (μ1.1 14 8) f) &&& 17587891077120)), (9, .int 0), (8, .int 0), (6, .long ((fO (μ1.1 14 8) f) &&& 17587891077120)), (0, .ref 14), (1, .long f), (3, .int fu)]) (st' := [.long ((fO (μ1.1 14 8) f) &&& 17587891077120), .int 13]) (μ' := μ1) (by rfl) ?_
      refine zq_call hc (z_cx_ok hH (by rfl)) (fb_bitCount d' (by omega) μ1 ((fO (μ1.1 14 8) f) &&& 17587891077120)) (by decide +kernel) (fun r9 μ9 hq => ?_)
      obtain ⟨hμ9, rfl⟩ := hq
      rw [hμ9]
      clear hμ9 μ9
      show Z 0 60 [(4, .long ((fO (μ1.1 14 8) f) &&& 17587891077120)), (9, .int 0), (8, .int 0), (6, .long ((fO (μ1.1 14 8) f) &&& 17587891077120)), (0, .ref 14), (1, .long f), (3, .int fu)] [.int (xBc ((fO (μ1.1 14 8) f) &&& 17587891077120)), .int 13] μ1
      refine z_rcs hc hH 4 (pc' := 68) (lv' := [(8, .int (13 * (xBc ((fO (μ1.1 14 8) f) &&& 17587891077120)))), (4, .long ((fO (μ1.1 14 8) f) &&& 17587891077120)), (9, .int 0), (6, .long ((fO (μ1.1 14 8) f) &&& 17587891077120)), (0, .ref 14), (1, .long f), (3, .int fu)]) (st' := [.long ((fO (μ1.1 14 8) f) &&& 17587891077120), .int 8000]) (μ' := μ1) (by rfl) ?_
      refine zq_call hc (z_cx_ok hH (by rfl)) (fb_bitCount d' (by omega) μ1 ((fO (μ1.1 14 8) f) &&& 17587891077120)) (by decide +kernel) (fun r9 μ9 hq => ?_)
      obtain ⟨hμ9, rfl⟩ := hq
      rw [hμ9]
      clear hμ9 μ9
      show Z 0 71 [(8, .int (13 * (xBc ((fO (μ1.1 14 8) f) &&& 17587891077120)))), (4, .long ((fO (μ1.1 14 8) f) &&& 17587891077120)), (9, .int 0), (6, .long ((fO (μ1.1 14 8) f) &&& 17587891077120)), (0, .ref 14), (1, .long f), (3, .int fu)] [.int (xBc ((fO (μ1.1 14 8) f) &&& 17587891077120)), .int 8000] μ1
      refine z_rcs hc hH 3 (pc' := 108) (lv' := [(9, .int (8000 * (xBc ((fO (μ1.1 14 8) f) &&& 17587891077120)))), (8, .int (13 * (xBc ((fO (μ1.1 14 8) f) &&& 17587891077120)))), (4, .long ((fO (μ1.1 14 8) f) &&& 17587891077120)), (6, .long ((fO (μ1.1 14 8) f) &&& 17587891077120)), (0, .ref 14), (1, .long f), (3, .int fu)]) (st' := []) (μ' := μ1) (by rfl) ?_
      have ev : vO (μ1.1 14 8) (μ1.1 14 11) f fu = (8000 * (xBc ((fO (μ1.1 14 8) f) &&& 17587891077120)), 13 * (xBc ((fO (μ1.1 14 8) f) &&& 17587891077120)), fu, (fO (μ1.1 14 8) f) &&& 17587891077120) := by unfold vO; rw [show decide (lg_cmp (fO (μ1.1 14 8) f &&& 17587891077120) 0 = 0) = false from decide_eq_false h2]; rfl
      rw [ev] at hr
      exact of108B d' Z (by omega) μ μ1 hH0 hm1 hc _ _ fu f _ _ hr
  · have h1 := cn_eq.mp h1
    refine z_rcs hc hH 4 (pc' := 26) (lv' := [(0, .ref 14), (1, .long f), (3, .int fu)]) (st' := [.long (f &&& (-268437008))]) (μ' := μ1) (by rfl) ?_
    have ef : fO (μ1.1 14 8) f = f &&& (-268437008) := by unfold fO; rw [decide_eq_false h1]; rfl
    refine zJ (lv := [(0, .ref 14), (1, .long f), (3, .int fu)]) (st := [.long (fO (μ1.1 14 8) f)]) (μ := μ1) ?_ rfl (by rw [ef]) rfl
    refine z_rcs hc hH 12 (pc' := 46) (lv' := [(9, .int 0), (8, .int 0), (6, .long ((fO (μ1.1 14 8) f) &&& 17587891077120)), (4, .long (fO (μ1.1 14 8) f)), (0, .ref 14), (1, .long f), (3, .int fu)]) (st' := [.int (lg_cmp ((fO (μ1.1 14 8) f) &&& 17587891077120) 0)]) (μ' := μ1) (by rfl) ?_
    refine zq_if hc hH (by rfl) (tg := 77) (by rfl) (fun h4 => ?_) (fun h4 => ?_)
    · have h4 := cm_eq9.mp h4
      refine z_rcs hc hH 3 (pc' := 81) (lv' := [(9, .int 0), (8, .int 0), (6, .long ((fO (μ1.1 14 8) f) &&& 17587891077120)), (4, .long (fO (μ1.1 14 8) f)), (0, .ref 14), (1, .long f), (3, .int fu)]) (st' := [.int (lg_cmp (fO (μ1.1 14 8) f) 0)]) (μ' := μ1) (by rfl) ?_
      refine zq_if hc hH (by rfl) (tg := 108) (by rfl) (fun h5 => ?_) (fun h5 => ?_)
      · have h5 := cm_eq9.mp h5
        have ev : vO (μ1.1 14 8) (μ1.1 14 11) f fu = (0, 0, fu, fO (μ1.1 14 8) f) := by unfold vO; rw [show decide (lg_cmp (fO (μ1.1 14 8) f &&& 17587891077120) 0 = 0) = true from decide_eq_true h4, show decide (lg_cmp (fO (μ1.1 14 8) f) 0 = 0) = true from decide_eq_true h5]; rfl
        rw [ev] at hr
        exact of108A d' Z (by omega) μ μ1 hH0 hm1 hc _ _ fu f _ _ hr
      · have h5 := cn_eq.mp h5
        refine z_rcs hc hH 3 (pc' := 90) (lv' := [(9, .int 0), (8, .int 0), (6, .long ((fO (μ1.1 14 8) f) &&& 17587891077120)), (4, .long (fO (μ1.1 14 8) f)), (0, .ref 14), (1, .long f), (3, .int fu)]) (st' := [.int (μ1.1 14 8), .long (fO (μ1.1 14 8) f)]) (μ' := μ1) (by rfl) ?_
        refine zq_call hc (z_cx_ok hH (by rfl)) (fb_X0_hanOf d' (by omega) μ1 (fO (μ1.1 14 8) f) (μ1.1 14 8)) (by decide +kernel) (fun r9 μ9 hq => ?_)
        obtain ⟨hμ9, rfl⟩ := hq
        rw [hμ9]
        clear hμ9 μ9
        show Z 0 93 [(9, .int 0), (8, .int 0), (6, .long ((fO (μ1.1 14 8) f) &&& 17587891077120)), (4, .long (fO (μ1.1 14 8) f)), (0, .ref 14), (1, .long f), (3, .int fu)] [.int (hnc (fO (μ1.1 14 8) f) (μ1.1 14 8) 30)] μ1
        refine z_rcs hc hH 6 (pc' := 103) (lv' := [(8, .int ((hnc (fO (μ1.1 14 8) f) (μ1.1 14 8) 30) + (μ1.1 14 11))), (9, .int 0), (6, .long ((fO (μ1.1 14 8) f) &&& 17587891077120)), (4, .long (fO (μ1.1 14 8) f)), (0, .ref 14), (1, .long f), (3, .int fu)]) (st' := [.int ((hnc (fO (μ1.1 14 8) f) (μ1.1 14 8) 30) + (μ1.1 14 11)), .int fu]) (μ' := μ1) (by rfl) ?_
        refine zq_call hc (z_cx_ok hH (by rfl)) (fb_X0_baseOf d' (by omega) μ1 fu ((hnc (fO (μ1.1 14 8) f) (μ1.1 14 8) 30) + (μ1.1 14 11))) (by decide +kernel) (fun r9 μ9 hq => ?_)
        obtain ⟨hμ9, rfl⟩ := hq
        rw [hμ9]
        clear hμ9 μ9
        show Z 0 106 [(8, .int ((hnc (fO (μ1.1 14 8) f) (μ1.1 14 8) 30) + (μ1.1 14 11))), (9, .int 0), (6, .long ((fO (μ1.1 14 8) f) &&& 17587891077120)), (4, .long (fO (μ1.1 14 8) f)), (0, .ref 14), (1, .long f), (3, .int fu)] [.int (baC fu ((hnc (fO (μ1.1 14 8) f) (μ1.1 14 8) 30) + (μ1.1 14 11)))] μ1
        refine z_rcs hc hH 1 (pc' := 108) (lv' := [(9, .int (baC fu ((hnc (fO (μ1.1 14 8) f) (μ1.1 14 8) 30) + (μ1.1 14 11)))), (8, .int ((hnc (fO (μ1.1 14 8) f) (μ1.1 14 8) 30) + (μ1.1 14 11))), (6, .long ((fO (μ1.1 14 8) f) &&& 17587891077120)), (4, .long (fO (μ1.1 14 8) f)), (0, .ref 14), (1, .long f), (3, .int fu)]) (st' := []) (μ' := μ1) (by rfl) ?_
        have ev : vO (μ1.1 14 8) (μ1.1 14 11) f fu = (baC fu ((hnc (fO (μ1.1 14 8) f) (μ1.1 14 8) 30) + (μ1.1 14 11)), (hnc (fO (μ1.1 14 8) f) (μ1.1 14 8) 30) + (μ1.1 14 11), fu, fO (μ1.1 14 8) f) := by unfold vO; rw [show decide (lg_cmp (fO (μ1.1 14 8) f &&& 17587891077120) 0 = 0) = true from decide_eq_true h4, show decide (lg_cmp (fO (μ1.1 14 8) f) 0 = 0) = false from decide_eq_false h5]; rfl
        rw [ev] at hr
        exact of108A d' Z (by omega) μ μ1 hH0 hm1 hc _ _ fu f _ _ hr
    · have h4 := cn_eq.mp h4
      refine z_rcs hc hH 4 (pc' := 57) (lv' := [(4, .long ((fO (μ1.1 14 8) f) &&& 17587891077120)), (9, .int 0), (8, .int 0), (6, .long ((fO (μ1.1 14 8) f) &&& 17587891077120)), (0, .ref 14), (1, .long f), (3, .int fu)]) (st' := [.long ((fO (μ1.1 14 8) f) &&& 17587891077120), .int 13]) (μ' := μ1) (by rfl) ?_
      refine zq_call hc (z_cx_ok hH (by rfl)) (fb_bitCount d' (by omega) μ1 ((fO (μ1.1 14 8) f) &&& 17587891077120)) (by decide +kernel) (fun r9 μ9 hq => ?_)
      obtain ⟨hμ9, rfl⟩ := hq
      rw [hμ9]
      clear hμ9 μ9
      show Z 0 60 [(4, .long ((fO (μ1.1 14 8) f) &&& 17587891077120)), (9, .int 0), (8, .int 0), (6, .long ((fO (μ1.1 14 8) f) &&& 17587891077120)), (0, .ref 14), (1, .long f), (3, .int fu)] [.int (xBc ((fO (μ1.1 14 8) f) &&& 17587891077120)), .int 13] μ1
      refine z_rcs hc hH 4 (pc' := 68) (lv' := [(8, .int (13 * (xBc ((fO (μ1.1 14 8) f) &&& 17587891077120)))), (4, .long ((fO (μ1.1 14 8) f) &&& 17587891077120)), (9, .int 0), (6, .long ((fO (μ1.1 14 8) f) &&& 17587891077120)), (0, .ref 14), (1, .long f), (3, .int fu)]) (st' := [.long ((fO (μ1.1 14 8) f) &&& 17587891077120), .int 8000]) (μ' := μ1) (by rfl) ?_
      refine zq_call hc (z_cx_ok hH (by rfl)) (fb_bitCount d' (by omega) μ1 ((fO (μ1.1 14 8) f) &&& 17587891077120)) (by decide +kernel) (fun r9 μ9 hq => ?_)
      obtain ⟨hμ9, rfl⟩ := hq
      rw [hμ9]
      clear hμ9 μ9
      show Z 0 71 [(8, .int (13 * (xBc ((fO (μ1.1 14 8) f) &&& 17587891077120)))), (4, .long ((fO (μ1.1 14 8) f) &&& 17587891077120)), (9, .int 0), (6, .long ((fO (μ1.1 14 8) f) &&& 17587891077120)), (0, .ref 14), (1, .long f), (3, .int fu)] [.int (xBc ((fO (μ1.1 14 8) f) &&& 17587891077120)), .int 8000] μ1
      refine z_rcs hc hH 3 (pc' := 108) (lv' := [(9, .int (8000 * (xBc ((fO (μ1.1 14 8) f) &&& 17587891077120)))), (8, .int (13 * (xBc ((fO (μ1.1 14 8) f) &&& 17587891077120)))), (4, .long ((fO (μ1.1 14 8) f) &&& 17587891077120)), (6, .long ((fO (μ1.1 14 8) f) &&& 17587891077120)), (0, .ref 14), (1, .long f), (3, .int fu)]) (st' := []) (μ' := μ1) (by rfl) ?_
      have ev : vO (μ1.1 14 8) (μ1.1 14 11) f fu = (8000 * (xBc ((fO (μ1.1 14 8) f) &&& 17587891077120)), 13 * (xBc ((fO (μ1.1 14 8) f) &&& 17587891077120)), fu, (fO (μ1.1 14 8) f) &&& 17587891077120) := by unfold vO; rw [show decide (lg_cmp (fO (μ1.1 14 8) f &&& 17587891077120) 0 = 0) = false from decide_eq_false h4]; rfl
      rw [ev] at hr
      exact of108B d' Z (by omega) μ μ1 hH0 hm1 hc _ _ fu f _ _ hr
theorem zh_X1_weighCompleted : zH mi_X1_weighCompleted zt_X1_weighCompleted 79 1 8 := hh_X1_weighCompleted
noncomputable def wFl (μ : zM) (cc wf : Int32) : Bool := (decide ((lg_cmp (μ.2.1 14 17) 0) = 0)) && ((decide ((μ.1 14 8) = 0)) && ((decide ((xPf μ) = 0)) && (!(decide (4 ≤ cc)) && (decide (wf = 0)))))
noncomputable def wHi (μ : zM) (hb0 hb1 hb2 hb3 : Bool) : Int32 := (((0 + (nB (!(decide ((μ.1 15 0) = 0)) && hb0))) + (nB (!(decide ((μ.1 15 1) = 0)) && hb1))) + (nB (!(decide ((μ.1 15 2) = 0)) && hb2))) + (nB (!(decide ((μ.1 15 3) = 0)) && hb3))
noncomputable def wMo (fl : Bool) (hi : Int32) : Int64 := ((lb fl 9) ||| (lb (decide (hi = 3)) 20)) ||| (lb (decide (hi = 4)) 33)
noncomputable def vW (μ : zM) (f : Int64) (cc wf : Int32) (hb0 hb1 hb2 hb3 : Bool) : Q4 := vO (μ.1 14 8) (μ.1 14 11) (f ||| wMo (wFl μ cc wf) (wHi μ hb0 hb1 hb2 hb3)) (fuC μ (wFl μ cc wf) wf hb0 hb1 hb2 hb3)
theorem fb_X1_weighCompleted (d : Nat) (hd : 4 ≤ d) (μ : zM) (hH0 : a_H μ) (f : Int64) (cc wf : Int32) (hwf : ∀ d, 1 ≤ d → z_C d mi_X1_waitFu [.ref 14, .int cc] μ (zR μ (.int wf))) (hb0 : Bool) (hhd0 : ∀ d, 1 ≤ d → z_C d mi_X1_isHidden [.ref 14, .int 0, .int cc] μ (zR μ (.int (nB hb0)))) (hb1 : Bool) (hhd1 : ∀ d, 1 ≤ d → z_C d mi_X1_isHidden [.ref 14, .int 1, .int cc] μ (zR μ (.int (nB hb1)))) (hb2 : Bool) (hhd2 : ∀ d, 1 ≤ d → z_C d mi_X1_isHidden [.ref 14, .int 2, .int cc] μ (zR μ (.int (nB hb2)))) (hb3 : Bool) (hhd3 : ∀ d, 1 ≤ d → z_C d mi_X1_isHidden [.ref 14, .int 3, .int cc] μ (zR μ (.int (nB hb3)))) : z_C d mi_X1_weighCompleted [.ref 14, .long f, .int cc] μ (fun r μ' => r = none ∧ OQ μ μ' (vW μ f cc wf hb0 hb1 hb2 hb3)) := by
  refine z_C_in (by decide) (by omega) (fun d' Z ed hc hr => ?_)
  have hH := zh_X1_weighCompleted
  refine z_rcs hc hH 11 (pc' := 20) (lv' := [(5, .int 0), (4, .int 0), (0, .ref 14), (1, .long f), (3, .int cc)]) (st' := [.int 0, .ref 15, .int 0]) (μ' := μ) (by rfl) ?_
  refine zq_iald hc hH (by rfl) 4 (by decide +kernel) (show vp_in (nI 0) 4 from vp_in_nI (by decide) (by decide)) ?_
  show Z 0 21 [(5, .int 0), (4, .int 0), (0, .ref 14), (1, .long f), (3, .int cc)] [.int (μ.1 15 0), .int 0] μ
  have hJ1 : Z 0 39 [(5, .int 0), (4, .int 0), (0, .ref 14), (1, .long f), (3, .int cc)] [.int (nB (!(decide ((μ.1 15 0) = 0)) && hb0)), .int 0] μ := by
    refine z_rcs hc hH 11 (pc' := 20) (lv' := [(5, .int 1), (4, .int (0 + (nB (!(decide ((μ.1 15 0) = 0)) && hb0)))), (0, .ref 14), (1, .long f), (3, .int cc)]) (st' := [.int 1, .ref 15, .int (0 + (nB (!(decide ((μ.1 15 0) = 0)) && hb0)))]) (μ' := μ) (by rfl) ?_
    refine zq_iald hc hH (by rfl) 4 (by decide +kernel) (show vp_in (nI 1) 4 from vp_in_nI (by decide) (by decide)) ?_
    show Z 0 21 [(5, .int 1), (4, .int (0 + (nB (!(decide ((μ.1 15 0) = 0)) && hb0)))), (0, .ref 14), (1, .long f), (3, .int cc)] [.int (μ.1 15 1), .int (0 + (nB (!(decide ((μ.1 15 0) = 0)) && hb0)))] μ
    have hJ2 : Z 0 39 [(5, .int 1), (4, .int (0 + (nB (!(decide ((μ.1 15 0) = 0)) && hb0)))), (0, .ref 14), (1, .long f), (3, .int cc)] [.int (nB (!(decide ((μ.1 15 1) = 0)) && hb1)), .int (0 + (nB (!(decide ((μ.1 15 0) = 0)) && hb0)))] μ := by
      refine z_rcs hc hH 11 (pc' := 20) (lv' := [(5, .int 2), (4, .int ((0 + (nB (!(decide ((μ.1 15 0) = 0)) && hb0))) + (nB (!(decide ((μ.1 15 1) = 0)) && hb1)))), (0, .ref 14), (1, .long f), (3, .int cc)]) (st' := [.int 2, .ref 15, .int ((0 + (nB (!(decide ((μ.1 15 0) = 0)) && hb0))) + (nB (!(decide ((μ.1 15 1) = 0)) && hb1)))]) (μ' := μ) (by rfl) ?_
      refine zq_iald hc hH (by rfl) 4 (by decide +kernel) (show vp_in (nI 2) 4 from vp_in_nI (by decide) (by decide)) ?_
      show Z 0 21 [(5, .int 2), (4, .int ((0 + (nB (!(decide ((μ.1 15 0) = 0)) && hb0))) + (nB (!(decide ((μ.1 15 1) = 0)) && hb1)))), (0, .ref 14), (1, .long f), (3, .int cc)] [.int (μ.1 15 2), .int ((0 + (nB (!(decide ((μ.1 15 0) = 0)) && hb0))) + (nB (!(decide ((μ.1 15 1) = 0)) && hb1)))] μ
      have hJ3 : Z 0 39 [(5, .int 2), (4, .int ((0 + (nB (!(decide ((μ.1 15 0) = 0)) && hb0))) + (nB (!(decide ((μ.1 15 1) = 0)) && hb1)))), (0, .ref 14), (1, .long f), (3, .int cc)] [.int (nB (!(decide ((μ.1 15 2) = 0)) && hb2)), .int ((0 + (nB (!(decide ((μ.1 15 0) = 0)) && hb0))) + (nB (!(decide ((μ.1 15 1) = 0)) && hb1)))] μ := by
        refine z_rcs hc hH 11 (pc' := 20) (lv' := [(5, .int 3), (4, .int (((0 + (nB (!(decide ((μ.1 15 0) = 0)) && hb0))) + (nB (!(decide ((μ.1 15 1) = 0)) && hb1))) + (nB (!(decide ((μ.1 15 2) = 0)) && hb2)))), (0, .ref 14), (1, .long f), (3, .int cc)]) (st' := [.int 3, .ref 15, .int (((0 + (nB (!(decide ((μ.1 15 0) = 0)) && hb0))) + (nB (!(decide ((μ.1 15 1) = 0)) && hb1))) + (nB (!(decide ((μ.1 15 2) = 0)) && hb2)))]) (μ' := μ) (by rfl) ?_
        refine zq_iald hc hH (by rfl) 4 (by decide +kernel) (show vp_in (nI 3) 4 from vp_in_nI (by decide) (by decide)) ?_
        show Z 0 21 [(5, .int 3), (4, .int (((0 + (nB (!(decide ((μ.1 15 0) = 0)) && hb0))) + (nB (!(decide ((μ.1 15 1) = 0)) && hb1))) + (nB (!(decide ((μ.1 15 2) = 0)) && hb2)))), (0, .ref 14), (1, .long f), (3, .int cc)] [.int (μ.1 15 3), .int (((0 + (nB (!(decide ((μ.1 15 0) = 0)) && hb0))) + (nB (!(decide ((μ.1 15 1) = 0)) && hb1))) + (nB (!(decide ((μ.1 15 2) = 0)) && hb2)))] μ
        have hJ4 : Z 0 39 [(5, .int 3), (4, .int (((0 + (nB (!(decide ((μ.1 15 0) = 0)) && hb0))) + (nB (!(decide ((μ.1 15 1) = 0)) && hb1))) + (nB (!(decide ((μ.1 15 2) = 0)) && hb2)))), (0, .ref 14), (1, .long f), (3, .int cc)] [.int (nB (!(decide ((μ.1 15 3) = 0)) && hb3)), .int (((0 + (nB (!(decide ((μ.1 15 0) = 0)) && hb0))) + (nB (!(decide ((μ.1 15 1) = 0)) && hb1))) + (nB (!(decide ((μ.1 15 2) = 0)) && hb2)))] μ := by
          generalize hyy5 : (((0 + (nB (!(decide ((μ.1 15 0) = 0)) && hb0))) + (nB (!(decide ((μ.1 15 1) = 0)) && hb1))) + (nB (!(decide ((μ.1 15 2) = 0)) && hb2)) : Int32) = yy5
          refine z_rcs hc hH 11 (pc' := 54) (lv' := [(5, .int 4), (4, .int (yy5 + (nB (!(decide ((μ.1 15 3) = 0)) && hb3)))), (0, .ref 14), (1, .long f), (3, .int cc)]) (st' := [.int (lg_cmp (μ.2.1 14 17) 0)]) (μ' := μ) (by rfl) ?_
          have hJ6 : Z 0 89 [(5, .int 4), (4, .int (yy5 + (nB (!(decide ((μ.1 15 3) = 0)) && hb3)))), (0, .ref 14), (1, .long f), (3, .int cc)] [.int (nB ((decide ((lg_cmp (μ.2.1 14 17) 0) = 0)) && ((decide ((μ.1 14 8) = 0)) && ((decide ((xPf μ) = 0)) && (!(decide (4 ≤ cc)) && (decide (wf = 0)))))))] μ := by
            generalize hee7 : ((decide ((lg_cmp (μ.2.1 14 17) 0) = 0)) && ((decide ((μ.1 14 8) = 0)) && ((decide ((xPf μ) = 0)) && (!(decide (4 ≤ cc)) && (decide (wf = 0)))))) = ee7
            refine z_rcs hc hH 3 (pc' := 95) (lv' := [(5, .int (nB ee7)), (4, .int (yy5 + (nB (!(decide ((μ.1 15 3) = 0)) && hb3)))), (0, .ref 14), (1, .long f), (3, .int cc)]) (st' := [.int 9, .int (nB ee7)]) (μ' := μ) (by rfl) ?_
            refine zq_call hc (z_cx_ok hH (by rfl)) (fb_X1_bit d' (by omega) μ ee7 9) (by decide +kernel) (fun r9 μ9 hq => ?_)
            obtain ⟨hμ9, rfl⟩ := hq
            rw [hμ9]
            clear hμ9 μ9
            show Z 0 98 [(5, .int (nB ee7)), (4, .int (yy5 + (nB (!(decide ((μ.1 15 3) = 0)) && hb3)))), (0, .ref 14), (1, .long f), (3, .int cc)] [.long (lb ee7 9)] μ
            refine z_rcs hc hH 2 (pc' := 101) (lv' := [(5, .int (nB ee7)), (4, .int (yy5 + (nB (!(decide ((μ.1 15 3) = 0)) && hb3)))), (0, .ref 14), (1, .long f), (3, .int cc)]) (st' := [.int 3, .int (yy5 + (nB (!(decide ((μ.1 15 3) = 0)) && hb3))), .long (lb ee7 9)]) (μ' := μ) (by rfl) ?_
            have hJ8 : Z 0 109 [(5, .int (nB ee7)), (4, .int (yy5 + (nB (!(decide ((μ.1 15 3) = 0)) && hb3)))), (0, .ref 14), (1, .long f), (3, .int cc)] [.int (nB (decide ((yy5 + (nB (!(decide ((μ.1 15 3) = 0)) && hb3))) = 3))), .long (lb ee7 9)] μ := by
              refine z_rcs hc hH 1 (pc' := 111) (lv' := [(5, .int (nB ee7)), (4, .int (yy5 + (nB (!(decide ((μ.1 15 3) = 0)) && hb3)))), (0, .ref 14), (1, .long f), (3, .int cc)]) (st' := [.int 20, .int (nB (decide ((yy5 + (nB (!(decide ((μ.1 15 3) = 0)) && hb3))) = 3))), .long (lb ee7 9)]) (μ' := μ) (by rfl) ?_
              refine zq_call hc (z_cx_ok hH (by rfl)) (fb_X1_bit d' (by omega) μ (decide ((yy5 + (nB (!(decide ((μ.1 15 3) = 0)) && hb3))) = 3)) 20) (by decide +kernel) (fun r9 μ9 hq => ?_)
              obtain ⟨hμ9, rfl⟩ := hq
              rw [hμ9]
              clear hμ9 μ9
              show Z 0 114 [(5, .int (nB ee7)), (4, .int (yy5 + (nB (!(decide ((μ.1 15 3) = 0)) && hb3)))), (0, .ref 14), (1, .long f), (3, .int cc)] [.long (lb (decide ((yy5 + (nB (!(decide ((μ.1 15 3) = 0)) && hb3))) = 3)) 20), .long (lb ee7 9)] μ
              refine z_rcs hc hH 3 (pc' := 118) (lv' := [(5, .int (nB ee7)), (4, .int (yy5 + (nB (!(decide ((μ.1 15 3) = 0)) && hb3)))), (0, .ref 14), (1, .long f), (3, .int cc)]) (st' := [.int 4, .int (yy5 + (nB (!(decide ((μ.1 15 3) = 0)) && hb3))), .long ((lb ee7 9) ||| (lb (decide ((yy5 + (nB (!(decide ((μ.1 15 3) = 0)) && hb3))) = 3)) 20))]) (μ' := μ) (by rfl) ?_
              have hJ9 : Z 0 126 [(5, .int (nB ee7)), (4, .int (yy5 + (nB (!(decide ((μ.1 15 3) = 0)) && hb3)))), (0, .ref 14), (1, .long f), (3, .int cc)] [.int (nB (decide ((yy5 + (nB (!(decide ((μ.1 15 3) = 0)) && hb3))) = 4))), .long ((lb ee7 9) ||| (lb (decide ((yy5 + (nB (!(decide ((μ.1 15 3) = 0)) && hb3))) = 3)) 20))] μ := by
                refine z_rcs hc hH 1 (pc' := 128) (lv' := [(5, .int (nB ee7)), (4, .int (yy5 + (nB (!(decide ((μ.1 15 3) = 0)) && hb3)))), (0, .ref 14), (1, .long f), (3, .int cc)]) (st' := [.int 33, .int (nB (decide ((yy5 + (nB (!(decide ((μ.1 15 3) = 0)) && hb3))) = 4))), .long ((lb ee7 9) ||| (lb (decide ((yy5 + (nB (!(decide ((μ.1 15 3) = 0)) && hb3))) = 3)) 20))]) (μ' := μ) (by rfl) ?_
                refine zq_call hc (z_cx_ok hH (by rfl)) (fb_X1_bit d' (by omega) μ (decide ((yy5 + (nB (!(decide ((μ.1 15 3) = 0)) && hb3))) = 4)) 33) (by decide +kernel) (fun r9 μ9 hq => ?_)
                obtain ⟨hμ9, rfl⟩ := hq
                rw [hμ9]
                clear hμ9 μ9
                show Z 0 131 [(5, .int (nB ee7)), (4, .int (yy5 + (nB (!(decide ((μ.1 15 3) = 0)) && hb3)))), (0, .ref 14), (1, .long f), (3, .int cc)] [.long (lb (decide ((yy5 + (nB (!(decide ((μ.1 15 3) = 0)) && hb3))) = 4)) 33), .long ((lb ee7 9) ||| (lb (decide ((yy5 + (nB (!(decide ((μ.1 15 3) = 0)) && hb3))) = 3)) 20))] μ
                refine z_rcs hc hH 9 (pc' := 143) (lv' := [(6, .long (((lb ee7 9) ||| (lb (decide ((yy5 + (nB (!(decide ((μ.1 15 3) = 0)) && hb3))) = 3)) 20)) ||| (lb (decide ((yy5 + (nB (!(decide ((μ.1 15 3) = 0)) && hb3))) = 4)) 33))), (5, .int (nB ee7)), (4, .int (yy5 + (nB (!(decide ((μ.1 15 3) = 0)) && hb3)))), (0, .ref 14), (1, .long f), (3, .int cc)]) (st' := [.int (nB ee7), .int cc, .ref 14, .long (f ||| (((lb ee7 9) ||| (lb (decide ((yy5 + (nB (!(decide ((μ.1 15 3) = 0)) && hb3))) = 3)) 20)) ||| (lb (decide ((yy5 + (nB (!(decide ((μ.1 15 3) = 0)) && hb3))) = 4)) 33))), .ref 14]) (μ' := μ) (by rfl) ?_
                refine zq_call hc (z_cx_ok hH (by rfl)) (fb_X1_fuOf d' (by omega) μ ee7 cc wf hwf hb0 hhd0 hb1 hhd1 hb2 hhd2 hb3 hhd3) (by decide +kernel) (fun r9 μ9 hq => ?_)
                obtain ⟨hμ9, rfl⟩ := hq
                rw [hμ9]
                clear hμ9 μ9
                show Z 0 146 [(6, .long (((lb ee7 9) ||| (lb (decide ((yy5 + (nB (!(decide ((μ.1 15 3) = 0)) && hb3))) = 3)) 20)) ||| (lb (decide ((yy5 + (nB (!(decide ((μ.1 15 3) = 0)) && hb3))) = 4)) 33))), (5, .int (nB ee7)), (4, .int (yy5 + (nB (!(decide ((μ.1 15 3) = 0)) && hb3)))), (0, .ref 14), (1, .long f), (3, .int cc)] [.int (fuC μ ee7 wf hb0 hb1 hb2 hb3), .long (f ||| (((lb ee7 9) ||| (lb (decide ((yy5 + (nB (!(decide ((μ.1 15 3) = 0)) && hb3))) = 3)) 20)) ||| (lb (decide ((yy5 + (nB (!(decide ((μ.1 15 3) = 0)) && hb3))) = 4)) 33))), .ref 14] μ
                subst hee7
                subst hyy5
                refine zq_call hc (z_cx_ok hH (by rfl)) (fb_X1_offer d' (by omega) μ (f ||| wMo (wFl μ cc wf) (wHi μ hb0 hb1 hb2 hb3)) (fuC μ (wFl μ cc wf) wf hb0 hb1 hb2 hb3) hH0) (by decide +kernel) (fun r9 μ9 hq => ?_)
                obtain ⟨rfl, hq⟩ := hq
                exact hr 0 149 _ _ _ none (by decide +kernel) (by rfl) ⟨rfl, hq⟩
              refine zq_ic hc hH (by rfl) (tg := 125) (by rfl) (fun h10 => ?_) (fun h10 => ?_)
              · have h10 : (decide ((yy5 + (nB (!(decide ((μ.1 15 3) = 0)) && hb3))) = 4)) = false := decide_eq_false (cm_ne.mp h10)
                refine z_rcs hc hH 1 (pc' := 126) (lv' := [(5, .int (nB ee7)), (4, .int (yy5 + (nB (!(decide ((μ.1 15 3) = 0)) && hb3)))), (0, .ref 14), (1, .long f), (3, .int cc)]) (st' := [.int 0, .long ((lb ee7 9) ||| (lb (decide ((yy5 + (nB (!(decide ((μ.1 15 3) = 0)) && hb3))) = 3)) 20))]) (μ' := μ) (by rfl) ?_
                exact zJ hJ9 rfl (by first | with_reducible rfl | (simp only [h10, lb_f, Int64.or_zero, Int32.add_zero, nB_t, nB_f, Bool.not_true, Bool.not_false, Bool.and_true, Bool.true_and, Bool.false_and, Bool.and_false, Bool.or_true, Bool.true_or, Bool.false_or, Bool.or_false, cond_true, cond_false]; done) | rfl) rfl
              · have h10 : (decide ((yy5 + (nB (!(decide ((μ.1 15 3) = 0)) && hb3))) = 4)) = true := decide_eq_true (cn_ne.mp h10)
                refine z_rcs hc hH 2 (pc' := 126) (lv' := [(5, .int (nB ee7)), (4, .int (yy5 + (nB (!(decide ((μ.1 15 3) = 0)) && hb3)))), (0, .ref 14), (1, .long f), (3, .int cc)]) (st' := [.int 1, .long ((lb ee7 9) ||| (lb (decide ((yy5 + (nB (!(decide ((μ.1 15 3) = 0)) && hb3))) = 3)) 20))]) (μ' := μ) (by rfl) ?_
                exact zJ hJ9 rfl (by first | with_reducible rfl | (simp only [h10, lb_f, Int64.or_zero, Int32.add_zero, nB_t, nB_f, Bool.not_true, Bool.not_false, Bool.and_true, Bool.true_and, Bool.false_and, Bool.and_false, Bool.or_true, Bool.true_or, Bool.false_or, Bool.or_false, cond_true, cond_false]; done) | rfl) rfl
            refine zq_ic hc hH (by rfl) (tg := 108) (by rfl) (fun h11 => ?_) (fun h11 => ?_)
            · have h11 : (decide ((yy5 + (nB (!(decide ((μ.1 15 3) = 0)) && hb3))) = 3)) = false := decide_eq_false (cm_ne.mp h11)
              refine z_rcs hc hH 1 (pc' := 109) (lv' := [(5, .int (nB ee7)), (4, .int (yy5 + (nB (!(decide ((μ.1 15 3) = 0)) && hb3)))), (0, .ref 14), (1, .long f), (3, .int cc)]) (st' := [.int 0, .long (lb ee7 9)]) (μ' := μ) (by rfl) ?_
              exact zJ hJ8 rfl (by first | with_reducible rfl | (simp only [h11, lb_f, Int64.or_zero, Int32.add_zero, nB_t, nB_f, Bool.not_true, Bool.not_false, Bool.and_true, Bool.true_and, Bool.false_and, Bool.and_false, Bool.or_true, Bool.true_or, Bool.false_or, Bool.or_false, cond_true, cond_false]; done) | rfl) rfl
            · have h11 : (decide ((yy5 + (nB (!(decide ((μ.1 15 3) = 0)) && hb3))) = 3)) = true := decide_eq_true (cn_ne.mp h11)
              refine z_rcs hc hH 2 (pc' := 109) (lv' := [(5, .int (nB ee7)), (4, .int (yy5 + (nB (!(decide ((μ.1 15 3) = 0)) && hb3)))), (0, .ref 14), (1, .long f), (3, .int cc)]) (st' := [.int 1, .long (lb ee7 9)]) (μ' := μ) (by rfl) ?_
              exact zJ hJ8 rfl (by first | with_reducible rfl | (simp only [h11, lb_f, Int64.or_zero, Int32.add_zero, nB_t, nB_f, Bool.not_true, Bool.not_false, Bool.and_true, Bool.true_and, Bool.false_and, Bool.and_false, Bool.or_true, Bool.true_or, Bool.false_or, Bool.or_false, cond_true, cond_false]; done) | rfl) rfl
          refine zq_if hc hH (by rfl) (tg := 88) (by rfl) (fun h12 => ?_) (fun h12 => ?_)
          · have h12 : (decide ((lg_cmp (μ.2.1 14 17) 0) = 0)) = false := decide_eq_false (cm_ne.mp h12)
            refine z_rcs hc hH 1 (pc' := 89) (lv' := [(5, .int 4), (4, .int (yy5 + (nB (!(decide ((μ.1 15 3) = 0)) && hb3)))), (0, .ref 14), (1, .long f), (3, .int cc)]) (st' := [.int 0]) (μ' := μ) (by rfl) ?_
            exact zJ hJ6 rfl (by first | with_reducible rfl | (simp only [h12, lb_f, Int64.or_zero, Int32.add_zero, nB_t, nB_f, Bool.not_true, Bool.not_false, Bool.and_true, Bool.true_and, Bool.false_and, Bool.and_false, Bool.or_true, Bool.true_or, Bool.false_or, Bool.or_false, cond_true, cond_false]; done) | rfl) rfl
          · have h12 : (decide ((lg_cmp (μ.2.1 14 17) 0) = 0)) = true := decide_eq_true (cn_ne.mp h12)
            refine z_rcs hc hH 2 (pc' := 61) (lv' := [(5, .int 4), (4, .int (yy5 + (nB (!(decide ((μ.1 15 3) = 0)) && hb3)))), (0, .ref 14), (1, .long f), (3, .int cc)]) (st' := [.int (μ.1 14 8)]) (μ' := μ) (by rfl) ?_
            refine zq_if hc hH (by rfl) (tg := 88) (by rfl) (fun h13 => ?_) (fun h13 => ?_)
            · have h13 : (decide ((μ.1 14 8) = 0)) = false := decide_eq_false (cm_ne.mp h13)
              refine z_rcs hc hH 1 (pc' := 89) (lv' := [(5, .int 4), (4, .int (yy5 + (nB (!(decide ((μ.1 15 3) = 0)) && hb3)))), (0, .ref 14), (1, .long f), (3, .int cc)]) (st' := [.int 0]) (μ' := μ) (by rfl) ?_
              exact zJ hJ6 rfl (by first | with_reducible rfl | (simp only [h12, h13, lb_f, Int64.or_zero, Int32.add_zero, nB_t, nB_f, Bool.not_true, Bool.not_false, Bool.and_true, Bool.true_and, Bool.false_and, Bool.and_false, Bool.or_true, Bool.true_or, Bool.false_or, Bool.or_false, cond_true, cond_false]; done) | rfl) rfl
            · have h13 : (decide ((μ.1 14 8) = 0)) = true := decide_eq_true (cn_ne.mp h13)
              refine z_rcs hc hH 1 (pc' := 65) (lv' := [(5, .int 4), (4, .int (yy5 + (nB (!(decide ((μ.1 15 3) = 0)) && hb3)))), (0, .ref 14), (1, .long f), (3, .int cc)]) (st' := [.ref 14]) (μ' := μ) (by rfl) ?_
              refine zq_call hc (z_cx_ok hH (by rfl)) (fb_X1_pairFu d' (by omega) μ) (by decide +kernel) (fun r9 μ9 hq => ?_)
              obtain ⟨hμ9, rfl⟩ := hq
              rw [hμ9]
              clear hμ9 μ9
              show Z 0 68 [(5, .int 4), (4, .int (yy5 + (nB (!(decide ((μ.1 15 3) = 0)) && hb3)))), (0, .ref 14), (1, .long f), (3, .int cc)] [.int (xPf μ)] μ
              refine zq_if hc hH (by rfl) (tg := 88) (by rfl) (fun h14 => ?_) (fun h14 => ?_)
              · have h14 : (decide ((xPf μ) = 0)) = false := decide_eq_false (cm_ne.mp h14)
                refine z_rcs hc hH 1 (pc' := 89) (lv' := [(5, .int 4), (4, .int (yy5 + (nB (!(decide ((μ.1 15 3) = 0)) && hb3)))), (0, .ref 14), (1, .long f), (3, .int cc)]) (st' := [.int 0]) (μ' := μ) (by rfl) ?_
                exact zJ hJ6 rfl (by first | with_reducible rfl | (simp only [h12, h13, h14, lb_f, Int64.or_zero, Int32.add_zero, nB_t, nB_f, Bool.not_true, Bool.not_false, Bool.and_true, Bool.true_and, Bool.false_and, Bool.and_false, Bool.or_true, Bool.true_or, Bool.false_or, Bool.or_false, cond_true, cond_false]; done) | rfl) rfl
              · have h14 : (decide ((xPf μ) = 0)) = true := decide_eq_true (cn_ne.mp h14)
                refine z_rcs hc hH 2 (pc' := 73) (lv' := [(5, .int 4), (4, .int (yy5 + (nB (!(decide ((μ.1 15 3) = 0)) && hb3)))), (0, .ref 14), (1, .long f), (3, .int cc)]) (st' := [.int 4, .int cc]) (μ' := μ) (by rfl) ?_
                refine zq_ic hc hH (by rfl) (tg := 88) (by rfl) (fun h15 => ?_) (fun h15 => ?_)
                · have h15 : (decide (4 ≤ cc)) = true := decide_eq_true (cm_ge.mp h15)
                  refine z_rcs hc hH 1 (pc' := 89) (lv' := [(5, .int 4), (4, .int (yy5 + (nB (!(decide ((μ.1 15 3) = 0)) && hb3)))), (0, .ref 14), (1, .long f), (3, .int cc)]) (st' := [.int 0]) (μ' := μ) (by rfl) ?_
                  exact zJ hJ6 rfl (by first | with_reducible rfl | (simp only [h12, h13, h14, h15, lb_f, Int64.or_zero, Int32.add_zero, nB_t, nB_f, Bool.not_true, Bool.not_false, Bool.and_true, Bool.true_and, Bool.false_and, Bool.and_false, Bool.or_true, Bool.true_or, Bool.false_or, Bool.or_false, cond_true, cond_false]; done) | rfl) rfl
                · have h15 : (decide (4 ≤ cc)) = false := decide_eq_false (cn_ge.mp h15)
                  refine z_rcs hc hH 2 (pc' := 78) (lv' := [(5, .int 4), (4, .int (yy5 + (nB (!(decide ((μ.1 15 3) = 0)) && hb3)))), (0, .ref 14), (1, .long f), (3, .int cc)]) (st' := [.int cc, .ref 14]) (μ' := μ) (by rfl) ?_
                  refine zq_call hc (z_cx_ok hH (by rfl)) (hwf d' (by omega)) (by decide +kernel) (fun r9 μ9 hq => ?_)
                  obtain ⟨hμ9, rfl⟩ := hq
                  rw [hμ9]
                  clear hμ9 μ9
                  show Z 0 81 [(5, .int 4), (4, .int (yy5 + (nB (!(decide ((μ.1 15 3) = 0)) && hb3)))), (0, .ref 14), (1, .long f), (3, .int cc)] [.int wf] μ
                  refine zq_if hc hH (by rfl) (tg := 88) (by rfl) (fun h16 => ?_) (fun h16 => ?_)
                  · have h16 : (decide (wf = 0)) = false := decide_eq_false (cm_ne.mp h16)
                    refine z_rcs hc hH 1 (pc' := 89) (lv' := [(5, .int 4), (4, .int (yy5 + (nB (!(decide ((μ.1 15 3) = 0)) && hb3)))), (0, .ref 14), (1, .long f), (3, .int cc)]) (st' := [.int 0]) (μ' := μ) (by rfl) ?_
                    exact zJ hJ6 rfl (by first | with_reducible rfl | (simp only [h12, h13, h14, h15, h16, lb_f, Int64.or_zero, Int32.add_zero, nB_t, nB_f, Bool.not_true, Bool.not_false, Bool.and_true, Bool.true_and, Bool.false_and, Bool.and_false, Bool.or_true, Bool.true_or, Bool.false_or, Bool.or_false, cond_true, cond_false]; done) | rfl) rfl
                  · have h16 : (decide (wf = 0)) = true := decide_eq_true (cn_ne.mp h16)
                    refine z_rcs hc hH 2 (pc' := 89) (lv' := [(5, .int 4), (4, .int (yy5 + (nB (!(decide ((μ.1 15 3) = 0)) && hb3)))), (0, .ref 14), (1, .long f), (3, .int cc)]) (st' := [.int 1]) (μ' := μ) (by rfl) ?_
                    exact zJ hJ6 rfl (by first | with_reducible rfl | (simp only [h12, h13, h14, h15, h16, lb_f, Int64.or_zero, Int32.add_zero, nB_t, nB_f, Bool.not_true, Bool.not_false, Bool.and_true, Bool.true_and, Bool.false_and, Bool.and_false, Bool.or_true, Bool.true_or, Bool.false_or, Bool.or_false, cond_true, cond_false]; done) | rfl) rfl
        refine zq_if hc hH (by rfl) (tg := 38) (by rfl) (fun h17 => ?_) (fun h17 => ?_)
        · have h17 : (decide ((μ.1 15 3) = 0)) = true := decide_eq_true (cm_eq9.mp h17)
          refine z_rcs hc hH 1 (pc' := 39) (lv' := [(5, .int 3), (4, .int (((0 + (nB (!(decide ((μ.1 15 0) = 0)) && hb0))) + (nB (!(decide ((μ.1 15 1) = 0)) && hb1))) + (nB (!(decide ((μ.1 15 2) = 0)) && hb2)))), (0, .ref 14), (1, .long f), (3, .int cc)]) (st' := [.int 0, .int (((0 + (nB (!(decide ((μ.1 15 0) = 0)) && hb0))) + (nB (!(decide ((μ.1 15 1) = 0)) && hb1))) + (nB (!(decide ((μ.1 15 2) = 0)) && hb2)))]) (μ' := μ) (by rfl) ?_
          exact zJ hJ4 rfl (by first | with_reducible rfl | (simp only [h17, lb_f, Int64.or_zero, Int32.add_zero, nB_t, nB_f, Bool.not_true, Bool.not_false, Bool.and_true, Bool.true_and, Bool.false_and, Bool.and_false, Bool.or_true, Bool.true_or, Bool.false_or, Bool.or_false, cond_true, cond_false]; done) | rfl) rfl
        · have h17 : (decide ((μ.1 15 3) = 0)) = false := decide_eq_false (cn_eq.mp h17)
          refine z_rcs hc hH 3 (pc' := 28) (lv' := [(5, .int 3), (4, .int (((0 + (nB (!(decide ((μ.1 15 0) = 0)) && hb0))) + (nB (!(decide ((μ.1 15 1) = 0)) && hb1))) + (nB (!(decide ((μ.1 15 2) = 0)) && hb2)))), (0, .ref 14), (1, .long f), (3, .int cc)]) (st' := [.int cc, .int 3, .ref 14, .int (((0 + (nB (!(decide ((μ.1 15 0) = 0)) && hb0))) + (nB (!(decide ((μ.1 15 1) = 0)) && hb1))) + (nB (!(decide ((μ.1 15 2) = 0)) && hb2)))]) (μ' := μ) (by rfl) ?_
          refine zq_call hc (z_cx_ok hH (by rfl)) (hhd3 d' (by omega)) (by decide +kernel) (fun r9 μ9 hq => ?_)
          obtain ⟨hμ9, rfl⟩ := hq
          rw [hμ9]
          clear hμ9 μ9
          show Z 0 31 [(5, .int 3), (4, .int (((0 + (nB (!(decide ((μ.1 15 0) = 0)) && hb0))) + (nB (!(decide ((μ.1 15 1) = 0)) && hb1))) + (nB (!(decide ((μ.1 15 2) = 0)) && hb2)))), (0, .ref 14), (1, .long f), (3, .int cc)] [.int (nB hb3), .int (((0 + (nB (!(decide ((μ.1 15 0) = 0)) && hb0))) + (nB (!(decide ((μ.1 15 1) = 0)) && hb1))) + (nB (!(decide ((μ.1 15 2) = 0)) && hb2)))] μ
          refine zq_if hc hH (by rfl) (tg := 38) (by rfl) (fun h18 => ?_) (fun h18 => ?_)
          · have h18 : (hb3) = false := nB_z.mp (cm_eq9.mp h18)
            refine z_rcs hc hH 1 (pc' := 39) (lv' := [(5, .int 3), (4, .int (((0 + (nB (!(decide ((μ.1 15 0) = 0)) && hb0))) + (nB (!(decide ((μ.1 15 1) = 0)) && hb1))) + (nB (!(decide ((μ.1 15 2) = 0)) && hb2)))), (0, .ref 14), (1, .long f), (3, .int cc)]) (st' := [.int 0, .int (((0 + (nB (!(decide ((μ.1 15 0) = 0)) && hb0))) + (nB (!(decide ((μ.1 15 1) = 0)) && hb1))) + (nB (!(decide ((μ.1 15 2) = 0)) && hb2)))]) (μ' := μ) (by rfl) ?_
            exact zJ hJ4 rfl (by first | with_reducible rfl | (simp only [h17, h18, lb_f, Int64.or_zero, Int32.add_zero, nB_t, nB_f, Bool.not_true, Bool.not_false, Bool.and_true, Bool.true_and, Bool.false_and, Bool.and_false, Bool.or_true, Bool.true_or, Bool.false_or, Bool.or_false, cond_true, cond_false]; done) | rfl) rfl
          · have h18 : (hb3) = true := nB_n.mp (cn_eq.mp h18)
            refine z_rcs hc hH 2 (pc' := 39) (lv' := [(5, .int 3), (4, .int (((0 + (nB (!(decide ((μ.1 15 0) = 0)) && hb0))) + (nB (!(decide ((μ.1 15 1) = 0)) && hb1))) + (nB (!(decide ((μ.1 15 2) = 0)) && hb2)))), (0, .ref 14), (1, .long f), (3, .int cc)]) (st' := [.int 1, .int (((0 + (nB (!(decide ((μ.1 15 0) = 0)) && hb0))) + (nB (!(decide ((μ.1 15 1) = 0)) && hb1))) + (nB (!(decide ((μ.1 15 2) = 0)) && hb2)))]) (μ' := μ) (by rfl) ?_
            exact zJ hJ4 rfl (by first | with_reducible rfl | (simp only [h17, h18, lb_f, Int64.or_zero, Int32.add_zero, nB_t, nB_f, Bool.not_true, Bool.not_false, Bool.and_true, Bool.true_and, Bool.false_and, Bool.and_false, Bool.or_true, Bool.true_or, Bool.false_or, Bool.or_false, cond_true, cond_false]; done) | rfl) rfl
      refine zq_if hc hH (by rfl) (tg := 38) (by rfl) (fun h19 => ?_) (fun h19 => ?_)
      · have h19 : (decide ((μ.1 15 2) = 0)) = true := decide_eq_true (cm_eq9.mp h19)
        refine z_rcs hc hH 1 (pc' := 39) (lv' := [(5, .int 2), (4, .int ((0 + (nB (!(decide ((μ.1 15 0) = 0)) && hb0))) + (nB (!(decide ((μ.1 15 1) = 0)) && hb1)))), (0, .ref 14), (1, .long f), (3, .int cc)]) (st' := [.int 0, .int ((0 + (nB (!(decide ((μ.1 15 0) = 0)) && hb0))) + (nB (!(decide ((μ.1 15 1) = 0)) && hb1)))]) (μ' := μ) (by rfl) ?_
        exact zJ hJ3 rfl (by first | with_reducible rfl | (simp only [h19, lb_f, Int64.or_zero, Int32.add_zero, nB_t, nB_f, Bool.not_true, Bool.not_false, Bool.and_true, Bool.true_and, Bool.false_and, Bool.and_false, Bool.or_true, Bool.true_or, Bool.false_or, Bool.or_false, cond_true, cond_false]; done) | rfl) rfl
      · have h19 : (decide ((μ.1 15 2) = 0)) = false := decide_eq_false (cn_eq.mp h19)
        refine z_rcs hc hH 3 (pc' := 28) (lv' := [(5, .int 2), (4, .int ((0 + (nB (!(decide ((μ.1 15 0) = 0)) && hb0))) + (nB (!(decide ((μ.1 15 1) = 0)) && hb1)))), (0, .ref 14), (1, .long f), (3, .int cc)]) (st' := [.int cc, .int 2, .ref 14, .int ((0 + (nB (!(decide ((μ.1 15 0) = 0)) && hb0))) + (nB (!(decide ((μ.1 15 1) = 0)) && hb1)))]) (μ' := μ) (by rfl) ?_
        refine zq_call hc (z_cx_ok hH (by rfl)) (hhd2 d' (by omega)) (by decide +kernel) (fun r9 μ9 hq => ?_)
        obtain ⟨hμ9, rfl⟩ := hq
        rw [hμ9]
        clear hμ9 μ9
        show Z 0 31 [(5, .int 2), (4, .int ((0 + (nB (!(decide ((μ.1 15 0) = 0)) && hb0))) + (nB (!(decide ((μ.1 15 1) = 0)) && hb1)))), (0, .ref 14), (1, .long f), (3, .int cc)] [.int (nB hb2), .int ((0 + (nB (!(decide ((μ.1 15 0) = 0)) && hb0))) + (nB (!(decide ((μ.1 15 1) = 0)) && hb1)))] μ
        refine zq_if hc hH (by rfl) (tg := 38) (by rfl) (fun h20 => ?_) (fun h20 => ?_)
        · have h20 : (hb2) = false := nB_z.mp (cm_eq9.mp h20)
          refine z_rcs hc hH 1 (pc' := 39) (lv' := [(5, .int 2), (4, .int ((0 + (nB (!(decide ((μ.1 15 0) = 0)) && hb0))) + (nB (!(decide ((μ.1 15 1) = 0)) && hb1)))), (0, .ref 14), (1, .long f), (3, .int cc)]) (st' := [.int 0, .int ((0 + (nB (!(decide ((μ.1 15 0) = 0)) && hb0))) + (nB (!(decide ((μ.1 15 1) = 0)) && hb1)))]) (μ' := μ) (by rfl) ?_
          exact zJ hJ3 rfl (by first | with_reducible rfl | (simp only [h19, h20, lb_f, Int64.or_zero, Int32.add_zero, nB_t, nB_f, Bool.not_true, Bool.not_false, Bool.and_true, Bool.true_and, Bool.false_and, Bool.and_false, Bool.or_true, Bool.true_or, Bool.false_or, Bool.or_false, cond_true, cond_false]; done) | rfl) rfl
        · have h20 : (hb2) = true := nB_n.mp (cn_eq.mp h20)
          refine z_rcs hc hH 2 (pc' := 39) (lv' := [(5, .int 2), (4, .int ((0 + (nB (!(decide ((μ.1 15 0) = 0)) && hb0))) + (nB (!(decide ((μ.1 15 1) = 0)) && hb1)))), (0, .ref 14), (1, .long f), (3, .int cc)]) (st' := [.int 1, .int ((0 + (nB (!(decide ((μ.1 15 0) = 0)) && hb0))) + (nB (!(decide ((μ.1 15 1) = 0)) && hb1)))]) (μ' := μ) (by rfl) ?_
          exact zJ hJ3 rfl (by first | with_reducible rfl | (simp only [h19, h20, lb_f, Int64.or_zero, Int32.add_zero, nB_t, nB_f, Bool.not_true, Bool.not_false, Bool.and_true, Bool.true_and, Bool.false_and, Bool.and_false, Bool.or_true, Bool.true_or, Bool.false_or, Bool.or_false, cond_true, cond_false]; done) | rfl) rfl
    refine zq_if hc hH (by rfl) (tg := 38) (by rfl) (fun h21 => ?_) (fun h21 => ?_)
    · have h21 : (decide ((μ.1 15 1) = 0)) = true := decide_eq_true (cm_eq9.mp h21)
      refine z_rcs hc hH 1 (pc' := 39) (lv' := [(5, .int 1), (4, .int (0 + (nB (!(decide ((μ.1 15 0) = 0)) && hb0)))), (0, .ref 14), (1, .long f), (3, .int cc)]) (st' := [.int 0, .int (0 + (nB (!(decide ((μ.1 15 0) = 0)) && hb0)))]) (μ' := μ) (by rfl) ?_
      exact zJ hJ2 rfl (by first | with_reducible rfl | (simp only [h21, lb_f, Int64.or_zero, Int32.add_zero, nB_t, nB_f, Bool.not_true, Bool.not_false, Bool.and_true, Bool.true_and, Bool.false_and, Bool.and_false, Bool.or_true, Bool.true_or, Bool.false_or, Bool.or_false, cond_true, cond_false]; done) | rfl) rfl
    · have h21 : (decide ((μ.1 15 1) = 0)) = false := decide_eq_false (cn_eq.mp h21)
      refine z_rcs hc hH 3 (pc' := 28) (lv' := [(5, .int 1), (4, .int (0 + (nB (!(decide ((μ.1 15 0) = 0)) && hb0)))), (0, .ref 14), (1, .long f), (3, .int cc)]) (st' := [.int cc, .int 1, .ref 14, .int (0 + (nB (!(decide ((μ.1 15 0) = 0)) && hb0)))]) (μ' := μ) (by rfl) ?_
      refine zq_call hc (z_cx_ok hH (by rfl)) (hhd1 d' (by omega)) (by decide +kernel) (fun r9 μ9 hq => ?_)
      obtain ⟨hμ9, rfl⟩ := hq
      rw [hμ9]
      clear hμ9 μ9
      show Z 0 31 [(5, .int 1), (4, .int (0 + (nB (!(decide ((μ.1 15 0) = 0)) && hb0)))), (0, .ref 14), (1, .long f), (3, .int cc)] [.int (nB hb1), .int (0 + (nB (!(decide ((μ.1 15 0) = 0)) && hb0)))] μ
      refine zq_if hc hH (by rfl) (tg := 38) (by rfl) (fun h22 => ?_) (fun h22 => ?_)
      · have h22 : (hb1) = false := nB_z.mp (cm_eq9.mp h22)
        refine z_rcs hc hH 1 (pc' := 39) (lv' := [(5, .int 1), (4, .int (0 + (nB (!(decide ((μ.1 15 0) = 0)) && hb0)))), (0, .ref 14), (1, .long f), (3, .int cc)]) (st' := [.int 0, .int (0 + (nB (!(decide ((μ.1 15 0) = 0)) && hb0)))]) (μ' := μ) (by rfl) ?_
        exact zJ hJ2 rfl (by first | with_reducible rfl | (simp only [h21, h22, lb_f, Int64.or_zero, Int32.add_zero, nB_t, nB_f, Bool.not_true, Bool.not_false, Bool.and_true, Bool.true_and, Bool.false_and, Bool.and_false, Bool.or_true, Bool.true_or, Bool.false_or, Bool.or_false, cond_true, cond_false]; done) | rfl) rfl
      · have h22 : (hb1) = true := nB_n.mp (cn_eq.mp h22)
        refine z_rcs hc hH 2 (pc' := 39) (lv' := [(5, .int 1), (4, .int (0 + (nB (!(decide ((μ.1 15 0) = 0)) && hb0)))), (0, .ref 14), (1, .long f), (3, .int cc)]) (st' := [.int 1, .int (0 + (nB (!(decide ((μ.1 15 0) = 0)) && hb0)))]) (μ' := μ) (by rfl) ?_
        exact zJ hJ2 rfl (by first | with_reducible rfl | (simp only [h21, h22, lb_f, Int64.or_zero, Int32.add_zero, nB_t, nB_f, Bool.not_true, Bool.not_false, Bool.and_true, Bool.true_and, Bool.false_and, Bool.and_false, Bool.or_true, Bool.true_or, Bool.false_or, Bool.or_false, cond_true, cond_false]; done) | rfl) rfl
  refine zq_if hc hH (by rfl) (tg := 38) (by rfl) (fun h23 => ?_) (fun h23 => ?_)
  · have h23 : (decide ((μ.1 15 0) = 0)) = true := decide_eq_true (cm_eq9.mp h23)
    refine z_rcs hc hH 1 (pc' := 39) (lv' := [(5, .int 0), (4, .int 0), (0, .ref 14), (1, .long f), (3, .int cc)]) (st' := [.int 0, .int 0]) (μ' := μ) (by rfl) ?_
    exact zJ hJ1 rfl (by first | with_reducible rfl | (simp only [h23, lb_f, Int64.or_zero, Int32.add_zero, nB_t, nB_f, Bool.not_true, Bool.not_false, Bool.and_true, Bool.true_and, Bool.false_and, Bool.and_false, Bool.or_true, Bool.true_or, Bool.false_or, Bool.or_false, cond_true, cond_false]; done) | rfl) rfl
  · have h23 : (decide ((μ.1 15 0) = 0)) = false := decide_eq_false (cn_eq.mp h23)
    refine z_rcs hc hH 3 (pc' := 28) (lv' := [(5, .int 0), (4, .int 0), (0, .ref 14), (1, .long f), (3, .int cc)]) (st' := [.int cc, .int 0, .ref 14, .int 0]) (μ' := μ) (by rfl) ?_
    refine zq_call hc (z_cx_ok hH (by rfl)) (hhd0 d' (by omega)) (by decide +kernel) (fun r9 μ9 hq => ?_)
    obtain ⟨hμ9, rfl⟩ := hq
    rw [hμ9]
    clear hμ9 μ9
    show Z 0 31 [(5, .int 0), (4, .int 0), (0, .ref 14), (1, .long f), (3, .int cc)] [.int (nB hb0), .int 0] μ
    refine zq_if hc hH (by rfl) (tg := 38) (by rfl) (fun h24 => ?_) (fun h24 => ?_)
    · have h24 : (hb0) = false := nB_z.mp (cm_eq9.mp h24)
      refine z_rcs hc hH 1 (pc' := 39) (lv' := [(5, .int 0), (4, .int 0), (0, .ref 14), (1, .long f), (3, .int cc)]) (st' := [.int 0, .int 0]) (μ' := μ) (by rfl) ?_
      exact zJ hJ1 rfl (by first | with_reducible rfl | (simp only [h23, h24, lb_f, Int64.or_zero, Int32.add_zero, nB_t, nB_f, Bool.not_true, Bool.not_false, Bool.and_true, Bool.true_and, Bool.false_and, Bool.and_false, Bool.or_true, Bool.true_or, Bool.false_or, Bool.or_false, cond_true, cond_false]; done) | rfl) rfl
    · have h24 : (hb0) = true := nB_n.mp (cn_eq.mp h24)
      refine z_rcs hc hH 2 (pc' := 39) (lv' := [(5, .int 0), (4, .int 0), (0, .ref 14), (1, .long f), (3, .int cc)]) (st' := [.int 1, .int 0]) (μ' := μ) (by rfl) ?_
      exact zJ hJ1 rfl (by first | with_reducible rfl | (simp only [h23, h24, lb_f, Int64.or_zero, Int32.add_zero, nB_t, nB_f, Bool.not_true, Bool.not_false, Bool.and_true, Bool.true_and, Bool.false_and, Bool.and_false, Bool.or_true, Bool.true_or, Bool.false_or, Bool.or_false, cond_true, cond_false]; done) | rfl) rfl
/-! the class: a way is weighed -/
set_option maxRecDepth 8000
noncomputable def CW (μ : zM) (s l : Nat → Nat) : Prop := ∀ j, j < 4 → (μ.1 15 j = nI (s j) ∧ s j ≤ 3) ∧ μ.1 16 j = nI (l j) ∧ l j < 34
noncomputable def mcB (wn : Int32) (q : Nat) (s l : Nat → Nat) (i : Nat) : Bool := xHas (nI (s i)) (nI (l i)) wn && dfs s l i (i - q) q
theorem zh_X1_mayHaveCompleted : zH mi_X1_mayHaveCompleted zt_X1_mayHaveCompleted 79 1 4 := hh_X1_mayHaveCompleted
theorem mh58 (d' : Nat) (Z : zK) (μ : zM) (s l : Nat → Nat) (hW : CW μ s l) (q i : Nat) (hi : i < 4) (hqi : q ≤ i) (ht : μ.2.2 14 = 9) (e4 : μ.1 9 4 = nI q) (B : Bool) (hc : z_clo z_x0 mi_X1_mayHaveCompleted (z_C d') Z) (hr : z_ret mi_X1_mayHaveCompleted (zR μ (.int (nB B))) Z) (x2 : Int32) : ∀ n j, j + n = i → dfs s l i n j = B → Z 0 58 [(3, .int (nI j)), (2, .int x2), (0, .ref 14), (1, .int (nI i))] [] μ := by
  have hH := zh_X1_mayHaveCompleted
  intro n
  induction n with
  | zero =>
    intro j hj hb
    have hj : j = i := by omega
    subst hj
    have hb : true = B := hb
    subst hb
    refine z_rcs hc hH 2 (pc' := 60) (lv' := [(3, .int (nI j)), (2, .int x2), (0, .ref 14), (1, .int (nI j))]) (st' := [.int (nI j), .int (nI j)]) (μ' := μ) (by rfl) ?_
    refine zq_ic hc hH (by rfl) (tg := 101) (by rfl) (fun _ => ?_) (fun h9 => (zb_t (ge_nIt (n := j) (i := j) (by omega) (by omega)) h9).elim)
    refine z_rcs hc hH 1 (pc' := 102) (lv' := [(3, .int (nI j)), (2, .int x2), (0, .ref 14), (1, .int (nI j))]) (st' := [.int 1]) (μ' := μ) (by rfl) ?_
    exact hr 0 102 _ _ _ (some (.int 1)) (by decide +kernel) (z_rx_ok hH (by rfl)) (⟨rfl, rfl⟩)
  | succ n ih =>
    intro j hj hb
    rw [show dfs s l i (n + 1) j = (df1 s l j i && dfs s l i n (j + 1)) from rfl] at hb
    have hin : vp_in (nI i) 4 := vp_in_nI (by omega) (by decide)
    have hjn : vp_in (nI j) 4 := vp_in_nI (by omega) (by decide)
    have ei : (nI i).toNatClampNeg = i := nI_clamp (by omega)
    have ej : (nI j).toNatClampNeg = j := nI_clamp (by omega)
    have bi := hW i hi
    have bj := hW j (by omega)
    refine z_rcs hc hH 2 (pc' := 60) (lv' := [(3, .int (nI j)), (2, .int x2), (0, .ref 14), (1, .int (nI i))]) (st' := [.int (nI i), .int (nI j)]) (μ' := μ) (by rfl) ?_
    refine zq_ic hc hH (by rfl) (tg := 101) (by rfl) (fun h9 => (zb_t h9 (ge_nI (n := i) (i := j) (by omega) (by omega))).elim) (fun _ => ?_)
    refine z_rcs hc hH 3 (pc' := 68) (lv' := [(3, .int (nI j)), (2, .int x2), (0, .ref 14), (1, .int (nI i))]) (st' := [.int (nI j), .ref 15]) (μ' := μ) (by rfl) ?_
    refine zq_iald hc hH (by rfl) 4 (by decide +kernel) (hjn) ?_
    rw [ej, bj.1.1]
    show Z 0 69 [(3, .int (nI j)), (2, .int x2), (0, .ref 14), (1, .int (nI i))] [.int (nI (s j))] μ
    refine z_rcs hc hH 3 (pc' := 74) (lv' := [(3, .int (nI j)), (2, .int x2), (0, .ref 14), (1, .int (nI i))]) (st' := [.int (nI i), .ref 15, .int (nI (s j))]) (μ' := μ) (by rfl) ?_
    refine zq_iald hc hH (by rfl) 4 (by decide +kernel) (hin) ?_
    rw [ei, bi.1.1]
    show Z 0 75 [(3, .int (nI j)), (2, .int x2), (0, .ref 14), (1, .int (nI i))] [.int (nI (s i)), .int (nI (s j))] μ
    refine zq_ic hc hH (by rfl) (tg := 95) (by rfl) (fun h1 => ?_) (fun h1 => ?_)
    · have h1 := cm_ne.mp h1
      refine z_rcs hc hH 2 (pc' := 58) (lv' := [(3, .int ((nI j) + 1)), (2, .int x2), (0, .ref 14), (1, .int (nI i))]) (st' := []) (μ' := μ) (by rfl) ?_
      rw [nI_1]
      have d1 : df1 s l j i = true := by unfold df1; rw [show decide (s j = s i) = false from decide_eq_false (fun z => h1 (by rw [z]))]; rfl
      rw [d1, Bool.true_and] at hb
      exact ih (j + 1) (by omega) hb
    · have h1 := cn_ne.mp h1
      refine z_rcs hc hH 3 (pc' := 83) (lv' := [(3, .int (nI j)), (2, .int x2), (0, .ref 14), (1, .int (nI i))]) (st' := [.int (nI j), .ref 16]) (μ' := μ) (by rfl) ?_
      refine zq_iald hc hH (by rfl) 4 (by decide +kernel) (hjn) ?_
      rw [ej, bj.2.1]
      show Z 0 84 [(3, .int (nI j)), (2, .int x2), (0, .ref 14), (1, .int (nI i))] [.int (nI (l j))] μ
      refine z_rcs hc hH 3 (pc' := 89) (lv' := [(3, .int (nI j)), (2, .int x2), (0, .ref 14), (1, .int (nI i))]) (st' := [.int (nI i), .ref 16, .int (nI (l j))]) (μ' := μ) (by rfl) ?_
      refine zq_iald hc hH (by rfl) 4 (by decide +kernel) (hin) ?_
      rw [ei, bi.2.1]
      show Z 0 90 [(3, .int (nI j)), (2, .int x2), (0, .ref 14), (1, .int (nI i))] [.int (nI (l i)), .int (nI (l j))] μ
      refine zq_ic hc hH (by rfl) (tg := 95) (by rfl) (fun h2 => ?_) (fun h2 => ?_)
      · have h2 := cm_ne.mp h2
        refine z_rcs hc hH 2 (pc' := 58) (lv' := [(3, .int ((nI j) + 1)), (2, .int x2), (0, .ref 14), (1, .int (nI i))]) (st' := []) (μ' := μ) (by rfl) ?_
        rw [nI_1]
        have d1 : df1 s l j i = true := by unfold df1; rw [show decide (l j = l i) = false from decide_eq_false (fun z => h2 (by rw [z])), Bool.and_false]; rfl
        rw [d1, Bool.true_and] at hb
        exact ih (j + 1) (by omega) hb
      · have h2 := cn_ne.mp h2
        refine z_rcs hc hH 1 (pc' := 94) (lv' := [(3, .int (nI j)), (2, .int x2), (0, .ref 14), (1, .int (nI i))]) (st' := [.int 0]) (μ' := μ) (by rfl) ?_
        have d1 : df1 s l j i = false := by
          unfold df1
          rw [decide_eq_true ((nI_eq (show s j < 2 ^ 31 by omega) (show s i < 2 ^ 31 by omega)).mp h1), decide_eq_true ((nI_eq (show l j < 2 ^ 31 by omega) (show l i < 2 ^ 31 by omega)).mp h2)]; rfl
        rw [d1, Bool.false_and] at hb
        subst hb
        exact hr 0 94 _ _ _ (some (.int 0)) (by decide +kernel) (z_rx_ok hH (by rfl)) (⟨rfl, rfl⟩)
theorem fb_X1_mayHaveCompleted (d : Nat) (hd : 1 ≤ d) (μ : zM) (s l : Nat → Nat) (hW : CW μ s l) (q i : Nat) (hi : i < 4) (hqi : q ≤ i) (ht : μ.2.2 14 = 9) (e4 : μ.1 9 4 = nI q) : z_C d mi_X1_mayHaveCompleted [.ref 14, .int (nI i)] μ (zR μ (.int (nB (mcB (μ.1 14 6) q s l i)))) := by
  refine z_C_in (by decide) (by omega) (fun d' Z ed hc hr => ?_)
  have hH := zh_X1_mayHaveCompleted
  have hin : vp_in (nI i) 4 := vp_in_nI (by omega) (by decide)
  have ei : (nI i).toNatClampNeg = i := nI_clamp (by omega)
  have bi := hW i hi
  refine z_rcs hc hH 3 (pc' := 5) (lv' := [(0, .ref 14), (1, .int (nI i))]) (st' := [.int (nI i), .ref 15]) (μ' := μ) (by rfl) ?_
  refine zq_iald hc hH (by rfl) 4 (by decide +kernel) (hin) ?_
  rw [ei, bi.1.1]
  show Z 0 6 [(0, .ref 14), (1, .int (nI i))] [.int (nI (s i))] μ
  refine zq_if hc hH (by rfl) (tg := 20) (by rfl) (fun h1 => ?_) (fun h1 => ?_)
  · have h1 := cm_ne.mp h1
    refine z_rcs hc hH 3 (pc' := 25) (lv' := [(0, .ref 14), (1, .int (nI i))]) (st' := [.int (nI i), .ref 16]) (μ' := μ) (by rfl) ?_
    refine zq_iald hc hH (by rfl) 4 (by decide +kernel) (hin) ?_
    rw [ei, bi.2.1]
    show Z 0 26 [(0, .ref 14), (1, .int (nI i))] [.int (nI (l i))] μ
    refine z_rcs hc hH 6 (pc' := 36) (lv' := [(2, .int (nI (l i))), (0, .ref 14), (1, .int (nI i))]) (st' := [.int (nI i), .ref 16, .int (μ.1 14 6)]) (μ' := μ) (by rfl) ?_
    refine zq_iald hc hH (by rfl) 4 (by decide +kernel) (hin) ?_
    rw [ei, bi.2.1]
    show Z 0 37 [(2, .int (nI (l i))), (0, .ref 14), (1, .int (nI i))] [.int (nI (l i)), .int (μ.1 14 6)] μ
    refine zq_ic hc hH (by rfl) (tg := 48) (by rfl) (fun h2 => ?_) (fun h2 => ?_)
    · have h2 := cm_lt.mp h2
      refine z_rcs hc hH 1 (pc' := 49) (lv' := [(2, .int (nI (l i))), (0, .ref 14), (1, .int (nI i))]) (st' := [.int 0]) (μ' := μ) (by rfl) ?_
      have eh : xHas (nI (s i)) (nI (l i)) (μ.1 14 6) = false := (by unfold xHas; rw [show decide (nI (s i) = 0) = false from decide_eq_false h1, cond_false]; exact decide_eq_false (fun z => Int32.lt_irrefl (z ▸ h2)))
      have eb : mcB (μ.1 14 6) q s l i = false := by unfold mcB; rw [eh]; rfl
      exact hr 0 49 _ _ _ (some (.int 0)) (by decide +kernel) (z_rx_ok hH (by rfl)) (⟨rfl, by rw [eb]; rfl⟩)
    · have h2 := cn_lt.mp h2
      refine z_rcs hc hH 3 (pc' := 45) (lv' := [(2, .int (nI (l i))), (0, .ref 14), (1, .int (nI i))]) (st' := [.int (nI (l i)), .int (μ.1 14 6)]) (μ' := μ) (by rfl) ?_
      refine zq_ic hc hH (by rfl) (tg := 50) (by rfl) (fun h3 => ?_) (fun h3 => ?_)
      · have h3 := cm_le.mp h3
        refine z_rcs hc hH 1 (pc' := 51) (lv' := [(2, .int (nI (l i))), (0, .ref 14), (1, .int (nI i))]) (st' := [.ref 14]) (μ' := μ) (by rfl) ?_
        refine zq_tget hc hH (by rfl) (ci := 0) (f := 5) (t := 9) (by decide +kernel) ht (by decide) ?_
        show Z 0 54 [(2, .int (nI (l i))), (0, .ref 14), (1, .int (nI i))] [.ref 9] μ
        refine z_rcs hc hH 1 (pc' := 57) (lv' := [(2, .int (nI (l i))), (0, .ref 14), (1, .int (nI i))]) (st' := [.int (μ.1 9 4)]) (μ' := μ) (by rfl) ?_
        rw [e4]
        show Z 0 57 [(2, .int (nI (l i))), (0, .ref 14), (1, .int (nI i))] [.int (nI q)] μ
        refine z_rcs hc hH 1 (pc' := 58) (lv' := [(3, .int (nI q)), (2, .int (nI (l i))), (0, .ref 14), (1, .int (nI i))]) (st' := []) (μ' := μ) (by rfl) ?_
        have eh : xHas (nI (s i)) (nI (l i)) (μ.1 14 6) = true := (by unfold xHas; rw [show decide (nI (s i) = 0) = false from decide_eq_false h1, cond_false]; exact decide_eq_true (Int32.le_antisymm h3 (Int32.not_lt.mp h2)))
        have eb : mcB (μ.1 14 6) q s l i = dfs s l i (i - q) q := by unfold mcB; rw [eh, Bool.true_and]
        exact mh58 d' Z μ s l hW q i hi hqi ht e4 _ hc hr _ (i - q) q (by omega) eb.symm
      · have h3 := cn_le.mp h3
        refine z_rcs hc hH 1 (pc' := 49) (lv' := [(2, .int (nI (l i))), (0, .ref 14), (1, .int (nI i))]) (st' := [.int 0]) (μ' := μ) (by rfl) ?_
        have eh : xHas (nI (s i)) (nI (l i)) (μ.1 14 6) = false := (by unfold xHas; rw [show decide (nI (s i) = 0) = false from decide_eq_false h1, cond_false]; exact decide_eq_false (fun z => h3 (z ▸ Int32.le_refl _)))
        have eb : mcB (μ.1 14 6) q s l i = false := by unfold mcB; rw [eh]; rfl
        exact hr 0 49 _ _ _ (some (.int 0)) (by decide +kernel) (z_rx_ok hH (by rfl)) (⟨rfl, by rw [eb]; rfl⟩)
  · have h1 := cn_ne.mp h1
    refine z_rcs hc hH 3 (pc' := 14) (lv' := [(0, .ref 14), (1, .int (nI i))]) (st' := [.int (nI i), .ref 16]) (μ' := μ) (by rfl) ?_
    refine zq_iald hc hH (by rfl) 4 (by decide +kernel) (hin) ?_
    rw [ei, bi.2.1]
    show Z 0 15 [(0, .ref 14), (1, .int (nI i))] [.int (nI (l i))] μ
    refine z_rcs hc hH 3 (pc' := 26) (lv' := [(0, .ref 14), (1, .int (nI i))]) (st' := [.int ((nI (l i)) + 2)]) (μ' := μ) (by rfl) ?_
    refine z_rcs hc hH 6 (pc' := 36) (lv' := [(2, .int ((nI (l i)) + 2)), (0, .ref 14), (1, .int (nI i))]) (st' := [.int (nI i), .ref 16, .int (μ.1 14 6)]) (μ' := μ) (by rfl) ?_
    refine zq_iald hc hH (by rfl) 4 (by decide +kernel) (hin) ?_
    rw [ei, bi.2.1]
    show Z 0 37 [(2, .int ((nI (l i)) + 2)), (0, .ref 14), (1, .int (nI i))] [.int (nI (l i)), .int (μ.1 14 6)] μ
    refine zq_ic hc hH (by rfl) (tg := 48) (by rfl) (fun h4 => ?_) (fun h4 => ?_)
    · have h4 := cm_lt.mp h4
      refine z_rcs hc hH 1 (pc' := 49) (lv' := [(2, .int ((nI (l i)) + 2)), (0, .ref 14), (1, .int (nI i))]) (st' := [.int 0]) (μ' := μ) (by rfl) ?_
      have eh : xHas (nI (s i)) (nI (l i)) (μ.1 14 6) = false := (by unfold xHas; rw [show decide (nI (s i) = 0) = true from decide_eq_true h1, cond_true]; rw [show decide (μ.1 14 6 < nI (l i)) = true from decide_eq_true h4]; rfl)
      have eb : mcB (μ.1 14 6) q s l i = false := by unfold mcB; rw [eh]; rfl
      exact hr 0 49 _ _ _ (some (.int 0)) (by decide +kernel) (z_rx_ok hH (by rfl)) (⟨rfl, by rw [eb]; rfl⟩)
    · have h4 := cn_lt.mp h4
      refine z_rcs hc hH 3 (pc' := 45) (lv' := [(2, .int ((nI (l i)) + 2)), (0, .ref 14), (1, .int (nI i))]) (st' := [.int ((nI (l i)) + 2), .int (μ.1 14 6)]) (μ' := μ) (by rfl) ?_
      refine zq_ic hc hH (by rfl) (tg := 50) (by rfl) (fun h5 => ?_) (fun h5 => ?_)
      · have h5 := cm_le.mp h5
        refine z_rcs hc hH 1 (pc' := 51) (lv' := [(2, .int ((nI (l i)) + 2)), (0, .ref 14), (1, .int (nI i))]) (st' := [.ref 14]) (μ' := μ) (by rfl) ?_
        refine zq_tget hc hH (by rfl) (ci := 0) (f := 5) (t := 9) (by decide +kernel) ht (by decide) ?_
        show Z 0 54 [(2, .int ((nI (l i)) + 2)), (0, .ref 14), (1, .int (nI i))] [.ref 9] μ
        refine z_rcs hc hH 1 (pc' := 57) (lv' := [(2, .int ((nI (l i)) + 2)), (0, .ref 14), (1, .int (nI i))]) (st' := [.int (μ.1 9 4)]) (μ' := μ) (by rfl) ?_
        rw [e4]
        show Z 0 57 [(2, .int ((nI (l i)) + 2)), (0, .ref 14), (1, .int (nI i))] [.int (nI q)] μ
        refine z_rcs hc hH 1 (pc' := 58) (lv' := [(3, .int (nI q)), (2, .int ((nI (l i)) + 2)), (0, .ref 14), (1, .int (nI i))]) (st' := []) (μ' := μ) (by rfl) ?_
        have eh : xHas (nI (s i)) (nI (l i)) (μ.1 14 6) = true := (by unfold xHas; rw [show decide (nI (s i) = 0) = true from decide_eq_true h1, cond_true]; rw [show decide (μ.1 14 6 < nI (l i)) = false from decide_eq_false h4]; rw [show decide (nI (l i) + 2 < μ.1 14 6) = false from decide_eq_false (Int32.not_lt.mpr h5)]; rfl)
        have eb : mcB (μ.1 14 6) q s l i = dfs s l i (i - q) q := by unfold mcB; rw [eh, Bool.true_and]
        exact mh58 d' Z μ s l hW q i hi hqi ht e4 _ hc hr _ (i - q) q (by omega) eb.symm
      · have h5 := cn_le.mp h5
        refine z_rcs hc hH 1 (pc' := 49) (lv' := [(2, .int ((nI (l i)) + 2)), (0, .ref 14), (1, .int (nI i))]) (st' := [.int 0]) (μ' := μ) (by rfl) ?_
        have eh : xHas (nI (s i)) (nI (l i)) (μ.1 14 6) = false := (by unfold xHas; rw [show decide (nI (s i) = 0) = true from decide_eq_true h1, cond_true]; rw [show decide (μ.1 14 6 < nI (l i)) = false from decide_eq_false h4]; rw [show decide (nI (l i) + 2 < μ.1 14 6) = true from decide_eq_true (Int32.not_le.mp h5)]; rfl)
        have eb : mcB (μ.1 14 6) q s l i = false := by unfold mcB; rw [eh]; rfl
        exact hr 0 49 _ _ _ (some (.int 0)) (by decide +kernel) (z_rx_ok hH (by rfl)) (⟨rfl, by rw [eb]; rfl⟩)
noncomputable def rB (s l : Nat → Nat) : Nat → Int64
  | 0 => 0
  | i + 1 => if s i = 0 then rB s l i ||| ((1 : Int64) <<< ((nI (l i)).toInt64 &&& 63)) else rB s l i
noncomputable def tB (s l : Nat → Nat) : Nat → Int64
  | 0 => 0
  | i + 1 => if s i = 0 then tB s l i else tB s l i ||| ((1 : Int64) <<< ((nI (l i)).toInt64 &&& 63))
noncomputable def xWf (μ : zM) (c : Nat) : Int32 := match c with | 0 => xWf0 μ | 1 => xWf1 μ | 2 => xWf2 μ | 3 => xWf3 μ | _ => xWf4 μ
theorem fb_waitFu (μ : zM) (c : Nat) (hc : c < 5) : ∀ d, 1 ≤ d → z_C d mi_X1_waitFu [.ref 14, .int (nI c)] μ (zR μ (.int (xWf μ c))) := by
  intro d hd
  rcases c with _ | _ | _ | _ | _ | c
  · exact fb_X1_waitFu_0 d hd μ
  · exact fb_X1_waitFu_1 d hd μ
  · exact fb_X1_waitFu_2 d hd μ
  · exact fb_X1_waitFu_3 d hd μ
  · exact fb_X1_waitFu_4 d hd μ
  · omega
noncomputable def xHc0 (μ : zM) (c : Nat) : Bool := match c with | 0 => xHi_0_0 μ | 1 => xHi_0_1 μ | 2 => xHi_0_2 μ | 3 => xHi_0_3 μ | _ => xHi_0_4 μ
theorem fb_hid0 (μ : zM) (ht : μ.2.2 14 = 9) (c : Nat) (hc : c < 5) : ∀ d, 1 ≤ d → z_C d mi_X1_isHidden [.ref 14, .int 0, .int (nI c)] μ (zR μ (.int (nB (xHc0 μ c)))) := by
  intro d hd
  rcases c with _ | _ | _ | _ | _ | c
  · exact fb_X1_isHidden_0_0 d hd μ ht
  · exact fb_X1_isHidden_0_1 d hd μ ht
  · exact fb_X1_isHidden_0_2 d hd μ ht
  · exact fb_X1_isHidden_0_3 d hd μ ht
  · exact fb_X1_isHidden_0_4 d hd μ ht
  · omega
noncomputable def xHc1 (μ : zM) (c : Nat) : Bool := match c with | 0 => xHi_1_0 μ | 1 => xHi_1_1 μ | 2 => xHi_1_2 μ | 3 => xHi_1_3 μ | _ => xHi_1_4 μ
theorem fb_hid1 (μ : zM) (ht : μ.2.2 14 = 9) (c : Nat) (hc : c < 5) : ∀ d, 1 ≤ d → z_C d mi_X1_isHidden [.ref 14, .int 1, .int (nI c)] μ (zR μ (.int (nB (xHc1 μ c)))) := by
  intro d hd
  rcases c with _ | _ | _ | _ | _ | c
  · exact fb_X1_isHidden_1_0 d hd μ ht
  · exact fb_X1_isHidden_1_1 d hd μ ht
  · exact fb_X1_isHidden_1_2 d hd μ ht
  · exact fb_X1_isHidden_1_3 d hd μ ht
  · exact fb_X1_isHidden_1_4 d hd μ ht
  · omega
noncomputable def xHc2 (μ : zM) (c : Nat) : Bool := match c with | 0 => xHi_2_0 μ | 1 => xHi_2_1 μ | 2 => xHi_2_2 μ | 3 => xHi_2_3 μ | _ => xHi_2_4 μ
theorem fb_hid2 (μ : zM) (ht : μ.2.2 14 = 9) (c : Nat) (hc : c < 5) : ∀ d, 1 ≤ d → z_C d mi_X1_isHidden [.ref 14, .int 2, .int (nI c)] μ (zR μ (.int (nB (xHc2 μ c)))) := by
  intro d hd
  rcases c with _ | _ | _ | _ | _ | c
  · exact fb_X1_isHidden_2_0 d hd μ ht
  · exact fb_X1_isHidden_2_1 d hd μ ht
  · exact fb_X1_isHidden_2_2 d hd μ ht
  · exact fb_X1_isHidden_2_3 d hd μ ht
  · exact fb_X1_isHidden_2_4 d hd μ ht
  · omega
noncomputable def xHc3 (μ : zM) (c : Nat) : Bool := match c with | 0 => xHi_3_0 μ | 1 => xHi_3_1 μ | 2 => xHi_3_2 μ | 3 => xHi_3_3 μ | _ => xHi_3_4 μ
theorem fb_hid3 (μ : zM) (ht : μ.2.2 14 = 9) (c : Nat) (hc : c < 5) : ∀ d, 1 ≤ d → z_C d mi_X1_isHidden [.ref 14, .int 3, .int (nI c)] μ (zR μ (.int (nB (xHc3 μ c)))) := by
  intro d hd
  rcases c with _ | _ | _ | _ | _ | c
  · exact fb_X1_isHidden_3_0 d hd μ ht
  · exact fb_X1_isHidden_3_1 d hd μ ht
  · exact fb_X1_isHidden_3_2 d hd μ ht
  · exact fb_X1_isHidden_3_3 d hd μ ht
  · exact fb_X1_isHidden_3_4 d hd μ ht
  · omega
noncomputable def xSF (μ : zM) : Int64 := (((((((((((((((((μ.2.1 14 17) &&& 15032385536).toUInt64 >>> ((31 : Int32).toInt64.toUInt64 &&& Int64.toUInt64 63)).toInt64) <<< ((11 : Int32).toInt64 &&& 63)) ||| (lb (xHd (μ.2.1 14 17) (μ.1 14 9)) 14)) ||| (lb (xHd (μ.2.1 14 17) (μ.1 14 10)) 15)) ||| (lb (!(decide ((lg_cmp ((((μ.2.1 14 16) &&& (((μ.2.1 14 16).toUInt64 >>> ((9 : Int32).toInt64.toUInt64 &&& Int64.toUInt64 63)).toInt64)) &&& (((μ.2.1 14 16).toUInt64 >>> ((18 : Int32).toInt64.toUInt64 &&& Int64.toUInt64 63)).toInt64)) &&& 511) 0) = 0))) 17)) ||| (lb (((decide ((lg_cmp ((((μ.2.1 14 16).toUInt64 >>> ((0 : Int32).toInt64.toUInt64 &&& Int64.toUInt64 63)).toInt64) &&& 73) 73) = 0)) || (decide ((lg_cmp ((((μ.2.1 14 16).toUInt64 >>> ((9 : Int32).toInt64.toUInt64 &&& Int64.toUInt64 63)).toInt64) &&& 73) 73) = 0))) || (decide ((lg_cmp ((((μ.2.1 14 16).toUInt64 >>> ((18 : Int32).toInt64.toUInt64 &&& Int64.toUInt64 63)).toInt64) &&& 73) 73) = 0))) 18)) ||| (lb (decide ((lg_cmp (μ.2.1 14 16) 0) = 0)) 19)) ||| (lb (decide (((((0 + (nB ((decide ((μ.1 15 0) = 2)) || (decide ((μ.1 15 0) = 3))))) + (nB ((decide ((μ.1 15 1) = 2)) || (decide ((μ.1 15 1) = 3))))) + (nB ((decide ((μ.1 15 2) = 2)) || (decide ((μ.1 15 2) = 3))))) + (nB ((decide ((μ.1 15 3) = 2)) || (decide ((μ.1 15 3) = 3))))) = 3)) 21)) ||| (lb (!(decide ((lg_cmp ((((μ.2.1 14 17) &&& (((μ.2.1 14 17).toUInt64 >>> ((9 : Int32).toInt64.toUInt64 &&& Int64.toUInt64 63)).toInt64)) &&& (((μ.2.1 14 17).toUInt64 >>> ((18 : Int32).toInt64.toUInt64 &&& Int64.toUInt64 63)).toInt64)) &&& 511) 0) = 0))) 22)) ||| (lb ((decide ((xBc ((μ.2.1 14 17) &&& 15032385536)) = 2)) && (xHd 15032385536 (μ.1 14 15))) 25)) ||| (lb (decide ((xBc ((μ.2.1 14 17) &&& 15032385536)) = 3)) 34)) ||| (lb ((decide ((xBc ((μ.2.1 14 17) &&& 2013265920)) = 3)) && (xHd 2013265920 (μ.1 14 15))) 35)) ||| (lb (decide ((xBc ((μ.2.1 14 17) &&& 2013265920)) = 4)) 36)) ||| (lb (decide (((((0 + (nB ((decide ((μ.1 15 0) = 2)) || (decide ((μ.1 15 0) = 3))))) + (nB ((decide ((μ.1 15 1) = 2)) || (decide ((μ.1 15 1) = 3))))) + (nB ((decide ((μ.1 15 2) = 2)) || (decide ((μ.1 15 2) = 3))))) + (nB ((decide ((μ.1 15 3) = 2)) || (decide ((μ.1 15 3) = 3))))) = 4)) 41))
noncomputable def xLR (μ : zM) : Int64 := ((lb (decide ((((0 + ((0 + (nB ((decide ((μ.1 15 1) = 0)) && ((decide ((μ.1 15 0) = 0)) && (decide ((μ.1 16 1) = (μ.1 16 0))))))) - (0 + (nB ((decide ((μ.1 15 1) = 0)) && ((decide ((μ.1 15 0) = 0)) && (decide ((μ.1 16 1) = (μ.1 16 0))))))) / 2 * 2)) + (((0 + (nB ((decide ((μ.1 15 2) = 0)) && ((decide ((μ.1 15 0) = 0)) && (decide ((μ.1 16 2) = (μ.1 16 0))))))) + (nB ((decide ((μ.1 15 2) = 0)) && ((decide ((μ.1 15 1) = 0)) && (decide ((μ.1 16 2) = (μ.1 16 1))))))) - ((0 + (nB ((decide ((μ.1 15 2) = 0)) && ((decide ((μ.1 15 0) = 0)) && (decide ((μ.1 16 2) = (μ.1 16 0))))))) + (nB ((decide ((μ.1 15 2) = 0)) && ((decide ((μ.1 15 1) = 0)) && (decide ((μ.1 16 2) = (μ.1 16 1))))))) / 2 * 2)) + ((((0 + (nB ((decide ((μ.1 15 3) = 0)) && ((decide ((μ.1 15 0) = 0)) && (decide ((μ.1 16 3) = (μ.1 16 0))))))) + (nB ((decide ((μ.1 15 3) = 0)) && ((decide ((μ.1 15 1) = 0)) && (decide ((μ.1 16 3) = (μ.1 16 1))))))) + (nB ((decide ((μ.1 15 3) = 0)) && ((decide ((μ.1 15 2) = 0)) && (decide ((μ.1 16 3) = (μ.1 16 2))))))) - (((0 + (nB ((decide ((μ.1 15 3) = 0)) && ((decide ((μ.1 15 0) = 0)) && (decide ((μ.1 16 3) = (μ.1 16 0))))))) + (nB ((decide ((μ.1 15 3) = 0)) && ((decide ((μ.1 15 1) = 0)) && (decide ((μ.1 16 3) = (μ.1 16 1))))))) + (nB ((decide ((μ.1 15 3) = 0)) && ((decide ((μ.1 15 2) = 0)) && (decide ((μ.1 16 3) = (μ.1 16 2))))))) / 2 * 2)) = 1)) 10) ||| (lb (decide ((((0 + ((0 + (nB ((decide ((μ.1 15 1) = 0)) && ((decide ((μ.1 15 0) = 0)) && (decide ((μ.1 16 1) = (μ.1 16 0))))))) - (0 + (nB ((decide ((μ.1 15 1) = 0)) && ((decide ((μ.1 15 0) = 0)) && (decide ((μ.1 16 1) = (μ.1 16 0))))))) / 2 * 2)) + (((0 + (nB ((decide ((μ.1 15 2) = 0)) && ((decide ((μ.1 15 0) = 0)) && (decide ((μ.1 16 2) = (μ.1 16 0))))))) + (nB ((decide ((μ.1 15 2) = 0)) && ((decide ((μ.1 15 1) = 0)) && (decide ((μ.1 16 2) = (μ.1 16 1))))))) - ((0 + (nB ((decide ((μ.1 15 2) = 0)) && ((decide ((μ.1 15 0) = 0)) && (decide ((μ.1 16 2) = (μ.1 16 0))))))) + (nB ((decide ((μ.1 15 2) = 0)) && ((decide ((μ.1 15 1) = 0)) && (decide ((μ.1 16 2) = (μ.1 16 1))))))) / 2 * 2)) + ((((0 + (nB ((decide ((μ.1 15 3) = 0)) && ((decide ((μ.1 15 0) = 0)) && (decide ((μ.1 16 3) = (μ.1 16 0))))))) + (nB ((decide ((μ.1 15 3) = 0)) && ((decide ((μ.1 15 1) = 0)) && (decide ((μ.1 16 3) = (μ.1 16 1))))))) + (nB ((decide ((μ.1 15 3) = 0)) && ((decide ((μ.1 15 2) = 0)) && (decide ((μ.1 16 3) = (μ.1 16 2))))))) - (((0 + (nB ((decide ((μ.1 15 3) = 0)) && ((decide ((μ.1 15 0) = 0)) && (decide ((μ.1 16 3) = (μ.1 16 0))))))) + (nB ((decide ((μ.1 15 3) = 0)) && ((decide ((μ.1 15 1) = 0)) && (decide ((μ.1 16 3) = (μ.1 16 1))))))) + (nB ((decide ((μ.1 15 3) = 0)) && ((decide ((μ.1 15 2) = 0)) && (decide ((μ.1 16 3) = (μ.1 16 2))))))) / 2 * 2)) = 2)) 28))
noncomputable def xEF (μ : zM) : Int64 := ((lb ((((((xHd 17113154305 (μ.1 14 15)) && (!(decide ((lg_cmp (((bif decide ((μ.1 15 0) = 0) then (7 : Int64) else 1) <<< ((μ.1 16 0).toInt64 &&& 63)) &&& 17113154305) 0) = 0)))) && (!(decide ((lg_cmp (((bif decide ((μ.1 15 1) = 0) then (7 : Int64) else 1) <<< ((μ.1 16 1).toInt64 &&& 63)) &&& 17113154305) 0) = 0)))) && (!(decide ((lg_cmp (((bif decide ((μ.1 15 2) = 0) then (7 : Int64) else 1) <<< ((μ.1 16 2).toInt64 &&& 63)) &&& 17113154305) 0) = 0)))) && (!(decide ((lg_cmp (((bif decide ((μ.1 15 3) = 0) then (7 : Int64) else 1) <<< ((μ.1 16 3).toInt64 &&& 63)) &&& 17113154305) 0) = 0)))) && (((xHd 17045651456 (μ.1 14 15)) || (!(decide ((lg_cmp ((μ.2.1 14 17) &&& 17045651456) 0) = 0)))) && (!(decide ((lg_cmp (μ.2.1 14 16) 0) = 0))))) 23) ||| (lb ((((((xHd 67502849 (μ.1 14 15)) && (!(decide ((lg_cmp (((bif decide ((μ.1 15 0) = 0) then (7 : Int64) else 1) <<< ((μ.1 16 0).toInt64 &&& 63)) &&& 67502849) 0) = 0)))) && (!(decide ((lg_cmp (((bif decide ((μ.1 15 1) = 0) then (7 : Int64) else 1) <<< ((μ.1 16 1).toInt64 &&& 63)) &&& 67502849) 0) = 0)))) && (!(decide ((lg_cmp (((bif decide ((μ.1 15 2) = 0) then (7 : Int64) else 1) <<< ((μ.1 16 2).toInt64 &&& 63)) &&& 67502849) 0) = 0)))) && (!(decide ((lg_cmp (((bif decide ((μ.1 15 3) = 0) then (7 : Int64) else 1) <<< ((μ.1 16 3).toInt64 &&& 63)) &&& 67502849) 0) = 0)))) && (!(decide ((lg_cmp (μ.2.1 14 16) 0) = 0)))) 27))
/-- the value of a way with its completed SET, as the class has it -/
noncomputable def vC (μ : zM) (c : Nat) : Q4 := vW μ (((μ.2.1 14 12 ||| xLR μ) ||| xSF μ) ||| xEF μ) (nI c) (xWf μ c) (xHc0 μ c) (xHc1 μ c) (xHc2 μ c) (xHc3 μ c)
noncomputable def CI (S : Q4 → Prop) (N : Nat) (μ : zM) : Prop := ∃ n, n ≤ N ∧ μ.1 14 4 = nI n ∧ ((n = 0 ∧ bqC μ = (0, 0, 0, 0) ∧ ∀ x, ¬ S x) ∨ (0 < n ∧ ∃ f, S f ∧ BS S f (bqC μ)))
theorem CI.iff {S T : Q4 → Prop} {N : Nat} {μ : zM} (h : CI S N μ) (e : ∀ x, S x ↔ T x) : CI T N μ := by
  obtain ⟨n, h1, h2, h3⟩ := h
  exact ⟨n, h1, h2, h3.imp (fun z => ⟨z.1, z.2.1, fun x hx => z.2.2 x ((e x).mpr hx)⟩) (fun ⟨z, f, hf, hb⟩ => ⟨z, f, (e f).mp hf, hb.iff e⟩)⟩
theorem CI.up {S : Q4 → Prop} {N M : Nat} {μ : zM} (h : CI S N μ) (e : N ≤ M) : CI S M μ := by
  obtain ⟨n, h1, h2, h3⟩ := h
  exact ⟨n, by omega, h2, h3⟩
theorem CI.add {S : Q4 → Prop} {N : Nat} {μ μ' : zM} {x : Q4} (h : CI S N μ) (hN : N < 100000) (ho : OQ μ μ' x) : CI (fun y => S y ∨ y = x) (N + 1) μ' := by
  obtain ⟨n, h1, h2, h3⟩ := h
  refine ⟨n + 1, by omega, by rw [ho.2.2.1, h2, nI_1], Or.inr ⟨by omega, ?_⟩⟩
  have e1 : μ.1 14 4 + 1 = 1 ↔ n = 0 := by
    rw [h2, nI_1]
    exact ⟨fun z => by have := (nI_eq (show n + 1 < 2 ^ 31 by omega) (show 1 < 2 ^ 31 by decide)).mp z; omega, fun z => by rw [z]; rfl⟩
  rcases h3 with ⟨z, _, hn⟩ | ⟨z, f, hf, hb⟩
  · rcases ho.2.2.2 with ⟨_, e⟩ | ⟨c, _⟩
    · refine ⟨x, Or.inr rfl, ?_⟩
      rw [e]
      exact ⟨Or.inl rfl, g4_irr x, fun y hy => by rcases hy with hy | hy; exact absurd hy (hn y); rw [hy]; exact g4_irr x⟩
    · exact absurd (e1.mpr z) c
  · rcases ho.2.2.2 with ⟨c, _⟩ | ⟨_, hb2⟩
    · exact absurd (e1.mp c) (by omega)
    · exact ⟨f, Or.inl hf, hb.tr hb2⟩
/-! the class: all completed SETS of a way -/
set_option maxRecDepth 8000
noncomputable def AC (μ μ' : zM) : Prop := (μ.1 15 0 = μ'.1 15 0) ∧ (μ.1 16 0 = μ'.1 16 0) ∧ (μ.1 15 1 = μ'.1 15 1) ∧ (μ.1 16 1 = μ'.1 16 1) ∧ (μ.1 15 2 = μ'.1 15 2) ∧ (μ.1 16 2 = μ'.1 16 2) ∧ (μ.1 15 3 = μ'.1 15 3) ∧ (μ.1 16 3 = μ'.1 16 3) ∧ (μ.1 14 6 = μ'.1 14 6) ∧ (μ.1 14 7 = μ'.1 14 7) ∧ (μ.1 14 8 = μ'.1 14 8) ∧ (μ.1 14 9 = μ'.1 14 9) ∧ (μ.1 14 10 = μ'.1 14 10) ∧ (μ.1 14 11 = μ'.1 14 11) ∧ (μ.1 14 15 = μ'.1 14 15) ∧ (μ.1 9 4 = μ'.1 9 4) ∧ (μ.2.1 14 12 = μ'.2.1 14 12) ∧ (μ.2.1 14 16 = μ'.2.1 14 16) ∧ (μ.2.1 14 17 = μ'.2.1 14 17)
theorem AC.s0 {μ μ' : zM} (h : AC μ μ') : μ.1 15 0 = μ'.1 15 0 := h.1
theorem AC.l0 {μ μ' : zM} (h : AC μ μ') : μ.1 16 0 = μ'.1 16 0 := h.2.1
theorem AC.s1 {μ μ' : zM} (h : AC μ μ') : μ.1 15 1 = μ'.1 15 1 := h.2.2.1
theorem AC.l1 {μ μ' : zM} (h : AC μ μ') : μ.1 16 1 = μ'.1 16 1 := h.2.2.2.1
theorem AC.s2 {μ μ' : zM} (h : AC μ μ') : μ.1 15 2 = μ'.1 15 2 := h.2.2.2.2.1
theorem AC.l2 {μ μ' : zM} (h : AC μ μ') : μ.1 16 2 = μ'.1 16 2 := h.2.2.2.2.2.1
theorem AC.s3 {μ μ' : zM} (h : AC μ μ') : μ.1 15 3 = μ'.1 15 3 := h.2.2.2.2.2.2.1
theorem AC.l3 {μ μ' : zM} (h : AC μ μ') : μ.1 16 3 = μ'.1 16 3 := h.2.2.2.2.2.2.2.1
theorem AC.c6 {μ μ' : zM} (h : AC μ μ') : μ.1 14 6 = μ'.1 14 6 := h.2.2.2.2.2.2.2.2.1
theorem AC.c7 {μ μ' : zM} (h : AC μ μ') : μ.1 14 7 = μ'.1 14 7 := h.2.2.2.2.2.2.2.2.2.1
theorem AC.c8 {μ μ' : zM} (h : AC μ μ') : μ.1 14 8 = μ'.1 14 8 := h.2.2.2.2.2.2.2.2.2.2.1
theorem AC.c9 {μ μ' : zM} (h : AC μ μ') : μ.1 14 9 = μ'.1 14 9 := h.2.2.2.2.2.2.2.2.2.2.2.1
theorem AC.c10 {μ μ' : zM} (h : AC μ μ') : μ.1 14 10 = μ'.1 14 10 := h.2.2.2.2.2.2.2.2.2.2.2.2.1
theorem AC.c11 {μ μ' : zM} (h : AC μ μ') : μ.1 14 11 = μ'.1 14 11 := h.2.2.2.2.2.2.2.2.2.2.2.2.2.1
theorem AC.c15 {μ μ' : zM} (h : AC μ μ') : μ.1 14 15 = μ'.1 14 15 := h.2.2.2.2.2.2.2.2.2.2.2.2.2.2.1
theorem AC.d4 {μ μ' : zM} (h : AC μ μ') : μ.1 9 4 = μ'.1 9 4 := h.2.2.2.2.2.2.2.2.2.2.2.2.2.2.2.1
theorem AC.t12 {μ μ' : zM} (h : AC μ μ') : μ.2.1 14 12 = μ'.2.1 14 12 := h.2.2.2.2.2.2.2.2.2.2.2.2.2.2.2.2.1
theorem AC.t16 {μ μ' : zM} (h : AC μ μ') : μ.2.1 14 16 = μ'.2.1 14 16 := h.2.2.2.2.2.2.2.2.2.2.2.2.2.2.2.2.2.1
theorem AC.t17 {μ μ' : zM} (h : AC μ μ') : μ.2.1 14 17 = μ'.2.1 14 17 := h.2.2.2.2.2.2.2.2.2.2.2.2.2.2.2.2.2.2
theorem ac_xLR {μ : zM} {μ' : zM} (h : AC μ μ') : xLR μ = xLR μ' := by simp only [xLR, h.s0, h.s1, h.s2, h.s3, h.l0, h.l1, h.l2, h.l3, h.c6, h.c7, h.c8, h.c9, h.c10, h.c11, h.c15, h.d4, h.t12, h.t16, h.t17]
theorem ac_xSF {μ : zM} {μ' : zM} (h : AC μ μ') : xSF μ = xSF μ' := by simp only [xSF, h.s0, h.s1, h.s2, h.s3, h.l0, h.l1, h.l2, h.l3, h.c6, h.c7, h.c8, h.c9, h.c10, h.c11, h.c15, h.d4, h.t12, h.t16, h.t17]
theorem ac_xEF {μ : zM} {μ' : zM} (h : AC μ μ') : xEF μ = xEF μ' := by simp only [xEF, h.s0, h.s1, h.s2, h.s3, h.l0, h.l1, h.l2, h.l3, h.c6, h.c7, h.c8, h.c9, h.c10, h.c11, h.c15, h.d4, h.t12, h.t16, h.t17]
theorem ac_xPf {μ : zM} {μ' : zM} (h : AC μ μ') : xPf μ = xPf μ' := by simp only [xPf, h.s0, h.s1, h.s2, h.s3, h.l0, h.l1, h.l2, h.l3, h.c6, h.c7, h.c8, h.c9, h.c10, h.c11, h.c15, h.d4, h.t12, h.t16, h.t17]
theorem ac_xWf0 {μ : zM} {μ' : zM} (h : AC μ μ') : xWf0 μ = xWf0 μ' := by simp only [xWf0, h.s0, h.s1, h.s2, h.s3, h.l0, h.l1, h.l2, h.l3, h.c6, h.c7, h.c8, h.c9, h.c10, h.c11, h.c15, h.d4, h.t12, h.t16, h.t17]
theorem ac_xWf1 {μ : zM} {μ' : zM} (h : AC μ μ') : xWf1 μ = xWf1 μ' := by simp only [xWf1, h.s0, h.s1, h.s2, h.s3, h.l0, h.l1, h.l2, h.l3, h.c6, h.c7, h.c8, h.c9, h.c10, h.c11, h.c15, h.d4, h.t12, h.t16, h.t17]
theorem ac_xWf2 {μ : zM} {μ' : zM} (h : AC μ μ') : xWf2 μ = xWf2 μ' := by simp only [xWf2, h.s0, h.s1, h.s2, h.s3, h.l0, h.l1, h.l2, h.l3, h.c6, h.c7, h.c8, h.c9, h.c10, h.c11, h.c15, h.d4, h.t12, h.t16, h.t17]
theorem ac_xWf3 {μ : zM} {μ' : zM} (h : AC μ μ') : xWf3 μ = xWf3 μ' := by simp only [xWf3, h.s0, h.s1, h.s2, h.s3, h.l0, h.l1, h.l2, h.l3, h.c6, h.c7, h.c8, h.c9, h.c10, h.c11, h.c15, h.d4, h.t12, h.t16, h.t17]
theorem ac_xHi_0_0 {μ : zM} {μ' : zM} (h : AC μ μ') : xHi_0_0 μ = xHi_0_0 μ' := by simp only [xHi_0_0, h.s0, h.s1, h.s2, h.s3, h.l0, h.l1, h.l2, h.l3, h.c6, h.c7, h.c8, h.c9, h.c10, h.c11, h.c15, h.d4, h.t12, h.t16, h.t17]
theorem ac_xHi_0_1 {μ : zM} {μ' : zM} (h : AC μ μ') : xHi_0_1 μ = xHi_0_1 μ' := by simp only [xHi_0_1, h.s0, h.s1, h.s2, h.s3, h.l0, h.l1, h.l2, h.l3, h.c6, h.c7, h.c8, h.c9, h.c10, h.c11, h.c15, h.d4, h.t12, h.t16, h.t17]
theorem ac_xHi_0_2 {μ : zM} {μ' : zM} (h : AC μ μ') : xHi_0_2 μ = xHi_0_2 μ' := by simp only [xHi_0_2, h.s0, h.s1, h.s2, h.s3, h.l0, h.l1, h.l2, h.l3, h.c6, h.c7, h.c8, h.c9, h.c10, h.c11, h.c15, h.d4, h.t12, h.t16, h.t17]
theorem ac_xHi_0_3 {μ : zM} {μ' : zM} (h : AC μ μ') : xHi_0_3 μ = xHi_0_3 μ' := by simp only [xHi_0_3, h.s0, h.s1, h.s2, h.s3, h.l0, h.l1, h.l2, h.l3, h.c6, h.c7, h.c8, h.c9, h.c10, h.c11, h.c15, h.d4, h.t12, h.t16, h.t17]
theorem ac_xHi_0_4 {μ : zM} {μ' : zM} (h : AC μ μ') : xHi_0_4 μ = xHi_0_4 μ' := by simp only [xHi_0_4, h.s0, h.s1, h.s2, h.s3, h.l0, h.l1, h.l2, h.l3, h.c6, h.c7, h.c8, h.c9, h.c10, h.c11, h.c15, h.d4, h.t12, h.t16, h.t17]
theorem ac_xHi_1_0 {μ : zM} {μ' : zM} (h : AC μ μ') : xHi_1_0 μ = xHi_1_0 μ' := by simp only [xHi_1_0, h.s0, h.s1, h.s2, h.s3, h.l0, h.l1, h.l2, h.l3, h.c6, h.c7, h.c8, h.c9, h.c10, h.c11, h.c15, h.d4, h.t12, h.t16, h.t17]
theorem ac_xHi_1_1 {μ : zM} {μ' : zM} (h : AC μ μ') : xHi_1_1 μ = xHi_1_1 μ' := by simp only [xHi_1_1, h.s0, h.s1, h.s2, h.s3, h.l0, h.l1, h.l2, h.l3, h.c6, h.c7, h.c8, h.c9, h.c10, h.c11, h.c15, h.d4, h.t12, h.t16, h.t17]
theorem ac_xHi_1_2 {μ : zM} {μ' : zM} (h : AC μ μ') : xHi_1_2 μ = xHi_1_2 μ' := by simp only [xHi_1_2, h.s0, h.s1, h.s2, h.s3, h.l0, h.l1, h.l2, h.l3, h.c6, h.c7, h.c8, h.c9, h.c10, h.c11, h.c15, h.d4, h.t12, h.t16, h.t17]
theorem ac_xHi_1_3 {μ : zM} {μ' : zM} (h : AC μ μ') : xHi_1_3 μ = xHi_1_3 μ' := by simp only [xHi_1_3, h.s0, h.s1, h.s2, h.s3, h.l0, h.l1, h.l2, h.l3, h.c6, h.c7, h.c8, h.c9, h.c10, h.c11, h.c15, h.d4, h.t12, h.t16, h.t17]
theorem ac_xHi_1_4 {μ : zM} {μ' : zM} (h : AC μ μ') : xHi_1_4 μ = xHi_1_4 μ' := by simp only [xHi_1_4, h.s0, h.s1, h.s2, h.s3, h.l0, h.l1, h.l2, h.l3, h.c6, h.c7, h.c8, h.c9, h.c10, h.c11, h.c15, h.d4, h.t12, h.t16, h.t17]
theorem ac_xHi_2_0 {μ : zM} {μ' : zM} (h : AC μ μ') : xHi_2_0 μ = xHi_2_0 μ' := by simp only [xHi_2_0, h.s0, h.s1, h.s2, h.s3, h.l0, h.l1, h.l2, h.l3, h.c6, h.c7, h.c8, h.c9, h.c10, h.c11, h.c15, h.d4, h.t12, h.t16, h.t17]
theorem ac_xHi_2_1 {μ : zM} {μ' : zM} (h : AC μ μ') : xHi_2_1 μ = xHi_2_1 μ' := by simp only [xHi_2_1, h.s0, h.s1, h.s2, h.s3, h.l0, h.l1, h.l2, h.l3, h.c6, h.c7, h.c8, h.c9, h.c10, h.c11, h.c15, h.d4, h.t12, h.t16, h.t17]
theorem ac_xHi_2_2 {μ : zM} {μ' : zM} (h : AC μ μ') : xHi_2_2 μ = xHi_2_2 μ' := by simp only [xHi_2_2, h.s0, h.s1, h.s2, h.s3, h.l0, h.l1, h.l2, h.l3, h.c6, h.c7, h.c8, h.c9, h.c10, h.c11, h.c15, h.d4, h.t12, h.t16, h.t17]
theorem ac_xHi_2_3 {μ : zM} {μ' : zM} (h : AC μ μ') : xHi_2_3 μ = xHi_2_3 μ' := by simp only [xHi_2_3, h.s0, h.s1, h.s2, h.s3, h.l0, h.l1, h.l2, h.l3, h.c6, h.c7, h.c8, h.c9, h.c10, h.c11, h.c15, h.d4, h.t12, h.t16, h.t17]
theorem ac_xHi_2_4 {μ : zM} {μ' : zM} (h : AC μ μ') : xHi_2_4 μ = xHi_2_4 μ' := by simp only [xHi_2_4, h.s0, h.s1, h.s2, h.s3, h.l0, h.l1, h.l2, h.l3, h.c6, h.c7, h.c8, h.c9, h.c10, h.c11, h.c15, h.d4, h.t12, h.t16, h.t17]
theorem ac_xHi_3_0 {μ : zM} {μ' : zM} (h : AC μ μ') : xHi_3_0 μ = xHi_3_0 μ' := by simp only [xHi_3_0, h.s0, h.s1, h.s2, h.s3, h.l0, h.l1, h.l2, h.l3, h.c6, h.c7, h.c8, h.c9, h.c10, h.c11, h.c15, h.d4, h.t12, h.t16, h.t17]
theorem ac_xHi_3_1 {μ : zM} {μ' : zM} (h : AC μ μ') : xHi_3_1 μ = xHi_3_1 μ' := by simp only [xHi_3_1, h.s0, h.s1, h.s2, h.s3, h.l0, h.l1, h.l2, h.l3, h.c6, h.c7, h.c8, h.c9, h.c10, h.c11, h.c15, h.d4, h.t12, h.t16, h.t17]
theorem ac_xHi_3_2 {μ : zM} {μ' : zM} (h : AC μ μ') : xHi_3_2 μ = xHi_3_2 μ' := by simp only [xHi_3_2, h.s0, h.s1, h.s2, h.s3, h.l0, h.l1, h.l2, h.l3, h.c6, h.c7, h.c8, h.c9, h.c10, h.c11, h.c15, h.d4, h.t12, h.t16, h.t17]
theorem ac_xHi_3_3 {μ : zM} {μ' : zM} (h : AC μ μ') : xHi_3_3 μ = xHi_3_3 μ' := by simp only [xHi_3_3, h.s0, h.s1, h.s2, h.s3, h.l0, h.l1, h.l2, h.l3, h.c6, h.c7, h.c8, h.c9, h.c10, h.c11, h.c15, h.d4, h.t12, h.t16, h.t17]
theorem ac_xHi_3_4 {μ : zM} {μ' : zM} (h : AC μ μ') : xHi_3_4 μ = xHi_3_4 μ' := by simp only [xHi_3_4, h.s0, h.s1, h.s2, h.s3, h.l0, h.l1, h.l2, h.l3, h.c6, h.c7, h.c8, h.c9, h.c10, h.c11, h.c15, h.d4, h.t12, h.t16, h.t17]
theorem ac_xWf {μ : zM} {μ' : zM} (h : AC μ μ') (c : Nat) : xWf μ c = xWf μ' c := by
  rcases c with _ | _ | _ | _ | c
  · exact ac_xWf0 h
  · exact ac_xWf1 h
  · exact ac_xWf2 h
  · exact ac_xWf3 h
  · rfl
theorem ac_xHc0 {μ : zM} {μ' : zM} (h : AC μ μ') (c : Nat) : xHc0 μ c = xHc0 μ' c := by
  rcases c with _ | _ | _ | _ | c
  · exact ac_xHi_0_0 h
  · exact ac_xHi_0_1 h
  · exact ac_xHi_0_2 h
  · exact ac_xHi_0_3 h
  · exact ac_xHi_0_4 h
theorem ac_xHc1 {μ : zM} {μ' : zM} (h : AC μ μ') (c : Nat) : xHc1 μ c = xHc1 μ' c := by
  rcases c with _ | _ | _ | _ | c
  · exact ac_xHi_1_0 h
  · exact ac_xHi_1_1 h
  · exact ac_xHi_1_2 h
  · exact ac_xHi_1_3 h
  · exact ac_xHi_1_4 h
theorem ac_xHc2 {μ : zM} {μ' : zM} (h : AC μ μ') (c : Nat) : xHc2 μ c = xHc2 μ' c := by
  rcases c with _ | _ | _ | _ | c
  · exact ac_xHi_2_0 h
  · exact ac_xHi_2_1 h
  · exact ac_xHi_2_2 h
  · exact ac_xHi_2_3 h
  · exact ac_xHi_2_4 h
theorem ac_xHc3 {μ : zM} {μ' : zM} (h : AC μ μ') (c : Nat) : xHc3 μ c = xHc3 μ' c := by
  rcases c with _ | _ | _ | _ | c
  · exact ac_xHi_3_0 h
  · exact ac_xHi_3_1 h
  · exact ac_xHi_3_2 h
  · exact ac_xHi_3_3 h
  · exact ac_xHi_3_4 h
theorem ac_wFl {μ : zM} {μ' : zM} (h : AC μ μ') (cc wf : Int32) : wFl μ cc wf = wFl μ' cc wf := by unfold wFl; rw [h.t17, h.c8, ac_xPf h]
theorem ac_wHi {μ : zM} {μ' : zM} (h : AC μ μ') (a b c d : Bool) : wHi μ a b c d = wHi μ' a b c d := by unfold wHi; rw [h.s0, h.s1, h.s2, h.s3]
theorem ac_fuC {μ : zM} {μ' : zM} (h : AC μ μ') (fl : Bool) (wf : Int32) (a b c d : Bool) : fuC μ fl wf a b c d = fuC μ' fl wf a b c d := by
  unfold fuC
  rw [show ∀ x, fuE μ x = fuE μ' x from fun x => by unfold fuE; rw [h.c8], show fuS μ wf fl = fuS μ' wf fl by unfold fuS; rw [ac_xPf h, h.c7, h.c8], h.s0, h.s1, h.s2, h.s3, h.l0, h.l1, h.l2, h.l3]
theorem ac_vC {μ : zM} {μ' : zM} (h : AC μ μ') (c : Nat) : vC μ c = vC μ' c := by
  unfold vC vW
  rw [ac_xLR h, ac_xSF h, ac_xEF h, ac_xWf h, ac_xHc0 h, ac_xHc1 h, ac_xHc2 h, ac_xHc3 h, ac_wFl h, ac_wHi h, ac_fuC h, h.t12, h.c8, h.c11]
/-- the memory of a way of the class -/
noncomputable def cM (κ : zM) (s l : Nat → Nat) (p : Int32) : zM := (fun r k => if r = 15 then nI (s k) else if r = 16 then nI (l k) else if r = 14 ∧ k = 15 then p else κ.1 r k, fun r k => if r = 14 ∧ k = 16 then rB s l 4 else if r = 14 ∧ k = 17 then tB s l 4 else κ.2.1 r k, κ.2.2)
noncomputable def OC (κ : zM) (q p : Nat) (s l : Nat → Nat) (c : Nat) (x : Q4) : Prop := mc (κ.1 14 6) q p s l c = true ∧ x = vC (cM κ s l (nI p)) c
noncomputable abbrev mdJ : List (Nat × Nat) := [(14, 0), (14, 1), (14, 2), (14, 3), (14, 4), (14, 15), (14, 16), (14, 17), (15, 9999), (16, 9999), (17, 9999)]
noncomputable abbrev mdWW : List (Nat × Nat) := [(14, 0), (14, 1), (14, 2), (14, 3), (14, 4), (14, 16), (14, 17)]
theorem AC_way {κ μ : zM} {s l : Nat → Nat} {p : Nat} (hF : a_Fz mdJ κ μ) (hW : CW μ s l) (hp : μ.1 14 15 = nI p) (h16 : μ.2.1 14 16 = rB s l 4) (h17 : μ.2.1 14 17 = tB s l 4) : AC μ (cM κ s l (nI p)) := by
  have y5 : ∀ b, ¬ b = 15 → a_md mdJ 14 b = false → μ.1 14 b = (cM κ s l (nI p)).1 14 b := fun b h1 h4 => by
    rw [a_Fz_at hF 14 b h4]
    show _ = if 14 = 15 then nI (s b) else if 14 = 16 then nI (l b) else if 14 = 14 ∧ b = 15 then nI p else κ.1 14 b
    rw [if_neg (by omega), if_neg (by omega), if_neg (fun z => h1 z.2)]
  exact ⟨(hW 0 (by omega)).1.1, (hW 0 (by omega)).2.1, (hW 1 (by omega)).1.1, (hW 1 (by omega)).2.1, (hW 2 (by omega)).1.1, (hW 2 (by omega)).2.1, (hW 3 (by omega)).1.1, (hW 3 (by omega)).2.1, y5 6 (by omega) (by decide +kernel), y5 7 (by omega) (by decide +kernel), y5 8 (by omega) (by decide +kernel), y5 9 (by omega) (by decide +kernel), y5 10 (by omega) (by decide +kernel), y5 11 (by omega) (by decide +kernel), hp, a_Fz_at hF 9 4 (a_md_row (by decide +kernel)), (hF.1 14 12 (by decide +kernel)).2, h16, h17⟩
theorem zh_X1_weighWay : zH mi_X1_weighWay zt_X1_weighWay 79 1 4 := hh_X1_weighWay
noncomputable def WT (μ μ1 : zM) (s l : Nat → Nat) (i : Nat) : Prop := a_Fz [(14, 16), (14, 17)] μ μ1 ∧ a_H μ1 ∧ μ1.2.1 14 16 = rB s l i ∧ μ1.2.1 14 17 = tB s l i
theorem WT.r {μ μ1 : zM} {s l : Nat → Nat} {i : Nat} {x : Int64} (h : WT μ μ1 s l i) (h0 : s i = 0) (hx : x = rB s l i ||| ((1 : Int64) <<< ((nI (l i)).toInt64 &&& 63))) : WT μ (z_uj μ1 14 16 x) s l (i + 1) := ⟨a_Fz_uj h.1 (by decide +kernel), a_H_uj h.2.1, by rw [z_uj_rd, if_pos ⟨rfl, rfl⟩, hx]; show _ = if s i = 0 then _ else _; rw [if_pos h0], by rw [z_uj_rd, if_neg (by omega), h.2.2.2]; show _ = if s i = 0 then _ else _; rw [if_pos h0]⟩
theorem WT.t {μ μ1 : zM} {s l : Nat → Nat} {i : Nat} {x : Int64} (h : WT μ μ1 s l i) (h0 : ¬ s i = 0) (hx : x = tB s l i ||| ((1 : Int64) <<< ((nI (l i)).toInt64 &&& 63))) : WT μ (z_uj μ1 14 17 x) s l (i + 1) := ⟨a_Fz_uj h.1 (by decide +kernel), a_H_uj h.2.1, by rw [z_uj_rd, if_neg (by omega), h.2.2.1]; show _ = if s i = 0 then _ else _; rw [if_neg h0], by rw [z_uj_rd, if_pos ⟨rfl, rfl⟩, hx]; show _ = if s i = 0 then _ else _; rw [if_neg h0]⟩
theorem wW12 (d' : Nat) (Z : zK) (hd : 4 ≤ d') (κ μ : zM) (q p : Nat) (s l : Nat → Nat) (S : Q4 → Prop) (N : Nat) (hN : N + 10 < 100000) (hq : q ≤ 4) (hp : p < 34) (hF : a_Fz mdJ κ μ) (hW : CW μ s l) (h15 : μ.1 14 15 = nI p) (ht : μ.2.2 14 = 9) (e4 : μ.1 9 4 = nI q) (hc : z_clo z_x0 mi_X1_weighWay (z_C d') Z) (K : ∀ μ1, WT μ μ1 s l 4 → Z 0 69 [(1, .int (nI 4)), (0, .ref 14)] [] μ1) : ∀ n i, i + n = 4 → ∀ μ1, WT μ μ1 s l i → Z 0 12 [(1, .int (nI i)), (0, .ref 14)] [] μ1 := by
  have hH := zh_X1_weighWay
  intro n
  induction n with
  | zero =>
    intro i hi μ1 g
    have hi : i = 4 := by omega
    subst hi
    refine z_rcs hc hH 2 (pc' := 14) (lv' := [(1, .int (nI 4)), (0, .ref 14)]) (st' := [.int 4, .int (nI 4)]) (μ' := μ1) (by rfl) ?_
    refine zq_ic hc hH (by rfl) (tg := 69) (by rfl) (fun _ => ?_) (fun h9 => (zb_t (ge_nIt (n := 4) (i := 4) (by decide) (by decide)) h9).elim)
    exact K μ1 g
  | succ n ih =>
    intro i hi μ1 g
    have hin : vp_in (nI i) 4 := vp_in_nI (by omega) (by decide)
    have ei : (nI i).toNatClampNeg = i := nI_clamp (by omega)
    have b15 : μ1.1 15 i = nI (s i) := (a_Fz_at g.1 15 i (a_md_row (by decide +kernel))).trans (hW i (by omega)).1.1
    have b16 : μ1.1 16 i = nI (l i) := (a_Fz_at g.1 16 i (a_md_row (by decide +kernel))).trans (hW i (by omega)).2.1
    have bs := (hW i (by omega)).1.2
    refine z_rcs hc hH 2 (pc' := 14) (lv' := [(1, .int (nI i)), (0, .ref 14)]) (st' := [.int 4, .int (nI i)]) (μ' := μ1) (by rfl) ?_
    refine zq_ic hc hH (by rfl) (tg := 69) (by rfl) (fun h9 => (zb_t h9 (ge_nI (n := 4) (i := i) (by omega) (by decide))).elim) (fun _ => ?_)
    refine z_rcs hc hH 3 (pc' := 22) (lv' := [(1, .int (nI i)), (0, .ref 14)]) (st' := [.int (nI i), .ref 15]) (μ' := μ1) (by rfl) ?_
    refine zq_iald hc hH (by rfl) 4 (by decide +kernel) (hin) ?_
    rw [ei, b15]
    show Z 0 23 [(1, .int (nI i)), (0, .ref 14)] [.int (nI (s i))] μ1
    refine zq_if hc hH (by rfl) (tg := 46) (by rfl) (fun h1 => ?_) (fun h1 => ?_)
    · have h1 := cm_ne.mp h1
      refine z_rcs hc hH 3 (pc' := 51) (lv' := [(1, .int (nI i)), (0, .ref 14)]) (st' := [.long (μ1.2.1 14 17), .ref 14]) (μ' := μ1) (by rfl) ?_
      rw [g.2.2.2]
      show Z 0 51 [(1, .int (nI i)), (0, .ref 14)] [.long (tB s l i), .ref 14] μ1
      refine z_rcs hc hH 4 (pc' := 57) (lv' := [(1, .int (nI i)), (0, .ref 14)]) (st' := [.int (nI i), .ref 16, .long 1, .long (tB s l i), .ref 14]) (μ' := μ1) (by rfl) ?_
      refine zq_iald hc hH (by rfl) 4 (by decide +kernel) (hin) ?_
      rw [ei, b16]
      show Z 0 58 [(1, .int (nI i)), (0, .ref 14)] [.int (nI (l i)), .long 1, .long (tB s l i), .ref 14] μ1
      refine z_rcs hc hH 3 (pc' := 63) (lv' := [(1, .int (nI i)), (0, .ref 14)]) (st' := []) (μ' := z_uj μ1 14 17 ((tB s l i) ||| (1 <<< ((nI (l i)).toInt64 &&& 63)))) (by rfl) ?_
      have h0 : ¬ s i = 0 := fun z => h1 (by rw [z]; rfl)
      have g2 : WT μ (z_uj μ1 14 17 ((tB s l i) ||| (1 <<< ((nI (l i)).toInt64 &&& 63)))) s l (i + 1) := g.t h0 rfl
      generalize z_uj μ1 14 17 ((tB s l i) ||| (1 <<< ((nI (l i)).toInt64 &&& 63))) = μ2 at g2 ⊢
      refine z_rcs hc hH 2 (pc' := 12) (lv' := [(1, .int ((nI i) + 1)), (0, .ref 14)]) (st' := []) (μ' := μ2) (by rfl) ?_
      rw [nI_1]
      exact ih (i + 1) (by omega) μ2 g2
    · have h1 := cn_ne.mp h1
      refine z_rcs hc hH 3 (pc' := 31) (lv' := [(1, .int (nI i)), (0, .ref 14)]) (st' := [.long (μ1.2.1 14 16), .ref 14]) (μ' := μ1) (by rfl) ?_
      rw [g.2.2.1]
      show Z 0 31 [(1, .int (nI i)), (0, .ref 14)] [.long (rB s l i), .ref 14] μ1
      refine z_rcs hc hH 4 (pc' := 37) (lv' := [(1, .int (nI i)), (0, .ref 14)]) (st' := [.int (nI i), .ref 16, .long 1, .long (rB s l i), .ref 14]) (μ' := μ1) (by rfl) ?_
      refine zq_iald hc hH (by rfl) 4 (by decide +kernel) (hin) ?_
      rw [ei, b16]
      show Z 0 38 [(1, .int (nI i)), (0, .ref 14)] [.int (nI (l i)), .long 1, .long (rB s l i), .ref 14] μ1
      refine z_rcs hc hH 4 (pc' := 63) (lv' := [(1, .int (nI i)), (0, .ref 14)]) (st' := []) (μ' := z_uj μ1 14 16 ((rB s l i) ||| (1 <<< ((nI (l i)).toInt64 &&& 63)))) (by rfl) ?_
      have h0 : s i = 0 := (nI_eq (show s i < 2 ^ 31 by omega) (show 0 < 2 ^ 31 by decide)).mp h1
      have g2 : WT μ (z_uj μ1 14 16 ((rB s l i) ||| (1 <<< ((nI (l i)).toInt64 &&& 63)))) s l (i + 1) := g.r h0 rfl
      generalize z_uj μ1 14 16 ((rB s l i) ||| (1 <<< ((nI (l i)).toInt64 &&& 63))) = μ2 at g2 ⊢
      refine z_rcs hc hH 2 (pc' := 12) (lv' := [(1, .int ((nI i) + 1)), (0, .ref 14)]) (st' := []) (μ' := μ2) (by rfl) ?_
      rw [nI_1]
      exact ih (i + 1) (by omega) μ2 g2
noncomputable def WO (κ μ : zM) (q p : Nat) (s l : Nat → Nat) (S : Q4 → Prop) (N i : Nat) (μ1 : zM) : Prop := a_Fz mdWW μ μ1 ∧ a_H μ1 ∧ (μ1.2.1 14 16 = rB s l 4 ∧ μ1.2.1 14 17 = tB s l 4) ∧ CI (fun x => S x ∨ ∃ c, q ≤ c ∧ c < i ∧ OC κ q p s l c x) (N + i) μ1
theorem WO.cw {κ μ μ1 : zM} {q p N i : Nat} {s l : Nat → Nat} {S : Q4 → Prop} (h : WO κ μ q p s l S N i μ1) (hW : CW μ s l) : CW μ1 s l := fun j hj => by rw [a_Fz_at h.1 15 j (a_md_row (by decide +kernel)), a_Fz_at h.1 16 j (a_md_row (by decide +kernel))]; exact hW j hj
theorem WO.no {κ μ μ1 : zM} {q p N i : Nat} {s l : Nat → Nat} {S : Q4 → Prop} (h : WO κ μ q p s l S N i μ1) (hm : mc (κ.1 14 6) q p s l i = false) : WO κ μ q p s l S N (i + 1) μ1 := ⟨h.1, h.2.1, h.2.2.1, (h.2.2.2.up (by omega)).iff (fun x => ⟨fun z => z.imp id (fun ⟨c, c1, c2, c3⟩ => ⟨c, c1, by omega, c3⟩), fun z => z.imp id (fun ⟨c, c1, c2, c3⟩ => ⟨c, c1, if e : c = i then (by rw [e] at c3; exact absurd c3.1 (by rw [hm]; decide)) else (by omega), c3⟩)⟩)⟩
theorem WO.yes {κ μ μ1 μ2 : zM} {q p N i : Nat} {s l : Nat → Nat} {S : Q4 → Prop} (h : WO κ μ q p s l S N i μ1) (hN : N + 10 < 100000) (hqi : q ≤ i) (hi : i < 5) (hF : a_Fz mdJ κ μ) (hW : CW μ s l) (h15 : μ.1 14 15 = nI p) (hm : mc (κ.1 14 6) q p s l i = true) (ho : OQ μ1 μ2 (vC μ1 i)) : WO κ μ q p s l S N (i + 1) μ2 := by
  have F : a_Fz mdJ κ μ1 := a_Fz_tr (by decide +kernel) hF h.1
  have e : vC μ1 i = vC (cM κ s l (nI p)) i := ac_vC (AC_way F (h.cw hW) ((a_Fz_at h.1 14 15 (by decide +kernel)).trans h15) h.2.2.1.1 h.2.2.1.2) i
  rw [e] at ho
  refine ⟨a_Fz_tr (by decide +kernel) h.1 ho.1, ho.2.1, ⟨(ho.1.1 14 16 (by decide +kernel)).2.trans h.2.2.1.1, (ho.1.1 14 17 (by decide +kernel)).2.trans h.2.2.1.2⟩, (h.2.2.2.add (by omega) ho).iff (fun x => ⟨?_, ?_⟩)⟩
  · rintro ((z | ⟨c, c1, c2, c3⟩) | z)
    · exact Or.inl z
    · exact Or.inr ⟨c, c1, by omega, c3⟩
    · exact Or.inr ⟨i, hqi, by omega, hm, z⟩
  · rintro (z | ⟨c, c1, c2, c3⟩)
    · exact Or.inl (Or.inl z)
    · by_cases e : c = i
      · subst e; exact Or.inr c3.2
      · exact Or.inl (Or.inr ⟨c, c1, by omega, c3⟩)
theorem wW97 (d' : Nat) (Z : zK) (hd : 4 ≤ d') (κ μ : zM) (q p : Nat) (s l : Nat → Nat) (S : Q4 → Prop) (N : Nat) (hN : N + 10 < 100000) (hq : q ≤ 4) (hp : p < 34) (hF : a_Fz mdJ κ μ) (hW : CW μ s l) (h15 : μ.1 14 15 = nI p) (ht : μ.2.2 14 = 9) (e4 : μ.1 9 4 = nI q) (hc : z_clo z_x0 mi_X1_weighWay (z_C d') Z) (f : Int64) (hf : ∀ μ1, a_Fz mdWW μ μ1 → μ1.2.1 14 16 = rB s l 4 → μ1.2.1 14 17 = tB s l 4 → f = ((μ1.2.1 14 12 ||| xLR μ1) ||| xSF μ1) ||| xEF μ1) (hr : z_ret mi_X1_weighWay (fun r μ' => r = none ∧ WO κ μ q p s l S N 5 μ') Z) : ∀ n i, i + n = 4 → q ≤ i → ∀ μ1, WO κ μ q p s l S N i μ1 → Z 0 97 [(3, .int (nI i)), (1, .long f), (0, .ref 14)] [] μ1 := by
  have hH := zh_X1_weighWay
  have e6 : μ.1 14 6 = κ.1 14 6 := a_Fz_at hF 14 6 (by decide +kernel)
  intro n
  induction n with
  | zero =>
    intro i hi hqi μ1 g
    have hi : i = 4 := by omega
    subst hi
    have ht1 : μ1.2.2 14 = 9 := (g.1.2 14 (by decide)).trans ht
    have e61 : μ1.1 14 6 = κ.1 14 6 := (a_Fz_at g.1 14 6 (by decide +kernel)).trans e6
    have e151 : μ1.1 14 15 = nI p := (a_Fz_at g.1 14 15 (by decide +kernel)).trans h15
    have e41 : μ1.1 9 4 = nI q := (a_Fz_at g.1 9 4 (a_md_row (by decide +kernel))).trans e4
    refine z_rcs hc hH 2 (pc' := 99) (lv' := [(3, .int (nI 4)), (1, .long f), (0, .ref 14)]) (st' := [.int 4, .int (nI 4)]) (μ' := μ1) (by rfl) ?_
    refine zq_ic hc hH (by rfl) (tg := 122) (by rfl) (fun _ => ?_) (fun h9 => (zb_t (ge_nIt (n := 4) (i := 4) (by decide) (by decide)) h9).elim)
    refine z_rcs hc hH 4 (pc' := 130) (lv' := [(3, .int (nI 4)), (1, .long f), (0, .ref 14)]) (st' := [.int (μ1.1 14 6), .int (μ1.1 14 15)]) (μ' := μ1) (by rfl) ?_
    rw [e151, e61]
    show Z 0 130 [(3, .int (nI 4)), (1, .long f), (0, .ref 14)] [.int (κ.1 14 6), .int (nI p)] μ1
    refine zq_ic hc hH (by rfl) (tg := 139) (by rfl) (fun h1 => ?_) (fun h1 => ?_)
    · have h1 := cm_ne.mp h1
      exact hr 0 139 _ _ _ none (by decide +kernel) (by rfl) (⟨rfl, g.no (by unfold mc; rw [show Nat.blt 4 4 = false from rfl]; exact decide_eq_false h1)⟩)
    · have h1 := cn_ne.mp h1
      refine z_rcs hc hH 3 (pc' := 136) (lv' := [(3, .int (nI 4)), (1, .long f), (0, .ref 14)]) (st' := [.int 4, .long f, .ref 14]) (μ' := μ1) (by rfl) ?_
      have hm : mc (κ.1 14 6) q p s l 4 = true := by unfold mc; rw [show Nat.blt 4 4 = false from rfl]; exact decide_eq_true h1
      have hfe := hf μ1 g.1 g.2.2.1.1 g.2.2.1.2
      refine zq_call hc (z_cx_ok hH (by rfl)) (fb_X1_weighCompleted d' (by omega) μ1 g.2.1 f (nI 4) (xWf μ1 4) (fb_waitFu μ1 4 (by omega)) (xHc0 μ1 4) (fb_hid0 μ1 ht1 4 (by omega)) (xHc1 μ1 4) (fb_hid1 μ1 ht1 4 (by omega)) (xHc2 μ1 4) (fb_hid2 μ1 ht1 4 (by omega)) (xHc3 μ1 4) (fb_hid3 μ1 ht1 4 (by omega))) (by decide +kernel) (fun r2 μ2 hq2 => ?_)
      obtain ⟨rfl, ho⟩ := hq2
      have ho : OQ μ1 μ2 (vC μ1 4) := by unfold vC; rw [← hfe]; exact ho
      have g2 := g.yes hN (by omega) (by omega) hF hW h15 hm ho
      show Z 0 139 [(3, .int (nI 4)), (1, .long f), (0, .ref 14)] [] μ2
      exact hr 0 139 _ _ _ none (by decide +kernel) (by rfl) (⟨rfl, g2⟩)
  | succ n ih =>
    intro i hi hqi μ1 g
    have ht1 : μ1.2.2 14 = 9 := (g.1.2 14 (by decide)).trans ht
    have e61 : μ1.1 14 6 = κ.1 14 6 := (a_Fz_at g.1 14 6 (by decide +kernel)).trans e6
    have e151 : μ1.1 14 15 = nI p := (a_Fz_at g.1 14 15 (by decide +kernel)).trans h15
    have e41 : μ1.1 9 4 = nI q := (a_Fz_at g.1 9 4 (a_md_row (by decide +kernel))).trans e4
    have em : mc (κ.1 14 6) q p s l i = mcB (κ.1 14 6) q s l i := by unfold mc; rw [show Nat.blt i 4 = true from Nat.blt_eq.mpr (by omega)]; rfl
    refine z_rcs hc hH 2 (pc' := 99) (lv' := [(3, .int (nI i)), (1, .long f), (0, .ref 14)]) (st' := [.int 4, .int (nI i)]) (μ' := μ1) (by rfl) ?_
    refine zq_ic hc hH (by rfl) (tg := 122) (by rfl) (fun h9 => (zb_t h9 (ge_nI (n := 4) (i := i) (by omega) (by decide))).elim) (fun _ => ?_)
    refine z_rcs hc hH 2 (pc' := 104) (lv' := [(3, .int (nI i)), (1, .long f), (0, .ref 14)]) (st' := [.int (nI i), .ref 14]) (μ' := μ1) (by rfl) ?_
    refine zq_call hc (z_cx_ok hH (by rfl)) (fb_X1_mayHaveCompleted d' (by omega) μ1 s l (g.cw hW) q i (by omega) hqi ht1 e41) (by decide +kernel) (fun r9 μ9 hq => ?_)
    obtain ⟨hμ9, rfl⟩ := hq
    rw [hμ9]
    clear hμ9 μ9
    show Z 0 107 [(3, .int (nI i)), (1, .long f), (0, .ref 14)] [.int (nB (mcB (μ1.1 14 6) q s l i))] μ1
    rw [e61, ← em]
    generalize hm : mc (κ.1 14 6) q p s l i = e
    show Z 0 107 [(3, .int (nI i)), (1, .long f), (0, .ref 14)] [.int (nB e)] μ1
    refine zq_if hc hH (by rfl) (tg := 116) (by rfl) (fun h1 => ?_) (fun h1 => ?_)
    · have h1 := cm_eq9.mp h1
      refine z_rcs hc hH 2 (pc' := 97) (lv' := [(3, .int ((nI i) + 1)), (1, .long f), (0, .ref 14)]) (st' := []) (μ' := μ1) (by rfl) ?_
      rw [nI_1]
      exact ih (i + 1) (by omega) (by omega) μ1 (g.no (hm.trans (nB_z.mp h1)))
    · have h1 := cn_eq.mp h1
      refine z_rcs hc hH 3 (pc' := 113) (lv' := [(3, .int (nI i)), (1, .long f), (0, .ref 14)]) (st' := [.int (nI i), .long f, .ref 14]) (μ' := μ1) (by rfl) ?_
      have hm := hm.trans (nB_n.mp h1)
      have hfe := hf μ1 g.1 g.2.2.1.1 g.2.2.1.2
      refine zq_call hc (z_cx_ok hH (by rfl)) (fb_X1_weighCompleted d' (by omega) μ1 g.2.1 f (nI i) (xWf μ1 i) (fb_waitFu μ1 i (by omega)) (xHc0 μ1 i) (fb_hid0 μ1 ht1 i (by omega)) (xHc1 μ1 i) (fb_hid1 μ1 ht1 i (by omega)) (xHc2 μ1 i) (fb_hid2 μ1 ht1 i (by omega)) (xHc3 μ1 i) (fb_hid3 μ1 ht1 i (by omega))) (by decide +kernel) (fun r2 μ2 hq2 => ?_)
      obtain ⟨rfl, ho⟩ := hq2
      have ho : OQ μ1 μ2 (vC μ1 i) := by unfold vC; rw [← hfe]; exact ho
      have g2 := g.yes hN (by omega) (by omega) hF hW h15 hm ho
      show Z 0 116 [(3, .int (nI i)), (1, .long f), (0, .ref 14)] [] μ2
      refine z_rcs hc hH 2 (pc' := 97) (lv' := [(3, .int ((nI i) + 1)), (1, .long f), (0, .ref 14)]) (st' := []) (μ' := μ2) (by rfl) ?_
      rw [nI_1]
      exact ih (i + 1) (by omega) (by omega) μ2 g2
theorem fb_X1_weighWay (d : Nat) (hd : 5 ≤ d) (μ : zM) (κ : zM) (q p : Nat) (s l : Nat → Nat) (S : Q4 → Prop) (N : Nat) (hN : N + 10 < 100000) (hq : q ≤ 4) (hp : p < 34) (hF : a_Fz mdJ κ μ) (hH0 : a_H μ) (hW : CW μ s l) (h15 : μ.1 14 15 = nI p) (ht : μ.2.2 14 = 9) (e4 : μ.1 9 4 = nI q) (hC : CI S N μ) : z_C d mi_X1_weighWay [.ref 14] μ (fun r μ' => r = none ∧ a_Fz mdWW μ μ' ∧ a_H μ' ∧ CI (fun x => S x ∨ ∃ c, q ≤ c ∧ c < 5 ∧ OC κ q p s l c x) (N + 5) μ') := by
  refine z_C_in (by decide) (by omega) (fun d' Z ed hc hr => ?_)
  have hH := zh_X1_weighWay
  refine z_rcs hc hH 8 (pc' := 12) (lv' := [(1, .int 0), (0, .ref 14)]) (st' := []) (μ' := z_uj (z_uj μ 14 16 0) 14 17 0) (by rfl) ?_
  have g0 : WT μ (z_uj (z_uj μ 14 16 0) 14 17 0) s l 0 := ⟨a_Fz_uj (a_Fz_uj (a_Fz_rf _ _) (by decide +kernel)) (by decide +kernel), a_H_uj (a_H_uj hH0), by rw [z_uj_rd, if_neg (by omega), z_uj_rd, if_pos ⟨rfl, rfl⟩]; rfl, by rw [z_uj_rd, if_pos ⟨rfl, rfl⟩]; rfl⟩
  generalize z_uj (z_uj μ 14 16 0) 14 17 0 = μ0 at g0 ⊢
  refine wW12 d' Z (by omega) κ μ q p s l S N hN hq hp hF hW h15 ht e4 hc (fun μa ga => ?_) 4 0 (by omega) μ0 g0
  clear g0 μ0
  have hta : μa.2.2 14 = 9 := (ga.1.2 14 (by decide)).trans ht
  have e4a : μa.1 9 4 = nI q := (a_Fz_at ga.1 9 4 (a_md_row (by decide +kernel))).trans e4
  refine z_rcs hc hH 3 (pc' := 74) (lv' := [(1, .int (nI 4)), (0, .ref 14)]) (st' := [.ref 14, .long (μa.2.1 14 12)]) (μ' := μa) (by rfl) ?_
  refine zq_call hc (z_cx_ok hH (by rfl)) (fb_X1_likeRuns d' (by omega) μa) (by decide +kernel) (fun r9 μ9 hq => ?_)
  obtain ⟨hμ9, rfl⟩ := hq
  rw [hμ9]
  clear hμ9 μ9
  show Z 0 77 [(1, .int (nI 4)), (0, .ref 14)] [.long (xLR μa), .long (μa.2.1 14 12)] μa
  refine z_rcs hc hH 2 (pc' := 79) (lv' := [(1, .int (nI 4)), (0, .ref 14)]) (st' := [.ref 14, .long ((μa.2.1 14 12) ||| (xLR μa))]) (μ' := μa) (by rfl) ?_
  refine zq_call hc (z_cx_ok hH (by rfl)) (fb_X1_setForms d' (by omega) μa) (by decide +kernel) (fun r9 μ9 hq => ?_)
  obtain ⟨hμ9, rfl⟩ := hq
  rw [hμ9]
  clear hμ9 μ9
  show Z 0 82 [(1, .int (nI 4)), (0, .ref 14)] [.long (xSF μa), .long ((μa.2.1 14 12) ||| (xLR μa))] μa
  refine z_rcs hc hH 2 (pc' := 84) (lv' := [(1, .int (nI 4)), (0, .ref 14)]) (st' := [.ref 14, .long (((μa.2.1 14 12) ||| (xLR μa)) ||| (xSF μa))]) (μ' := μa) (by rfl) ?_
  refine zq_call hc (z_cx_ok hH (by rfl)) (fb_X1_endForms d' (by omega) μa) (by decide +kernel) (fun r9 μ9 hq => ?_)
  obtain ⟨hμ9, rfl⟩ := hq
  rw [hμ9]
  clear hμ9 μ9
  show Z 0 87 [(1, .int (nI 4)), (0, .ref 14)] [.long (xEF μa), .long (((μa.2.1 14 12) ||| (xLR μa)) ||| (xSF μa))] μa
  refine z_rcs hc hH 3 (pc' := 90) (lv' := [(1, .long ((((μa.2.1 14 12) ||| (xLR μa)) ||| (xSF μa)) ||| (xEF μa))), (0, .ref 14)]) (st' := [.ref 14]) (μ' := μa) (by rfl) ?_
  refine zq_tget hc hH (by rfl) (ci := 0) (f := 5) (t := 9) (by decide +kernel) hta (by decide) ?_
  show Z 0 93 [(1, .long ((((μa.2.1 14 12) ||| (xLR μa)) ||| (xSF μa)) ||| (xEF μa))), (0, .ref 14)] [.ref 9] μa
  refine z_rcs hc hH 1 (pc' := 96) (lv' := [(1, .long ((((μa.2.1 14 12) ||| (xLR μa)) ||| (xSF μa)) ||| (xEF μa))), (0, .ref 14)]) (st' := [.int (μa.1 9 4)]) (μ' := μa) (by rfl) ?_
  rw [e4a]
  show Z 0 96 [(1, .long ((((μa.2.1 14 12) ||| (xLR μa)) ||| (xSF μa)) ||| (xEF μa))), (0, .ref 14)] [.int (nI q)] μa
  refine z_rcs hc hH 1 (pc' := 97) (lv' := [(3, .int (nI q)), (1, .long ((((μa.2.1 14 12) ||| (xLR μa)) ||| (xSF μa)) ||| (xEF μa))), (0, .ref 14)]) (st' := []) (μ' := μa) (by rfl) ?_
  have hf : ∀ μ1, a_Fz mdWW μ μ1 → μ1.2.1 14 16 = rB s l 4 → μ1.2.1 14 17 = tB s l 4 → ((μa.2.1 14 12 ||| xLR μa) ||| xSF μa) ||| xEF μa = ((μ1.2.1 14 12 ||| xLR μ1) ||| xSF μ1) ||| xEF μ1 := fun μ1 F1 z1 z2 => by
    have ac : AC μa μ1 := by
      have Fa : a_Fz mdJ κ μa := a_Fz_tr (by decide +kernel) hF ga.1
      have Fb : a_Fz mdJ κ μ1 := a_Fz_tr (by decide +kernel) hF F1
      have ra : ∀ r k, a_md mdWW r k = false → μa.1 r k = μ1.1 r k := fun r k hm => (a_Fz_at (a_Fz_tr (m2 := mdWW) (by decide +kernel) (a_Fz_rf mdWW μ) ga.1) r k hm).trans (a_Fz_at F1 r k hm).symm
      exact ⟨ra 15 0 (a_md_row (by decide +kernel)), ra 16 0 (a_md_row (by decide +kernel)), ra 15 1 (a_md_row (by decide +kernel)), ra 16 1 (a_md_row (by decide +kernel)), ra 15 2 (a_md_row (by decide +kernel)), ra 16 2 (a_md_row (by decide +kernel)), ra 15 3 (a_md_row (by decide +kernel)), ra 16 3 (a_md_row (by decide +kernel)), ra 14 6 (by decide +kernel), ra 14 7 (by decide +kernel), ra 14 8 (by decide +kernel), ra 14 9 (by decide +kernel), ra 14 10 (by decide +kernel), ra 14 11 (by decide +kernel), ra 14 15 (by decide +kernel), ra 9 4 (a_md_row (by decide +kernel)), ((ga.1.1 14 12 (by decide +kernel)).2).trans ((F1.1 14 12 (by decide +kernel)).2).symm, ga.2.2.1.trans z1.symm, ga.2.2.2.trans z2.symm⟩
    rw [ac_xLR ac, ac_xSF ac, ac_xEF ac, ac.t12]
  generalize ((μa.2.1 14 12 ||| xLR μa) ||| xSF μa) ||| xEF μa = f at hf ⊢
  refine wW97 d' Z (by omega) κ μ q p s l S N hN hq hp hF hW h15 ht e4 hc f hf (fun b pc lv st ν r h1 h2 h3 => hr b pc lv st ν r h1 h2 ⟨h3.1, h3.2.1, h3.2.2.1, h3.2.2.2.2⟩) (4 - q) q (by omega) (by omega) μa ?_
  refine ⟨a_Fz_tr (by decide +kernel) (a_Fz_rf mdWW μ) ga.1, ga.2.1, ⟨ga.2.2.1, ga.2.2.2⟩, ?_⟩
  obtain ⟨n, h1, h2, h3⟩ := hC
  have e1 : μa.1 14 4 = μ.1 14 4 := a_Fz_at ga.1 14 4 (by decide +kernel)
  have e2 : bqC μa = bqC μ := by unfold bqC; rw [a_Fz_at ga.1 14 0 (by decide +kernel), a_Fz_at ga.1 14 1 (by decide +kernel), a_Fz_at ga.1 14 2 (by decide +kernel), (ga.1.1 14 3 (by decide +kernel)).2]
  have hS : ∀ x, S x ↔ (S x ∨ ∃ c, q ≤ c ∧ c < q ∧ OC κ q p s l c x) := fun x => ⟨Or.inl, fun z => z.resolve_right (fun ⟨c, c1, c2, _⟩ => by omega)⟩
  exact CI.iff ⟨n, by omega, e1.trans h2, by rw [e2]; exact h3⟩ hS
/-! the class: which KINDS may be THREES, and which are chosen -/
set_option maxRecDepth 8000
noncomputable def c3 (v : Nat → Nat) (i : Nat) : Nat := cn (fun k => decide (3 ≤ v k)) i
theorem c3_s (v : Nat → Nat) (i : Nat) : c3 v (i + 1) = c3 v i + (if 3 ≤ v i then 1 else 0) := by
  show c3 v i + (if decide (3 ≤ v i) = true then 1 else 0) = _
  by_cases h : 3 ≤ v i
  · rw [if_pos h, if_pos (decide_eq_true h)]
  · rw [if_neg h, if_neg (by rw [decide_eq_true_iff]; exact h)]
theorem c3_sn (v : Nat → Nat) : ∀ i, 3 * c3 v i ≤ sn v i := by
  intro i
  induction i with
  | zero => exact Nat.le_refl _
  | succ i ih => rw [c3_s]; show _ ≤ sn v i + v i; split <;> omega
theorem c3_mo (v : Nat → Nat) {i : Nat} : ∀ n, c3 v i ≤ c3 v (i + n) := by
  intro n
  induction n with
  | zero => exact Nat.le_refl _
  | succ n ih => rw [← Nat.add_assoc, c3_s]; omega
theorem c3_le (v : Nat → Nat) {i j : Nat} (h : i ≤ j) : c3 v i ≤ c3 v j := by have := c3_mo v (i := i) (j - i); rw [show i + (j - i) = j by omega] at this; exact this
theorem c3_lt (v : Nat → Nat) {i j : Nat} (h : i < j) (h3 : 3 ≤ v i) : c3 v i < c3 v j := by have := c3_le v (show i + 1 ≤ j by omega); rw [c3_s, if_pos h3] at this; omega
noncomputable def F3 (μ : zM) (v : Nat → Nat) (i : Nat) : Prop := ∀ k, k < i → 3 ≤ v k → μ.1 17 (c3 v k) = nI k
noncomputable def FT (μ μ1 : zM) (v : Nat → Nat) (i : Nat) : Prop := a_Fz [(17, 9999)] μ μ1 ∧ a_H μ1 ∧ F3 μ1 v i
theorem FT.no {μ μ1 : zM} {v : Nat → Nat} {i : Nat} (h : FT μ μ1 v i) (h3 : ¬ 3 ≤ v i) : FT μ μ1 v (i + 1) := ⟨h.1, h.2.1, fun k hk h9 => h.2.2 k (if e : k = i then (by rw [e] at h9; exact absurd h9 h3) else (by omega)) h9⟩
theorem FT.yes {μ μ1 : zM} {v : Nat → Nat} {i : Nat} (h : FT μ μ1 v i) (h3 : 3 ≤ v i) : FT μ (z_ui μ1 17 (c3 v i) (nI i)) v (i + 1) := by
  refine ⟨a_Fz_ui h.1 (a_mda_md (by decide +kernel) _), a_H_ui h.2.1 (bI_top _), fun k hk h9 => ?_⟩
  rw [z_ui_rd]
  by_cases e : k = i
  · rw [e, if_pos ⟨rfl, rfl⟩]
  · have := c3_lt v (show k < i by omega) h9
    rw [if_neg (fun z => by omega)]
    exact h.2.2 k (by omega) h9
theorem lt3 : ∀ a, a < 6 → (nI a < 3 ↔ a < 3) := by decide +kernel
theorem zh_X1_findThrees : zH mi_X1_findThrees zt_X1_findThrees 79 1 3 := hh_X1_findThrees
theorem fb_X1_findThrees (d : Nat) (hd : 1 ≤ d) (μ : zM) (w : Nat → Nat) (p : Nat) (hw : RW μ 10 w) (hp : p < 34) (h2 : 2 ≤ w p) (h15 : μ.1 14 15 = nI p) (ht : μ.2.2 14 = 9) (hH0 : a_H μ) (hs : sn (sb2 w p) 34 ≤ 12) : z_C d mi_X1_findThrees [.ref 14] μ (fun r μ' => r = some (.int (nI (c3 (sb2 w p) 34))) ∧ FT μ μ' (sb2 w p) 34) := by
  refine z_C_in (by decide) (by omega) (fun d' Z ed hc hr => ?_)
  have hH := zh_X1_findThrees
  have hv : ∀ k, sb2 w p k = if k = p then w k - 2 else w k := fun k => rfl
  generalize sb2 w p = v at hs hr hv
  have c4 : c3 v 34 ≤ 4 := by have := c3_sn v 34; omega
  have lp : ∀ (n i : Nat), i + n = 34 → ∀ μ1, FT μ μ1 v i → Z 0 4 [(2, .int (nI i)), (1, .int (nI (c3 v i))), (0, .ref 14)] [] μ1 := by
    intro n
    induction n with
    | zero =>
      intro i hi μ1 g
      have hi : i = 34 := by omega
      subst hi
      refine z_rcs hc hH 2 (pc' := 7) (lv' := [(2, .int (nI 34)), (1, .int (nI (c3 v 34))), (0, .ref 14)]) (st' := [.int 34, .int (nI 34)]) (μ' := μ1) (by rfl) ?_
      refine zq_ic hc hH (by rfl) (tg := 58) (by rfl) (fun _ => ?_) (fun h9 => (zb_t (ge_nIt (n := 34) (i := 34) (by decide) (by decide)) h9).elim)
      refine z_rcs hc hH 1 (pc' := 59) (lv' := [(2, .int (nI 34)), (1, .int (nI (c3 v 34))), (0, .ref 14)]) (st' := [.int (nI (c3 v 34))]) (μ' := μ1) (by rfl) ?_
      exact hr 0 59 _ _ _ (some (.int (nI (c3 v 34)))) (by decide +kernel) (z_rx_ok hH (by rfl)) (⟨rfl, g⟩)
    | succ n ih =>
      intro i hi μ1 g
      have hin : vp_in (nI i) 34 := vp_in_nI (by omega) (by decide)
      have ei : (nI i).toNatClampNeg = i := nI_clamp (by omega)
      have wi : μ1.1 10 i = nI (w i) := (a_Fz_at g.1 10 i (a_md_row (by decide +kernel))).trans (hw i (by omega)).1
      have bw := (hw i (by omega)).2
      have ht1 : μ1.2.2 14 = 9 := (g.1.2 14 (by decide)).trans ht
      have e151 : μ1.1 14 15 = nI p := (a_Fz_at g.1 14 15 (a_md_row (by decide +kernel))).trans h15
      have ci := c3_le v (show i ≤ 34 by omega)
      by_cases hc4 : c3 v i = 4
      · have ec : c3 v 34 = 4 := by omega
        have g34 : FT μ μ1 v 34 := ⟨g.1, g.2.1, fun k hk h9 => g.2.2 k (by
          by_cases e : k < i
          · exact e
          · exfalso; have := c3_lt v (show k < 34 from hk) h9; have := c3_le v (show i ≤ k by omega); omega) h9⟩
        rw [ec] at hr
        rw [hc4]
        refine z_rcs hc hH 2 (pc' := 7) (lv' := [(2, .int (nI i)), (1, .int (nI 4)), (0, .ref 14)]) (st' := [.int 34, .int (nI i)]) (μ' := μ1) (by rfl) ?_
        refine zq_ic hc hH (by rfl) (tg := 58) (by rfl) (fun h9 => (zb_t h9 (ge_nI (n := 34) (i := i) (by omega) (by decide))).elim) (fun _ => ?_)
        refine z_rcs hc hH 2 (pc' := 12) (lv' := [(2, .int (nI i)), (1, .int (nI 4)), (0, .ref 14)]) (st' := [.int 4, .int (nI 4)]) (μ' := μ1) (by rfl) ?_
        refine zq_ic hc hH (by rfl) (tg := 58) (by rfl) (fun _ => ?_) (fun h9 => (zb_t (ge_nIt (n := 4) (i := 4) (by decide) (by decide)) h9).elim)
        refine z_rcs hc hH 1 (pc' := 59) (lv' := [(2, .int (nI i)), (1, .int (nI 4)), (0, .ref 14)]) (st' := [.int (nI 4)]) (μ' := μ1) (by rfl) ?_
        exact hr 0 59 _ _ _ (some (.int (nI 4))) (by decide +kernel) (z_rx_ok hH (by rfl)) (⟨rfl, g34⟩)
      · have inc : vp_in (nI (c3 v i)) 4 := vp_in_nI (by omega) (by decide)
        have ec : (nI (c3 v i)).toNatClampNeg = c3 v i := nI_clamp (by omega)
        refine z_rcs hc hH 2 (pc' := 7) (lv' := [(2, .int (nI i)), (1, .int (nI (c3 v i))), (0, .ref 14)]) (st' := [.int 34, .int (nI i)]) (μ' := μ1) (by rfl) ?_
        refine zq_ic hc hH (by rfl) (tg := 58) (by rfl) (fun h9 => (zb_t h9 (ge_nI (n := 34) (i := i) (by omega) (by decide))).elim) (fun _ => ?_)
        refine z_rcs hc hH 2 (pc' := 12) (lv' := [(2, .int (nI i)), (1, .int (nI (c3 v i))), (0, .ref 14)]) (st' := [.int 4, .int (nI (c3 v i))]) (μ' := μ1) (by rfl) ?_
        refine zq_ic hc hH (by rfl) (tg := 58) (by rfl) (fun h9 => (zb_t h9 (ge_nI (n := 4) (i := c3 v i) (by omega) (by decide))).elim) (fun _ => ?_)
        refine z_rcs hc hH 1 (pc' := 16) (lv' := [(2, .int (nI i)), (1, .int (nI (c3 v i))), (0, .ref 14)]) (st' := [.ref 14]) (μ' := μ1) (by rfl) ?_
        refine zq_tget hc hH (by rfl) (ci := 0) (f := 5) (t := 9) (by decide +kernel) ht1 (by decide) ?_
        show Z 0 19 [(2, .int (nI i)), (1, .int (nI (c3 v i))), (0, .ref 14)] [.ref 9] μ1
        refine z_rcs hc hH 2 (pc' := 23) (lv' := [(2, .int (nI i)), (1, .int (nI (c3 v i))), (0, .ref 14)]) (st' := [.int (nI i), .ref 10]) (μ' := μ1) (by rfl) ?_
        refine zq_iald hc hH (by rfl) 34 (by decide +kernel) (hin) ?_
        rw [ei, wi]
        show Z 0 24 [(2, .int (nI i)), (1, .int (nI (c3 v i))), (0, .ref 14)] [.int (nI (w i))] μ1
        refine z_rcs hc hH 3 (pc' := 29) (lv' := [(2, .int (nI i)), (1, .int (nI (c3 v i))), (0, .ref 14)]) (st' := [.int (μ1.1 14 15), .int (nI i), .int (nI (w i))]) (μ' := μ1) (by rfl) ?_
        rw [e151]
        show Z 0 29 [(2, .int (nI i)), (1, .int (nI (c3 v i))), (0, .ref 14)] [.int (nI p), .int (nI i), .int (nI (w i))] μ1
        refine zq_ic hc hH (by rfl) (tg := 36) (by rfl) (fun h1 => ?_) (fun h1 => ?_)
        · have h1 := cm_ne.mp h1
          refine z_rcs hc hH 2 (pc' := 38) (lv' := [(2, .int (nI i)), (1, .int (nI (c3 v i))), (0, .ref 14)]) (st' := [.int ((nI (w i)) - 0)]) (μ' := μ1) (by rfl) ?_
          have ev : nI (w i) - 0 = nI (v i) := by rw [hv, if_neg (fun z => h1 (by rw [z])), Int32.sub_zero]
          have bv : v i < 6 := by rw [hv, if_neg (fun z => h1 (by rw [z]))]; omega
          rw [ev]
          show Z 0 38 [(2, .int (nI i)), (1, .int (nI (c3 v i))), (0, .ref 14)] [.int (nI (v i))] μ1
          refine z_rcs hc hH 1 (pc' := 39) (lv' := [(2, .int (nI i)), (1, .int (nI (c3 v i))), (0, .ref 14)]) (st' := [.int 3, .int (nI (v i))]) (μ' := μ1) (by rfl) ?_
          refine zq_ic hc hH (by rfl) (tg := 52) (by rfl) (fun h2 => ?_) (fun h2 => ?_)
          · have h2 := cm_lt.mp h2
            refine z_rcs hc hH 2 (pc' := 4) (lv' := [(2, .int ((nI i) + 1)), (1, .int (nI (c3 v i))), (0, .ref 14)]) (st' := []) (μ' := μ1) (by rfl) ?_
            have h3 : ¬ 3 ≤ v i := by have := (lt3 (v i) bv).mp h2; omega
            have e3 : c3 v (i + 1) = c3 v i := by rw [c3_s, if_neg h3, Nat.add_zero]
            rw [nI_1, ← e3]
            exact ih (i + 1) (by omega) μ1 (g.no h3)
          · have h2 := cn_lt.mp h2
            refine z_rcs hc hH 4 (pc' := 48) (lv' := [(2, .int (nI i)), (1, .int (nI (c3 v i))), (0, .ref 14)]) (st' := [.int (nI i), .int (nI (c3 v i)), .ref 17]) (μ' := μ1) (by rfl) ?_
            refine zq_iast hc hH (by rfl) 4 (by decide +kernel) (inc) ?_
            rw [ec]
            have h3 : 3 ≤ v i := by have := mt (lt3 (v i) bv).mpr h2; omega
            have g2 : FT μ (z_ui μ1 17 (c3 v i) (nI i)) v (i + 1) := g.yes h3
            have e3 : c3 v (i + 1) = c3 v i + 1 := by rw [c3_s, if_pos h3]
            generalize z_ui μ1 17 (c3 v i) (nI i) = μ2 at g2 ⊢
            refine z_rcs hc hH 3 (pc' := 4) (lv' := [(2, .int ((nI i) + 1)), (1, .int ((nI (c3 v i)) + 1)), (0, .ref 14)]) (st' := []) (μ' := μ2) (by rfl) ?_
            rw [nI_1, nI_1, ← e3]
            exact ih (i + 1) (by omega) μ2 g2
        · have h1 := cn_ne.mp h1
          refine z_rcs hc hH 3 (pc' := 38) (lv' := [(2, .int (nI i)), (1, .int (nI (c3 v i))), (0, .ref 14)]) (st' := [.int ((nI (w i)) - 2)]) (μ' := μ1) (by rfl) ?_
          have hip : i = p := (nI_eq (by omega) (by omega)).mp h1
          have ev : nI (w i) - 2 = nI (v i) := by rw [hv, if_pos hip]; exact l_2 (w i) (by omega) (by rw [hip]; exact h2)
          have bv : v i < 6 := by rw [hv, if_pos hip]; omega
          rw [ev]
          show Z 0 38 [(2, .int (nI i)), (1, .int (nI (c3 v i))), (0, .ref 14)] [.int (nI (v i))] μ1
          refine z_rcs hc hH 1 (pc' := 39) (lv' := [(2, .int (nI i)), (1, .int (nI (c3 v i))), (0, .ref 14)]) (st' := [.int 3, .int (nI (v i))]) (μ' := μ1) (by rfl) ?_
          refine zq_ic hc hH (by rfl) (tg := 52) (by rfl) (fun h3 => ?_) (fun h3 => ?_)
          · have h3 := cm_lt.mp h3
            refine z_rcs hc hH 2 (pc' := 4) (lv' := [(2, .int ((nI i) + 1)), (1, .int (nI (c3 v i))), (0, .ref 14)]) (st' := []) (μ' := μ1) (by rfl) ?_
            have h3 : ¬ 3 ≤ v i := by have := (lt3 (v i) bv).mp h3; omega
            have e3 : c3 v (i + 1) = c3 v i := by rw [c3_s, if_neg h3, Nat.add_zero]
            rw [nI_1, ← e3]
            exact ih (i + 1) (by omega) μ1 (g.no h3)
          · have h3 := cn_lt.mp h3
            refine z_rcs hc hH 4 (pc' := 48) (lv' := [(2, .int (nI i)), (1, .int (nI (c3 v i))), (0, .ref 14)]) (st' := [.int (nI i), .int (nI (c3 v i)), .ref 17]) (μ' := μ1) (by rfl) ?_
            refine zq_iast hc hH (by rfl) 4 (by decide +kernel) (inc) ?_
            rw [ec]
            have h3 : 3 ≤ v i := by have := mt (lt3 (v i) bv).mpr h3; omega
            have g2 : FT μ (z_ui μ1 17 (c3 v i) (nI i)) v (i + 1) := g.yes h3
            have e3 : c3 v (i + 1) = c3 v i + 1 := by rw [c3_s, if_pos h3]
            generalize z_ui μ1 17 (c3 v i) (nI i) = μ2 at g2 ⊢
            refine z_rcs hc hH 3 (pc' := 4) (lv' := [(2, .int ((nI i) + 1)), (1, .int ((nI (c3 v i)) + 1)), (0, .ref 14)]) (st' := []) (μ' := μ2) (by rfl) ?_
            rw [nI_1, nI_1, ← e3]
            exact ih (i + 1) (by omega) μ2 g2
  refine z_rcs hc hH 4 (pc' := 4) (lv' := [(2, .int 0), (1, .int 0), (0, .ref 14)]) (st' := []) (μ' := μ) (by rfl) ?_
  exact lp 34 0 (by omega) μ ⟨a_Fz_rf _ _, hH0, fun k hk => absurd hk (by omega)⟩
noncomputable def chB (f : Nat → Int32) (c : Nat) : Nat → Int64
  | 0 => 0
  | i + 1 => if c / 2 ^ i % 2 = 1 then chB f c i ||| ((1 : Int64) <<< ((f i).toInt64 &&& 63)) else chB f c i
theorem ch_b : ∀ c, c < 16 → ∀ i, i < 4 → ((((nI c).toUInt32 >>> ((nI i).toUInt32 &&& Int32.toUInt32 31)).toInt32 &&& 1) = 0 ↔ ¬ c / 2 ^ i % 2 = 1) := by decide +kernel
theorem zh_X1_chosenThrees : zH mi_X1_chosenThrees zt_X1_chosenThrees 79 1 5 := hh_X1_chosenThrees
theorem fb_X1_chosenThrees (d : Nat) (hd : 1 ≤ d) (μ : zM) (c : Nat) (hcc : c < 16) : z_C d mi_X1_chosenThrees [.ref 14, .int (nI c)] μ (zR μ (.long (chB (μ.1 17) c 4))) := by
  refine z_C_in (by decide) (by omega) (fun d' Z ed hc hr => ?_)
  have hH := zh_X1_chosenThrees
  have lp : ∀ (n i : Nat), i + n = 4 → Z 0 5 [(4, .int (nI i)), (2, .long (chB (μ.1 17) c i)), (0, .ref 14), (1, .int (nI c))] [] μ := by
    intro n
    induction n with
    | zero =>
      intro i hi
      have hi : i = 4 := by omega
      subst hi
      refine z_rcs hc hH 2 (pc' := 8) (lv' := [(4, .int (nI 4)), (2, .long (chB (μ.1 17) c 4)), (0, .ref 14), (1, .int (nI c))]) (st' := [.int 4, .int (nI 4)]) (μ' := μ) (by rfl) ?_
      refine zq_ic hc hH (by rfl) (tg := 38) (by rfl) (fun _ => ?_) (fun h9 => (zb_t (ge_nIt (n := 4) (i := 4) (by decide) (by decide)) h9).elim)
      refine z_rcs hc hH 1 (pc' := 39) (lv' := [(4, .int (nI 4)), (2, .long (chB (μ.1 17) c 4)), (0, .ref 14), (1, .int (nI c))]) (st' := [.long (chB (μ.1 17) c 4)]) (μ' := μ) (by rfl) ?_
      exact hr 0 39 _ _ _ (some (.long (chB (μ.1 17) c 4))) (by decide +kernel) (z_rx_ok hH (by rfl)) (⟨rfl, rfl⟩)
    | succ n ih =>
      intro i hi
      have hin : vp_in (nI i) 4 := vp_in_nI (by omega) (by decide)
      have ei : (nI i).toNatClampNeg = i := nI_clamp (by omega)
      have e0 : chB (μ.1 17) c (i + 1) = if c / 2 ^ i % 2 = 1 then chB (μ.1 17) c i ||| ((1 : Int64) <<< ((μ.1 17 i).toInt64 &&& 63)) else chB (μ.1 17) c i := rfl
      refine z_rcs hc hH 2 (pc' := 8) (lv' := [(4, .int (nI i)), (2, .long (chB (μ.1 17) c i)), (0, .ref 14), (1, .int (nI c))]) (st' := [.int 4, .int (nI i)]) (μ' := μ) (by rfl) ?_
      refine zq_ic hc hH (by rfl) (tg := 38) (by rfl) (fun h9 => (zb_t h9 (ge_nI (n := 4) (i := i) (by omega) (by decide))).elim) (fun _ => ?_)
      refine z_rcs hc hH 2 (pc' := 14) (lv' := [(4, .int (nI i)), (2, .long (chB (μ.1 17) c i)), (0, .ref 14), (1, .int (nI c))]) (st' := [.int (nI i), .int (nI c)]) (μ' := μ) (by rfl) ?_
      refine z_rcs hc hH 3 (pc' := 17) (lv' := [(4, .int (nI i)), (2, .long (chB (μ.1 17) c i)), (0, .ref 14), (1, .int (nI c))]) (st' := [.int ((((nI c).toUInt32 >>> ((nI i).toUInt32 &&& Int32.toUInt32 31)).toInt32) &&& 1)]) (μ' := μ) (by rfl) ?_
      refine zq_if hc hH (by rfl) (tg := 32) (by rfl) (fun h1 => ?_) (fun h1 => ?_)
      · have h1 := cm_eq9.mp h1
        refine z_rcs hc hH 2 (pc' := 5) (lv' := [(4, .int ((nI i) + 1)), (2, .long (chB (μ.1 17) c i)), (0, .ref 14), (1, .int (nI c))]) (st' := []) (μ' := μ) (by rfl) ?_
        rw [if_neg ((ch_b c hcc i (by omega)).mp h1)] at e0
        rw [nI_1, ← e0]
        exact ih (i + 1) (by omega)
      · have h1 := cn_eq.mp h1
        refine z_rcs hc hH 5 (pc' := 28) (lv' := [(4, .int (nI i)), (2, .long (chB (μ.1 17) c i)), (0, .ref 14), (1, .int (nI c))]) (st' := [.int (nI i), .ref 17, .long 1, .long (chB (μ.1 17) c i)]) (μ' := μ) (by rfl) ?_
        refine zq_iald hc hH (by rfl) 4 (by decide +kernel) (hin) ?_
        rw [ei]
        show Z 0 29 [(4, .int (nI i)), (2, .long (chB (μ.1 17) c i)), (0, .ref 14), (1, .int (nI c))] [.int (μ.1 17 i), .long 1, .long (chB (μ.1 17) c i)] μ
        refine z_rcs hc hH 5 (pc' := 5) (lv' := [(4, .int ((nI i) + 1)), (2, .long ((chB (μ.1 17) c i) ||| (1 <<< ((μ.1 17 i).toInt64 &&& 63)))), (0, .ref 14), (1, .int (nI c))]) (st' := []) (μ' := μ) (by rfl) ?_
        rw [if_pos (Decidable.byContradiction fun z => h1 ((ch_b c hcc i (by omega)).mpr z))] at e0
        rw [nI_1, ← e0]
        exact ih (i + 1) (by omega)
  refine z_rcs hc hH 4 (pc' := 5) (lv' := [(4, .int 0), (2, .long 0), (0, .ref 14), (1, .int (nI c))]) (st' := []) (μ' := μ) (by rfl) ?_
  exact lp 4 0 (by omega)
/-- a bit that is shifted down -/
theorem us_n : ∀ k, k < 64 → ((nI k).toInt64.toUInt64 &&& Int64.toUInt64 63) = UInt64.ofNat k := by decide +kernel
theorem us_bit (x : Int64) (k : Nat) (hk : k < 64) : (((x.toUInt64 >>> ((nI k).toInt64.toUInt64 &&& Int64.toUInt64 63)).toInt64) &&& 1) = 0 ↔ x.toBitVec.getLsbD k = false := by
  rw [us_n k hk]
  have e : ((x.toUInt64 >>> (UInt64.ofNat k)).toInt64 &&& 1).toBitVec = (x.toBitVec >>> k) &&& 1#64 := by
    rw [Int64.toBitVec_and]
    congr 1
    show (x.toUInt64 >>> UInt64.ofNat k).toBitVec = _
    rw [UInt64.toBitVec_shiftRight]
    have : (UInt64.ofNat k).toBitVec % 64 = BitVec.ofNat 64 k := by
      revert k; decide +kernel
    rw [this]
    show x.toBitVec >>> (BitVec.ofNat 64 k) = _
    rw [BitVec.ushiftRight_eq', BitVec.toNat_ofNat, Nat.mod_eq_of_lt (by omega)]
  constructor
  · intro h
    have h2 : ((x.toBitVec >>> k) &&& 1#64).getLsbD 0 = (0#64).getLsbD 0 := by rw [← e, h]; rfl
    rw [BitVec.getLsbD_and, BitVec.getLsbD_ushiftRight] at h2
    simpa using h2
  · intro h
    rw [← Int64.toBitVec_inj, e]
    show _ = 0#64
    apply BitVec.eq_of_getLsbD_eq
    intro i hi
    rw [BitVec.getLsbD_and, BitVec.getLsbD_ushiftRight]
    by_cases h0 : i = 0
    · subst h0; rw [Nat.add_zero, h]; rfl
    · have : (1#64).getLsbD i = false := by rw [BitVec.getLsbD_one]; simp; omega
      rw [this]; simp
theorem xHd_bit (x : Int64) (k : Nat) (hk : k < 34) : xHd x (nI k) = x.toBitVec.getLsbD k := by
  have e1 : decide (nI k < 0) = false := by revert k; decide +kernel
  have e2 : decide ((34 : Int32) ≤ nI k) = false := by revert k; decide +kernel
  unfold xHd
  rw [e1, e2]
  show (true && (true && !decide _)) = _
  rw [Bool.true_and, Bool.true_and]
  cases h : x.toBitVec.getLsbD k
  · rw [decide_eq_true (lg_c0.mpr ((us_bit x k (by omega)).mpr h))]; rfl
  · rw [decide_eq_false (fun z => by have := (us_bit x k (by omega)).mp (lg_c0.mp z); rw [h] at this; exact absurd this (by decide))]; rfl
theorem one_bit (a k : Nat) (ha : a < 34) (hk : k < 64) : ((1 : Int64) <<< ((nI a).toInt64 &&& 63)).toBitVec.getLsbD k = decide (a = k) := by
  rw [kb_one a ha, BitVec.getLsbD_twoPow]
  by_cases h : a = k
  · subst h; simp; omega
  · simp [h]
theorem chB_bit (f : Nat → Int32) (c : Nat) (k : Nat) (hk : k < 34) : ∀ i, (∀ j, j < i → c / 2 ^ j % 2 = 1 → ∃ a, a < 34 ∧ f j = nI a) → ((chB f c i).toBitVec.getLsbD k = true ↔ ∃ j, j < i ∧ c / 2 ^ j % 2 = 1 ∧ f j = nI k) := by
  intro i
  induction i with
  | zero => intro _; exact ⟨fun h => absurd h (by rw [show (chB f c 0).toBitVec = 0#64 from rfl, BitVec.getLsbD_zero]; decide), fun ⟨j, hj, _⟩ => absurd hj (by omega)⟩
  | succ i ih =>
    intro hf
    have i1 := ih (fun j hj => hf j (by omega))
    show (if c / 2 ^ i % 2 = 1 then chB f c i ||| ((1 : Int64) <<< ((f i).toInt64 &&& 63)) else chB f c i).toBitVec.getLsbD k = true ↔ _
    by_cases h : c / 2 ^ i % 2 = 1
    · obtain ⟨a, ha, ea⟩ := hf i (by omega) h
      rw [if_pos h, Int64.toBitVec_or, BitVec.getLsbD_or, Bool.or_eq_true, i1, ea, one_bit a k ha (by omega), decide_eq_true_iff]
      constructor
      · rintro (⟨j, h1, h2⟩ | e)
        · exact ⟨j, by omega, h2⟩
        · exact ⟨i, by omega, h, by rw [ea, e]⟩
      · rintro ⟨j, h1, h2, h3⟩
        by_cases e : j = i
        · rw [e, ea] at h3; exact Or.inr ((nI_eq (by omega) (by omega)).mp h3)
        · exact Or.inl ⟨j, by omega, h2, h3⟩
    · rw [if_neg h, i1]
      exact ⟨fun ⟨j, h1, h2⟩ => ⟨j, by omega, h2⟩, fun ⟨j, h1, h2⟩ => ⟨j, if e : j = i then (by rw [e] at h2; exact absurd h2.1 h) else (by omega), h2⟩⟩

/-! the reference: what a desk is worth -/
set_option maxRecDepth 8000
noncomputable abbrev mdK : List (Nat × Nat) := [(50, 7), (50, 8), (50, 9), (50, 10), (50, 11), (50, 12), (58, 9999)]
noncomputable abbrev mdKR : List (Nat × Nat) := [(50, 7), (50, 8), (50, 9), (50, 10), (50, 11), (50, 12), (50, 13), (50, 14), (50, 15), (50, 16), (50, 17), (50, 18), (50, 21), (50, 22), (50, 23), (50, 24), (50, 25), (51, 9999), (54, 9999), (55, 9999), (56, 9999), (57, 9999), (58, 9999)]
noncomputable abbrev mdWo : List (Nat × Nat) := [(50, 0), (50, 4), (50, 7), (50, 8), (50, 9), (50, 10), (50, 11), (50, 12), (50, 13), (50, 14), (50, 15), (50, 16), (50, 17), (50, 18), (50, 21), (50, 22), (50, 23), (50, 24), (50, 25), (50, 67), (51, 9999), (52, 9999), (53, 9999), (54, 9999), (55, 9999), (56, 9999), (57, 9999), (58, 9999), (77, 9999)]
/-- what the reckoning reads -/
noncomputable def KM (κ : zM) (w : Nat → Nat) (q : Nat) (sL lL : Nat → Nat) (k : Int32) (dr : Bool) (told : Int64) (sw rw dear : Int32) : Prop := (κ.1 50 4 = nI q) ∧ (∀ j, j < q → κ.1 52 j = nI (sL j) ∧ sL j ≤ 3 ∧ κ.1 53 j = nI (lL j) ∧ lL j < 34) ∧ (∀ j, j < 34 → κ.1 58 j = nI (w j)) ∧ (κ.1 50 7 = k) ∧ (κ.1 50 8 = sw) ∧ (κ.1 50 9 = rw) ∧ (κ.1 50 10 = dear) ∧ (κ.1 50 11 = nB dr) ∧ (κ.2.1 50 12 = told)
theorem KM.c4 {κ : zM} {w : Nat → Nat} {q : Nat} {sL lL : Nat → Nat} {k : Int32} {dr : Bool} {told : Int64} {sw rw dear : Int32} (h : KM κ w q sL lL k dr told sw rw dear) : κ.1 50 4 = nI q := h.1
theorem KM.r52 {κ : zM} {w : Nat → Nat} {q : Nat} {sL lL : Nat → Nat} {k : Int32} {dr : Bool} {told : Int64} {sw rw dear : Int32} (h : KM κ w q sL lL k dr told sw rw dear) : ∀ j, j < q → κ.1 52 j = nI (sL j) ∧ sL j ≤ 3 ∧ κ.1 53 j = nI (lL j) ∧ lL j < 34 := h.2.1
theorem KM.r58 {κ : zM} {w : Nat → Nat} {q : Nat} {sL lL : Nat → Nat} {k : Int32} {dr : Bool} {told : Int64} {sw rw dear : Int32} (h : KM κ w q sL lL k dr told sw rw dear) : ∀ j, j < 34 → κ.1 58 j = nI (w j) := h.2.2.1
theorem KM.c7 {κ : zM} {w : Nat → Nat} {q : Nat} {sL lL : Nat → Nat} {k : Int32} {dr : Bool} {told : Int64} {sw rw dear : Int32} (h : KM κ w q sL lL k dr told sw rw dear) : κ.1 50 7 = k := h.2.2.2.1
theorem KM.c8 {κ : zM} {w : Nat → Nat} {q : Nat} {sL lL : Nat → Nat} {k : Int32} {dr : Bool} {told : Int64} {sw rw dear : Int32} (h : KM κ w q sL lL k dr told sw rw dear) : κ.1 50 8 = sw := h.2.2.2.2.1
theorem KM.c9 {κ : zM} {w : Nat → Nat} {q : Nat} {sL lL : Nat → Nat} {k : Int32} {dr : Bool} {told : Int64} {sw rw dear : Int32} (h : KM κ w q sL lL k dr told sw rw dear) : κ.1 50 9 = rw := h.2.2.2.2.2.1
theorem KM.c10 {κ : zM} {w : Nat → Nat} {q : Nat} {sL lL : Nat → Nat} {k : Int32} {dr : Bool} {told : Int64} {sw rw dear : Int32} (h : KM κ w q sL lL k dr told sw rw dear) : κ.1 50 10 = dear := h.2.2.2.2.2.2.1
theorem KM.c11 {κ : zM} {w : Nat → Nat} {q : Nat} {sL lL : Nat → Nat} {k : Int32} {dr : Bool} {told : Int64} {sw rw dear : Int32} (h : KM κ w q sL lL k dr told sw rw dear) : κ.1 50 11 = nB dr := h.2.2.2.2.2.2.2.1
theorem KM.t12 {κ : zM} {w : Nat → Nat} {q : Nat} {sL lL : Nat → Nat} {k : Int32} {dr : Bool} {told : Int64} {sw rw dear : Int32} (h : KM κ w q sL lL k dr told sw rw dear) : κ.2.1 50 12 = told := h.2.2.2.2.2.2.2.2
noncomputable def RC (μ μ1 : zM) (i : Nat) (k sw rw dear : Int32) (dr : Bool) (told : Int64) : Prop := (∀ j, j < i → μ1.1 58 j = μ.1 51 j) ∧ a_Fz mdK μ μ1 ∧ a_H μ1 ∧ μ1.1 50 7 = k ∧ μ1.1 50 8 = sw ∧ μ1.1 50 9 = rw ∧ μ1.1 50 10 = dear ∧ μ1.1 50 11 = nB dr ∧ μ1.2.1 50 12 = told
theorem zh_X7_reckon : zH mi_X7_reckon zt_X7_reckon 79 7 9 := hh_X7_reckon
theorem fr_X7_reckon (d : Nat) (hd : 13 ≤ d) (μ : zM) (w : Nat → Nat) (q : Nat) (hq : q ≤ 4) (hw : RW μ 51 w) (e4 : μ.1 50 4 = nI q) (sL lL : Nat → Nat) (hL : ∀ j, j < q → μ.1 52 j = nI (sL j) ∧ sL j ≤ 3 ∧ μ.1 53 j = nI (lL j) ∧ lL j < 34) (hH0 : a_H μ) (k sw rw dear : Int32) (dr : Bool) (told : Int64) : z_C d mi_X7_reckon [.ref 50, .int k, .int (nB dr), .long told, .int sw, .int rw, .int dear] μ (fun r μ' => r = none ∧ a_H μ' ∧ a_Fz mdKR μ μ' ∧ ∃ κ, KM κ w q sL lL k dr told sw rw dear ∧ BS (SR κ w q sL lL) (0, 0, 0, 0) (bq μ')) := by
  refine z_C_in (by decide) (by omega) (fun d' Z ed hc hr => ?_)
  have hH := zh_X7_reckon
  have lp : ∀ (n i : Nat), i + n = 34 → ∀ μ1, RC μ μ1 i k sw rw dear dr told → Z 0 36 [(8, .int (nI i)), (0, .ref 50), (1, .int k), (2, .int (nB dr)), (3, .long told), (5, .int sw), (6, .int rw), (7, .int dear)] [] μ1 := by
    intro n
    induction n with
    | zero =>
      intro i hi μ1 g
      have hi : i = 34 := by omega
      subst hi
      have w1 : RW μ1 51 w := fun j hj => by rw [a_Fz_at g.2.1 51 j (a_md_row (by decide))]; exact hw j hj
      have e41 : μ1.1 50 4 = nI q := (a_Fz_at g.2.1 50 4 (by decide)).trans e4
      have hL1 : ∀ j, j < q → μ1.1 52 j = nI (sL j) ∧ sL j ≤ 3 ∧ μ1.1 53 j = nI (lL j) ∧ lL j < 34 := fun j hj => by rw [a_Fz_at g.2.1 52 j (a_md_row (by decide)), a_Fz_at g.2.1 53 j (a_md_row (by decide))]; exact hL j hj
      refine z_rcs hc hH 2 (pc' := 40) (lv' := [(8, .int (nI 34)), (0, .ref 50), (1, .int k), (2, .int (nB dr)), (3, .long told), (5, .int sw), (6, .int rw), (7, .int dear)]) (st' := [.int 34, .int (nI 34)]) (μ' := μ1) (by rfl) ?_
      refine zq_ic hc hH (by rfl) (tg := 63) (by rfl) (fun _ => ?_) (fun h9 => (zb_t (ge_nIt (n := 34) (i := 34) (by decide) (by decide)) h9).elim)
      refine z_rcs hc hH 2 (pc' := 65) (lv' := [(8, .int (nI 34)), (0, .ref 50), (1, .int k), (2, .int (nB dr)), (3, .long told), (5, .int sw), (6, .int rw), (7, .int dear)]) (st' := [.int 1, .ref 50]) (μ' := μ1) (by rfl) ?_
      refine zq_call hc (z_cx_ok hH (by rfl)) (fr_X7_apart d' (by omega) μ1 w q hq w1 e41 sL lL hL1 g.2.2.1) (by decide +kernel) (fun r2 μ2 hq2 => ?_)
      obtain ⟨rfl, hA⟩ := hq2
      show Z 0 68 [(8, .int (nI 34)), (0, .ref 50), (1, .int k), (2, .int (nB dr)), (3, .long told), (5, .int sw), (6, .int rw), (7, .int dear)] [] μ2
      exact hr 0 68 _ _ _ none (by decide +kernel) (by rfl) (⟨rfl, hA.2.2.1, a_Fz_tr (by decide) (a_Fz_tr (by decide) (a_Fz_rf mdKR μ) g.2.1) hA.2.1, μ1, ⟨e41, hL1, fun j hj => (g.1 j hj).trans (hw j hj).1, g.2.2.2.1, g.2.2.2.2.1, g.2.2.2.2.2.1, g.2.2.2.2.2.2.1, g.2.2.2.2.2.2.2.1, g.2.2.2.2.2.2.2.2⟩, hA.2.2.2⟩)
    | succ n ih =>
      intro i hi μ1 g
      have hin : vp_in (nI i) 34 := vp_in_nI (by omega) (by decide)
      refine z_rcs hc hH 2 (pc' := 40) (lv' := [(8, .int (nI i)), (0, .ref 50), (1, .int k), (2, .int (nB dr)), (3, .long told), (5, .int sw), (6, .int rw), (7, .int dear)]) (st' := [.int 34, .int (nI i)]) (μ' := μ1) (by rfl) ?_
      refine zq_ic hc hH (by rfl) (tg := 63) (by rfl) (fun h9 => (zb_t h9 (ge_nI (n := 34) (i := i) (by omega) (by decide))).elim) (fun _ => ?_)
      refine z_rcs hc hH 6 (pc' := 55) (lv' := [(8, .int (nI i)), (0, .ref 50), (1, .int k), (2, .int (nB dr)), (3, .long told), (5, .int sw), (6, .int rw), (7, .int dear)]) (st' := [.int (nI i), .ref 51, .int (nI i), .ref 58]) (μ' := μ1) (by rfl) ?_
      refine zq_iald hc hH (by rfl) 34 (by decide +kernel) (hin) ?_
      rw [nI_clamp (n := i) (by omega), a_Fz_at g.2.1 51 i (a_md_row (by decide))]
      show Z 0 56 [(8, .int (nI i)), (0, .ref 50), (1, .int k), (2, .int (nB dr)), (3, .long told), (5, .int sw), (6, .int rw), (7, .int dear)] [.int (μ.1 51 i), .int (nI i), .ref 58] μ1
      refine zq_iast hc hH (by rfl) 34 (by decide +kernel) (hin) ?_
      rw [nI_clamp (n := i) (by omega)]
      have g2 : RC μ (z_ui μ1 58 i (μ.1 51 i)) (i + 1) k sw rw dear dr told := by
        refine ⟨fun j hj => ?_, a_Fz_ui g.2.1 (a_mda_md (by decide) _), a_H_ui g.2.2.1 (bI_top _), ?_⟩
        · rw [z_ui_rd]
          by_cases e : j = i
          · rw [if_pos ⟨rfl, e⟩, e]
          · rw [if_neg (fun z => e z.2)]; exact g.1 j (by omega)
        · rw [z_ui_rd, if_neg (by omega), z_ui_rd, if_neg (by omega), z_ui_rd, if_neg (by omega), z_ui_rd, if_neg (by omega), z_ui_rd, if_neg (by omega)]; exact g.2.2.2
      generalize z_ui μ1 58 i (μ.1 51 i) = μ3 at g2 ⊢
      refine z_rcs hc hH 2 (pc' := 36) (lv' := [(8, .int ((nI i) + 1)), (0, .ref 50), (1, .int k), (2, .int (nB dr)), (3, .long told), (5, .int sw), (6, .int rw), (7, .int dear)]) (st' := []) (μ' := μ3) (by rfl) ?_
      rw [nI_1]
      exact ih (i + 1) (by omega) μ3 g2
  refine z_rcs hc hH 5 (pc' := 7) (lv' := [(0, .ref 50), (1, .int k), (2, .int (nB dr)), (3, .long told), (5, .int sw), (6, .int rw), (7, .int dear)]) (st' := [.int (nB dr), .ref 50]) (μ' := z_ui μ 50 7 k) (by rfl) ?_
  refine zq_zput hc hH (by rfl) (ci := 6) (f := 11) (by decide +kernel) ((by cases dr <;> rfl)) ?_
  refine z_rcs hc hH 14 (pc' := 36) (lv' := [(8, .int 0), (0, .ref 50), (1, .int k), (2, .int (nB dr)), (3, .long told), (5, .int sw), (6, .int rw), (7, .int dear)]) (st' := []) (μ' := z_ui (z_ui (z_ui (z_uj (z_ui (z_ui μ 50 7 k) 50 11 (nB dr)) 50 12 told) 50 8 sw) 50 9 rw) 50 10 dear) (by rfl) ?_
  refine lp 34 0 (by omega) _ ⟨fun j hj => absurd hj (by omega), ?_, ?_, ?_, ?_, ?_, ?_, ?_, ?_⟩
  · exact a_Fz_ui (a_Fz_ui (a_Fz_ui (a_Fz_uj (a_Fz_ui (a_Fz_ui (a_Fz_rf _ _) (by decide)) (by decide)) (by decide)) (by decide)) (by decide)) (by decide)
  · exact a_H_ui (a_H_ui (a_H_ui (a_H_uj (a_H_ui (a_H_ui hH0 (bI_top _)) (by cases dr <;> exact ⟨by decide, by decide⟩))) (bI_top _)) (bI_top _)) (bI_top _)
  · rw [z_ui_rd, if_neg (by omega), z_ui_rd, if_neg (by omega), z_ui_rd, if_neg (by omega)]; show (z_ui (z_ui μ 50 7 k) 50 11 (nB dr)).1 50 7 = k; rw [z_ui_rd, if_neg (by omega), z_ui_rd, if_pos ⟨rfl, rfl⟩]
  · rw [z_ui_rd, if_neg (by omega), z_ui_rd, if_neg (by omega), z_ui_rd, if_pos ⟨rfl, rfl⟩]
  · rw [z_ui_rd, if_neg (by omega), z_ui_rd, if_pos ⟨rfl, rfl⟩]
  · rw [z_ui_rd, if_pos ⟨rfl, rfl⟩]
  · rw [z_ui_rd, if_neg (by omega), z_ui_rd, if_neg (by omega), z_ui_rd, if_neg (by omega)]; show (z_ui (z_ui μ 50 7 k) 50 11 (nB dr)).1 50 11 = nB dr; rw [z_ui_rd, if_pos ⟨rfl, rfl⟩]
  · show (z_uj (z_ui (z_ui μ 50 7 k) 50 11 (nB dr)) 50 12 told).2.1 50 12 = told; rw [z_uj_rd, if_pos ⟨rfl, rfl⟩]
theorem zh_X7_nothing : zH mi_X7_nothing zt_X7_nothing 79 7 1 := hh_X7_nothing
theorem fr_X7_nothing (d : Nat) (hd : 1 ≤ d) (μ : zM) (hH0 : a_H μ) : z_C d mi_X7_nothing [.ref 50] μ (fun r μ' => r = none ∧ a_H μ' ∧ a_Fz mdKR μ μ' ∧ bq μ' = (0, 0, 0, 0)) := by
  refine z_C_in (by decide) (by omega) (fun d' Z ed hc hr => ?_)
  have hH := zh_X7_nothing
  refine z_rcs hc hH 15 (pc' := 25) (lv' := [(0, .ref 50)]) (st' := []) (μ' := z_uj (z_ui (z_ui (z_ui (z_ui μ 50 16 0) 50 13 0) 50 14 0) 50 15 0) 50 17 0) (by rfl) ?_
  have z : bq (z_uj (z_ui (z_ui (z_ui (z_ui μ 50 16 0) 50 13 0) 50 14 0) 50 15 0) 50 17 0) = (0, 0, 0, 0) := by
    refine Prod.ext ?_ (Prod.ext ?_ (Prod.ext ?_ ?_))
    · show (z_ui (z_ui (z_ui (z_ui μ 50 16 0) 50 13 0) 50 14 0) 50 15 0).1 50 13 = 0; rw [z_ui_rd, if_neg (by omega), z_ui_rd, if_neg (by omega), z_ui_rd, if_pos ⟨rfl, rfl⟩]
    · show (z_ui (z_ui (z_ui (z_ui μ 50 16 0) 50 13 0) 50 14 0) 50 15 0).1 50 14 = 0; rw [z_ui_rd, if_neg (by omega), z_ui_rd, if_pos ⟨rfl, rfl⟩]
    · show (z_ui (z_ui (z_ui (z_ui μ 50 16 0) 50 13 0) 50 14 0) 50 15 0).1 50 15 = 0; rw [z_ui_rd, if_pos ⟨rfl, rfl⟩]
    · show (z_uj (z_ui (z_ui (z_ui (z_ui μ 50 16 0) 50 13 0) 50 14 0) 50 15 0) 50 17 0).2.1 50 17 = 0; rw [z_uj_rd, if_pos ⟨rfl, rfl⟩]
  exact hr 0 25 _ _ _ none (by decide +kernel) (by rfl) (⟨rfl, a_H_uj (a_H_ui (a_H_ui (a_H_ui (a_H_ui hH0 (bI_top _)) (bI_top _)) (bI_top _)) (bI_top _)), a_Fz_uj (a_Fz_ui (a_Fz_ui (a_Fz_ui (a_Fz_ui (a_Fz_rf _ _) (by decide)) (by decide)) (by decide)) (by decide)) (by decide), z⟩)
theorem zh_X7_worth : zH mi_X7_worth zt_X7_worth 79 7 9 := hh_X7_worth
noncomputable abbrev tlm : Int64 := (247 ||| lb true 42) ||| lb true 43
theorem fr_X7_worth (d : Nat) (hd : 15 ≤ d) (μ : zM) (w : Nat → Nat) (q : Nat) (hR : RD μ q) (hw : ∀ j, j < 34 → μ.1 74 j = nI (w j) ∧ w j ≤ 4) (sL lL : Nat → Nat) (hL : ∀ j, j < q → μ.1 75 j = nI (sL j) ∧ sL j ≤ 3 ∧ μ.1 76 j = nI (lL j) ∧ lL j < 34) (hH0 : a_H μ) (k wi de : Int32) (dr : Bool) (told : Int64) : z_C d mi_X7_worth [.ref 50, .int k, .int (nB dr), .long told, .int wi, .int de] μ (fun r μ' => a_H μ' ∧ a_Fz mdWo μ μ' ∧ ∃ (κ : zM) (b : Q4), r = some (.int b.1) ∧ μ'.2.1 50 67 = b.2.2.2 ∧ ((¬ (vp_in k 34 ∧ 0 < w k.toNatClampNeg) ∧ b = (0, 0, 0, 0)) ∨ ((vp_in k 34 ∧ 0 < w k.toNatClampNeg) ∧ KM κ w q sL lL k dr (told &&& tlm) (wi &&& 3) ((wi >>> (2 &&& 31)) &&& 3) (de &&& 63) ∧ BS (SR κ w q sL lL) (0, 0, 0, 0) b))) := by
  refine z_C_in (by decide) (by omega) (fun d' Z ed hc hr => ?_)
  have hH := zh_X7_worth
  have t74 : ∀ μ2, a_H μ2 → a_Fz mdWo μ μ2 → (∃ κ : zM, ((¬ (vp_in k 34 ∧ 0 < w k.toNatClampNeg) ∧ bq μ2 = (0, 0, 0, 0)) ∨ ((vp_in k 34 ∧ 0 < w k.toNatClampNeg) ∧ KM κ w q sL lL k dr (told &&& tlm) (wi &&& 3) ((wi >>> (2 &&& 31)) &&& 3) (de &&& 63) ∧ BS (SR κ w q sL lL) (0, 0, 0, 0) (bq μ2)))) → Z 0 74 [(7, .long tlm), (0, .ref 50), (1, .int k), (2, .int (nB dr)), (3, .long told), (5, .int wi), (6, .int de)] [] μ2 := by
    intro μ2 H2 F2 hT
    refine z_rcs hc hH 5 (pc' := 83) (lv' := [(7, .long tlm), (0, .ref 50), (1, .int k), (2, .int (nB dr)), (3, .long told), (5, .int wi), (6, .int de)]) (st' := [.int (μ2.1 50 13), .int 0, .ref 77]) (μ' := μ2) (by rfl) ?_
    show Z 0 83 [(7, .long tlm), (0, .ref 50), (1, .int k), (2, .int (nB dr)), (3, .long told), (5, .int wi), (6, .int de)] [.int (μ2.1 50 13), .int 0, .ref 77] μ2
    refine zq_iast hc hH (by rfl) 4 (by decide +kernel) (show vp_in (nI 0) 4 from vp_in_nI (by decide) (by decide)) ?_
    rw [show (0 : Int32).toNatClampNeg = 0 from rfl]
    show Z 0 84 [(7, .long tlm), (0, .ref 50), (1, .int k), (2, .int (nB dr)), (3, .long told), (5, .int wi), (6, .int de)] [] (z_ui μ2 77 0 (μ2.1 50 13))
    refine z_rcs hc hH 5 (pc' := 93) (lv' := [(7, .long tlm), (0, .ref 50), (1, .int k), (2, .int (nB dr)), (3, .long told), (5, .int wi), (6, .int de)]) (st' := [.int (μ2.1 50 14), .int 1, .ref 77]) (μ' := z_ui μ2 77 0 (μ2.1 50 13)) (by rfl) ?_
    show Z 0 93 [(7, .long tlm), (0, .ref 50), (1, .int k), (2, .int (nB dr)), (3, .long told), (5, .int wi), (6, .int de)] [.int (μ2.1 50 14), .int 1, .ref 77] (z_ui μ2 77 0 (μ2.1 50 13))
    refine zq_iast hc hH (by rfl) 4 (by decide +kernel) (show vp_in (nI 1) 4 from vp_in_nI (by decide) (by decide)) ?_
    rw [show (1 : Int32).toNatClampNeg = 1 from rfl]
    show Z 0 94 [(7, .long tlm), (0, .ref 50), (1, .int k), (2, .int (nB dr)), (3, .long told), (5, .int wi), (6, .int de)] [] (z_ui (z_ui μ2 77 0 (μ2.1 50 13)) 77 1 (μ2.1 50 14))
    refine z_rcs hc hH 5 (pc' := 103) (lv' := [(7, .long tlm), (0, .ref 50), (1, .int k), (2, .int (nB dr)), (3, .long told), (5, .int wi), (6, .int de)]) (st' := [.int (μ2.1 50 15), .int 2, .ref 77]) (μ' := z_ui (z_ui μ2 77 0 (μ2.1 50 13)) 77 1 (μ2.1 50 14)) (by rfl) ?_
    show Z 0 103 [(7, .long tlm), (0, .ref 50), (1, .int k), (2, .int (nB dr)), (3, .long told), (5, .int wi), (6, .int de)] [.int (μ2.1 50 15), .int 2, .ref 77] (z_ui (z_ui μ2 77 0 (μ2.1 50 13)) 77 1 (μ2.1 50 14))
    refine zq_iast hc hH (by rfl) 4 (by decide +kernel) (show vp_in (nI 2) 4 from vp_in_nI (by decide) (by decide)) ?_
    rw [show (2 : Int32).toNatClampNeg = 2 from rfl]
    show Z 0 104 [(7, .long tlm), (0, .ref 50), (1, .int k), (2, .int (nB dr)), (3, .long told), (5, .int wi), (6, .int de)] [] (z_ui (z_ui (z_ui μ2 77 0 (μ2.1 50 13)) 77 1 (μ2.1 50 14)) 77 2 (μ2.1 50 15))
    refine z_rcs hc hH 5 (pc' := 113) (lv' := [(7, .long tlm), (0, .ref 50), (1, .int k), (2, .int (nB dr)), (3, .long told), (5, .int wi), (6, .int de)]) (st' := [.int (μ2.1 50 16), .int 3, .ref 77]) (μ' := z_ui (z_ui (z_ui μ2 77 0 (μ2.1 50 13)) 77 1 (μ2.1 50 14)) 77 2 (μ2.1 50 15)) (by rfl) ?_
    show Z 0 113 [(7, .long tlm), (0, .ref 50), (1, .int k), (2, .int (nB dr)), (3, .long told), (5, .int wi), (6, .int de)] [.int (μ2.1 50 16), .int 3, .ref 77] (z_ui (z_ui (z_ui μ2 77 0 (μ2.1 50 13)) 77 1 (μ2.1 50 14)) 77 2 (μ2.1 50 15))
    refine zq_iast hc hH (by rfl) 4 (by decide +kernel) (show vp_in (nI 3) 4 from vp_in_nI (by decide) (by decide)) ?_
    rw [show (3 : Int32).toNatClampNeg = 3 from rfl]
    show Z 0 114 [(7, .long tlm), (0, .ref 50), (1, .int k), (2, .int (nB dr)), (3, .long told), (5, .int wi), (6, .int de)] [] (z_ui (z_ui (z_ui (z_ui μ2 77 0 (μ2.1 50 13)) 77 1 (μ2.1 50 14)) 77 2 (μ2.1 50 15)) 77 3 (μ2.1 50 16))
    refine z_rcs hc hH 6 (pc' := 126) (lv' := [(7, .long tlm), (0, .ref 50), (1, .int k), (2, .int (nB dr)), (3, .long told), (5, .int wi), (6, .int de)]) (st' := [.int (μ2.1 50 13)]) (μ' := z_uj (z_ui (z_ui (z_ui (z_ui μ2 77 0 (μ2.1 50 13)) 77 1 (μ2.1 50 14)) 77 2 (μ2.1 50 15)) 77 3 (μ2.1 50 16)) 50 67 (μ2.2.1 50 17)) (by rfl) ?_
    show Z 0 126 [(7, .long tlm), (0, .ref 50), (1, .int k), (2, .int (nB dr)), (3, .long told), (5, .int wi), (6, .int de)] [.int (μ2.1 50 13)] (z_uj (z_ui (z_ui (z_ui (z_ui μ2 77 0 (μ2.1 50 13)) 77 1 (μ2.1 50 14)) 77 2 (μ2.1 50 15)) 77 3 (μ2.1 50 16)) 50 67 (μ2.2.1 50 17))
    obtain ⟨κ, hT⟩ := hT
    exact hr 0 126 _ _ _ (some (.int (μ2.1 50 13))) (by decide +kernel) (z_rx_ok hH (by rfl)) (⟨a_H_uj (a_H_ui (a_H_ui (a_H_ui (a_H_ui H2 (bI_top _)) (bI_top _)) (bI_top _)) (bI_top _)), a_Fz_uj (a_Fz_ui (a_Fz_ui (a_Fz_ui (a_Fz_ui F2 (a_mda_md (by decide) _)) (a_mda_md (by decide) _)) (a_mda_md (by decide) _)) (a_mda_md (by decide) _)) (by decide), κ, bq μ2, rfl, by rw [z_uj_rd, if_pos ⟨rfl, rfl⟩]; rfl, hT⟩)
  refine z_rcs hc hH 3 (pc' := 5) (lv' := [(0, .ref 50), (1, .int k), (2, .int (nB dr)), (3, .long told), (5, .int wi), (6, .int de)]) (st' := []) (μ' := z_ui μ 50 0 0) (by rfl) ?_
  have H0 : a_H (z_ui μ 50 0 0) := a_H_ui hH0 (bI_top _)
  have e66 : (z_ui μ 50 0 0).1 50 66 = nI q := by rw [z_ui_rd, if_neg (by omega)]; exact hR.2.1
  have r74 : ∀ r j, r ≠ 50 → (z_ui μ 50 0 0).1 r j = μ.1 r j := fun r j h => by rw [z_ui_rd, if_neg (fun z => h z.1)]
  have F0 : a_Fz mdWo μ (z_ui μ 50 0 0) := a_Fz_ui (a_Fz_rf _ _) (by decide)
  generalize z_ui μ 50 0 0 = μ0 at H0 e66 r74 F0 ⊢
  refine z_rcs hc hH 1 (pc' := 6) (lv' := [(0, .ref 50), (1, .int k), (2, .int (nB dr)), (3, .long told), (5, .int wi), (6, .int de)]) (st' := [.ref 50]) (μ' := μ0) (by rfl) ?_
  refine zq_call hc (z_cx_ok hH (by rfl)) (fc_X7_takeDesk d' (by omega) μ0 q hR.1 e66) (by decide +kernel) (fun r1 μ1 hq1 => ?_)
  obtain ⟨rfl, ht⟩ := hq1
  have l4 := hR.1
  have H1 := a_H_TD H0 ht (by rw [e66]; exact bd_nI (by omega) ⟨by omega, by omega⟩)
  have w1 : RW μ1 51 w := fun k hk => by rw [(ht.1 k hk).1, r74 74 k (by decide), (hw k hk).1]; exact ⟨rfl, by have := (hw k hk).2; omega⟩
  have e41 : μ1.1 50 4 = nI q := ht.2.1.trans e66
  have F1 : a_Fz mdWo μ μ1 := a_Fz_tr (m1 := [(50, 4), (51, 9999), (52, 9999), (53, 9999), (58, 9999)]) (by decide) F0 (fz_of (fun r k hm => ht.2.2.2.1 r k (md_ne hm (by decide)) (md_ne hm (by decide)) (md_ne hm (by decide)) (md_ne hm (by decide)) (md_nc hm (by decide))) ht.2.2.2.2)
  have hL1 : ∀ j, j < q → μ1.1 52 j = nI (sL j) ∧ sL j ≤ 3 ∧ μ1.1 53 j = nI (lL j) ∧ lL j < 34 := fun i hi => by
    have := ht.2.2.1 i (by rw [e66, nI_clamp (by omega)]; exact hi)
    rw [r74 75 i (by decide), r74 76 i (by decide)] at this
    rw [this.1, this.2]; exact hL i hi
  show Z 0 9 [(0, .ref 50), (1, .int k), (2, .int (nB dr)), (3, .long told), (5, .int wi), (6, .int de)] [] μ1
  refine z_rcs hc hH 2 (pc' := 14) (lv' := [(0, .ref 50), (1, .int k), (2, .int (nB dr)), (3, .long told), (5, .int wi), (6, .int de)]) (st' := [.int 42, .long 247]) (μ' := μ1) (by rfl) ?_
  refine zq_call hc (z_cx_ok hH (by rfl)) (fb_X7_bit d' (by omega) μ1 42) (by decide +kernel) (fun r9 μ9 hq => ?_)
  obtain ⟨hμ9, rfl⟩ := hq
  rw [hμ9]
  clear hμ9 μ9
  show Z 0 17 [(0, .ref 50), (1, .int k), (2, .int (nB dr)), (3, .long told), (5, .int wi), (6, .int de)] [.long (lb true 42), .long 247] μ1
  refine z_rcs hc hH 2 (pc' := 20) (lv' := [(0, .ref 50), (1, .int k), (2, .int (nB dr)), (3, .long told), (5, .int wi), (6, .int de)]) (st' := [.int 43, .long (247 ||| (lb true 42))]) (μ' := μ1) (by rfl) ?_
  refine zq_call hc (z_cx_ok hH (by rfl)) (fb_X7_bit d' (by omega) μ1 43) (by decide +kernel) (fun r9 μ9 hq => ?_)
  obtain ⟨hμ9, rfl⟩ := hq
  rw [hμ9]
  clear hμ9 μ9
  show Z 0 23 [(0, .ref 50), (1, .int k), (2, .int (nB dr)), (3, .long told), (5, .int wi), (6, .int de)] [.long (lb true 43), .long (247 ||| (lb true 42))] μ1
  refine z_rcs hc hH 3 (pc' := 27) (lv' := [(7, .long ((247 ||| (lb true 42)) ||| (lb true 43))), (0, .ref 50), (1, .int k), (2, .int (nB dr)), (3, .long told), (5, .int wi), (6, .int de)]) (st' := [.int k]) (μ' := μ1) (by rfl) ?_
  refine zq_call hc (z_cx_ok hH (by rfl)) (fc_X7_isKind d' (by omega) μ1 k) (by decide +kernel) (fun r9 μ9 hq => ?_)
  obtain ⟨hμ9, hq⟩ := hq
  rw [hμ9]
  clear hμ9 μ9
  obtain ⟨rfl, hk⟩ | ⟨rfl, hk⟩ := hq
  · show Z 0 30 [(7, .long ((247 ||| (lb true 42)) ||| (lb true 43))), (0, .ref 50), (1, .int k), (2, .int (nB dr)), (3, .long told), (5, .int wi), (6, .int de)] [.int 1] μ1
    refine z_rcs hc hH 4 (pc' := 38) (lv' := [(7, .long ((247 ||| (lb true 42)) ||| (lb true 43))), (0, .ref 50), (1, .int k), (2, .int (nB dr)), (3, .long told), (5, .int wi), (6, .int de)]) (st' := [.int k, .ref 51]) (μ' := μ1) (by rfl) ?_
    refine zq_iald hc hH (by rfl) 34 (by decide +kernel) (hk) ?_
    have hkn : k.toNatClampNeg < 34 := by have := vp_in_iff.mp hk; rw [Int32.toNatClampNeg]; omega
    rw [(w1 _ hkn).1]
    show Z 0 39 [(7, .long ((247 ||| (lb true 42)) ||| (lb true 43))), (0, .ref 50), (1, .int k), (2, .int (nB dr)), (3, .long told), (5, .int wi), (6, .int de)] [.int (nI (w k.toNatClampNeg))] μ1
    refine zq_if hc hH (by rfl) (tg := 70) (by rfl) (fun h1 => ?_) (fun h1 => ?_)
    · have h1 := cm_le.mp h1
      refine z_rcs hc hH 1 (pc' := 71) (lv' := [(7, .long ((247 ||| (lb true 42)) ||| (lb true 43))), (0, .ref 50), (1, .int k), (2, .int (nB dr)), (3, .long told), (5, .int wi), (6, .int de)]) (st' := [.ref 50]) (μ' := μ1) (by rfl) ?_
      refine zq_call hc (z_cx_ok hH (by rfl)) (fr_X7_nothing d' (by omega) μ1 H1) (by decide +kernel) (fun r2 μ2 hq2 => ?_)
      obtain ⟨rfl, H2, F2, hB⟩ := hq2
      have hN : ¬ (vp_in k 34 ∧ 0 < w k.toNatClampNeg) := fun z => by
        have z2 := h1
        have := (w1 _ hkn).2
        rw [Int32.le_iff_toInt_le, nI_toInt (by omega)] at z2
        have z2 : ((w k.toNatClampNeg : Nat) : Int) ≤ 0 := z2
        omega
      show Z 0 74 [(7, .long ((247 ||| (lb true 42)) ||| (lb true 43))), (0, .ref 50), (1, .int k), (2, .int (nB dr)), (3, .long told), (5, .int wi), (6, .int de)] [] μ2
      exact t74 μ2 H2 (a_Fz_tr (by decide) F1 F2) ⟨μ, Or.inl ⟨hN, hB⟩⟩
    · have h1 := cn_le.mp h1
      refine z_rcs hc hH 11 (pc' := 56) (lv' := [(7, .long ((247 ||| (lb true 42)) ||| (lb true 43))), (0, .ref 50), (1, .int k), (2, .int (nB dr)), (3, .long told), (5, .int wi), (6, .int de)]) (st' := [.int 2, .int wi, .int (wi &&& 3), .long (told &&& ((247 ||| (lb true 42)) ||| (lb true 43))), .int (nB dr), .int k, .ref 50]) (μ' := μ1) (by rfl) ?_
      refine z_rcs hc hH 6 (pc' := 64) (lv' := [(7, .long ((247 ||| (lb true 42)) ||| (lb true 43))), (0, .ref 50), (1, .int k), (2, .int (nB dr)), (3, .long told), (5, .int wi), (6, .int de)]) (st' := [.int (de &&& 63), .int ((wi >>> (2 &&& 31)) &&& 3), .int (wi &&& 3), .long (told &&& ((247 ||| (lb true 42)) ||| (lb true 43))), .int (nB dr), .int k, .ref 50]) (μ' := μ1) (by rfl) ?_
      refine zq_call hc (z_cx_ok hH (by rfl)) (fr_X7_reckon d' (by omega) μ1 w q l4 w1 e41 sL lL hL1 H1 k (wi &&& 3) ((wi >>> (2 &&& 31)) &&& 3) (de &&& 63) dr (told &&& tlm)) (by decide +kernel) (fun r2 μ2 hq2 => ?_)
      obtain ⟨rfl, H2, F2, κ, hK, hB⟩ := hq2
      have hpos : 0 < w k.toNatClampNeg := by
        have z := h1
        have := (w1 _ hkn).2
        rw [Int32.not_le, Int32.lt_iff_toInt_lt, nI_toInt (by omega)] at z
        have z : (0 : Int) < ((w k.toNatClampNeg : Nat) : Int) := z
        omega
      show Z 0 67 [(7, .long ((247 ||| (lb true 42)) ||| (lb true 43))), (0, .ref 50), (1, .int k), (2, .int (nB dr)), (3, .long told), (5, .int wi), (6, .int de)] [] μ2
      refine z_rcs hc hH 1 (pc' := 74) (lv' := [(7, .long ((247 ||| (lb true 42)) ||| (lb true 43))), (0, .ref 50), (1, .int k), (2, .int (nB dr)), (3, .long told), (5, .int wi), (6, .int de)]) (st' := []) (μ' := μ2) (by rfl) ?_
      exact t74 μ2 H2 (a_Fz_tr (by decide) F1 F2) ⟨κ, Or.inr ⟨⟨hk, hpos⟩, hK, hB⟩⟩
  · show Z 0 30 [(7, .long ((247 ||| (lb true 42)) ||| (lb true 43))), (0, .ref 50), (1, .int k), (2, .int (nB dr)), (3, .long told), (5, .int wi), (6, .int de)] [.int 0] μ1
    refine z_rcs hc hH 2 (pc' := 71) (lv' := [(7, .long ((247 ||| (lb true 42)) ||| (lb true 43))), (0, .ref 50), (1, .int k), (2, .int (nB dr)), (3, .long told), (5, .int wi), (6, .int de)]) (st' := [.ref 50]) (μ' := μ1) (by rfl) ?_
    refine zq_call hc (z_cx_ok hH (by rfl)) (fr_X7_nothing d' (by omega) μ1 H1) (by decide +kernel) (fun r2 μ2 hq2 => ?_)
    obtain ⟨rfl, H2, F2, hB⟩ := hq2
    have hN : ¬ (vp_in k 34 ∧ 0 < w k.toNatClampNeg) := fun z => hk z.1
    show Z 0 74 [(7, .long ((247 ||| (lb true 42)) ||| (lb true 43))), (0, .ref 50), (1, .int k), (2, .int (nB dr)), (3, .long told), (5, .int wi), (6, .int de)] [] μ2
    exact t74 μ2 H2 (a_Fz_tr (by decide) F1 F2) ⟨μ, Or.inl ⟨hN, hB⟩⟩

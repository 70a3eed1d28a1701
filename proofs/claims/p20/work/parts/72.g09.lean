set_option maxRecDepth 8000
theorem fb_X7_thirteen (d : Nat) (hd : 4 ≤ d) (μ : zM) (hH0 : a_H μ) : z_C d mi_X7_thirteen [.ref 50] μ (fun r μ' => r = none ∧ PQ μ μ' (vT μ)) := by
  refine z_C_in (by decide) (by omega) (fun d' Z ed hc hr => ?_)
  have hH := zh_X7_thirteen
  refine z_rcs hc hH 6 (pc' := 10) (lv' := [(0, .ref 50)]) (st' := []) (μ' := z_ui μ 50 16 ((μ.1 50 16) + 1)) (by rfl) ?_
  rw [mGP_z]
  show Z 0 10 [(0, .ref 50)] [] (mGP (z_ui μ 50 16 (μ.1 50 16 + 1)) (μ.2.1 50 24) (μ.2.1 50 25) (μ.1 50 23))
  refine z_rcs0 hc hH 2 (pc' := 13) (lv' := [(0, .ref 50)]) (st' := [.int 32, .ref 50]) (by rfl) ?_
  refine zq_call hc (z_cx_ok hH (by rfl)) (fb_X7_bit d' (by omega) (mGP (z_ui μ 50 16 (μ.1 50 16 + 1)) (μ.2.1 50 24) (μ.2.1 50 25) (μ.1 50 23)) 32) (by decide +kernel) (fun r9 μ9 hq => ?_)
  obtain ⟨hμ9, rfl⟩ := hq
  rw [hμ9]
  clear hμ9 μ9
  show Z 0 16 [(0, .ref 50)] [.long (lb true 32), .ref 50] _
  refine z_rcs hc hH 1 (pc' := 19) (lv' := [(0, .ref 50)]) (st' := []) (μ' := z_uj (mGP (z_ui μ 50 16 (μ.1 50 16 + 1)) (μ.2.1 50 24) (μ.2.1 50 25) (μ.1 50 23)) 50 24 (lb true 32)) (by rfl) ?_
  rw [mGP_g]
  show Z 0 19 [(0, .ref 50)] [] (mGP (z_ui μ 50 16 (μ.1 50 16 + 1)) (lb true 32) (μ.2.1 50 25) (μ.1 50 23))
  refine z_rcs hc hH 3 (pc' := 24) (lv' := [(0, .ref 50)]) (st' := []) (μ' := z_uj (mGP (z_ui μ 50 16 (μ.1 50 16 + 1)) (lb true 32) (μ.2.1 50 25) (μ.1 50 23)) 50 25 0) (by rfl) ?_
  rw [mGP_p]
  show Z 0 24 [(0, .ref 50)] [] (mGP (z_ui μ 50 16 (μ.1 50 16 + 1)) (lb true 32) 0 (μ.1 50 23))
  refine z_rcs hc hH 3 (pc' := 30) (lv' := [(0, .ref 50)]) (st' := []) (μ' := z_ui (mGP (z_ui μ 50 16 (μ.1 50 16 + 1)) (lb true 32) 0 (μ.1 50 23)) 50 23 30) (by rfl) ?_
  rw [mGP_f]
  show Z 0 30 [(0, .ref 50)] [] (mGP (z_ui μ 50 16 (μ.1 50 16 + 1)) (lb true 32) 0 30)
  refine z_rcs0 hc hH 2 (pc' := 32) (lv' := [(0, .ref 50)]) (st' := [.int 0, .ref 50]) (by rfl) ?_
  refine zq_call hc (z_cx_ok hH (by rfl)) (fb_X7_compare d' (by omega) (mGP (z_ui μ 50 16 (μ.1 50 16 + 1)) (lb true 32) 0 30) false) (by decide +kernel) (fun r9 μ9 hq9 => ?_)
  obtain ⟨rfl, hC⟩ := hq9
  show Z 0 35 [(0, .ref 50)] [] μ9
  exact hr 0 35 _ _ _ none (by decide +kernel) (by rfl) (⟨rfl, PQ_of hH0 hC (by rw [ah_cOf (AH_16 μ _)]; rfl)⟩)
noncomputable def AV (μ μ1 : zM) (S : Q4 → Prop) : Prop := (∀ j, μ1.1 51 j = μ.1 51 j) ∧ a_Fz mdR μ μ1 ∧ a_H μ1 ∧ BS S (0, 0, 0, 0) (bq μ1)
theorem AV.iff {μ μ1 : zM} {A B : Q4 → Prop} (h : AV μ μ1 A) (e : ∀ x, A x ↔ B x) : AV μ μ1 B := ⟨h.1, h.2.1, h.2.2.1, h.2.2.2.iff e⟩
theorem AV.more {μ μ1 μ2 : zM} {S : Q4 → Prop} {x : Q4} (h : AV μ μ1 S) (h2 : PQ (z_ui μ1 50 18 1) μ2 x) : AV μ μ2 (fun y => S y ∨ (y = x ∧ ¬ y.2.2.2 = 0)) := by
  have F1 : a_Fz mdR μ (z_ui μ1 50 18 1) := a_Fz_ui h.2.1 (by decide +kernel)
  refine ⟨fun j => ?_, a_Fz_tr (by decide +kernel) F1 h2.1, h2.2.1, ?_⟩
  · rw [a_Fz_at h2.1 51 j (a_md_row (by decide +kernel)), z_ui_rd, if_neg (by omega)]; exact h.1 j
  · have z := h2.2.2
    rw [bq_18] at z
    exact h.2.2.2.tr z
noncomputable def Si (μ : zM) (w : Nat → Nat) (q : Nat) (sL lL : Nat → Nat) (i : Nat) (x : Q4) : Prop := ∃ p, p < i ∧ 2 ≤ w p ∧ SS (OV μ q p sL lL) [] (sb2 w p) (4 - q) 0 x
noncomputable def S7 (μ : zM) (w : Nat → Nat) (q : Nat) (x : Q4) : Prop := (q = 0 ∧ cn (fun k => decide (w k = 2)) 34 = 7) ∧ x = vP μ q ∧ ¬ x.2.2.2 = 0
noncomputable def S13 (μ : zM) (w : Nat → Nat) (q : Nat) (x : Q4) : Prop := (q = 0 ∧ cn (fun k => eN k && decide (0 < w k)) 34 = 13 ∧ ∃ k, k < 34 ∧ eN k = true ∧ w k = 2) ∧ x = vT μ ∧ ¬ x.2.2.2 = 0
noncomputable def SR (μ : zM) (w : Nat → Nat) (q : Nat) (sL lL : Nat → Nat) (x : Q4) : Prop := sn w 34 + 3 * q = 14 ∧ ((Si μ w q sL lL 34 x ∨ S7 μ w q x) ∨ S13 μ w q x)

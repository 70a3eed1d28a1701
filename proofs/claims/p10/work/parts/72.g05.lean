/-! the reference: all ways of a hand -/
set_option maxRecDepth 8000
noncomputable def AH (μ μ' : zM) : Prop := (μ.1 52 = μ'.1 52) ∧ (μ.1 53 = μ'.1 53) ∧ (μ.1 58 = μ'.1 58) ∧ (μ.1 50 4 = μ'.1 50 4) ∧ (μ.1 50 10 = μ'.1 50 10) ∧ (μ.1 50 11 = μ'.1 50 11) ∧ (μ.2.1 50 12 = μ'.2.1 50 12)
theorem AH.r52 {μ μ' : zM} (h : AH μ μ') : μ.1 52 = μ'.1 52 := h.1
theorem AH.r53 {μ μ' : zM} (h : AH μ μ') : μ.1 53 = μ'.1 53 := h.2.1
theorem AH.r58 {μ μ' : zM} (h : AH μ μ') : μ.1 58 = μ'.1 58 := h.2.2.1
theorem AH.c4 {μ μ' : zM} (h : AH μ μ') : μ.1 50 4 = μ'.1 50 4 := h.2.2.2.1
theorem AH.c10 {μ μ' : zM} (h : AH μ μ') : μ.1 50 10 = μ'.1 50 10 := h.2.2.2.2.1
theorem AH.c11 {μ μ' : zM} (h : AH μ μ') : μ.1 50 11 = μ'.1 50 11 := h.2.2.2.2.2.1
theorem AH.t12 {μ μ' : zM} (h : AH μ μ') : μ.2.1 50 12 = μ'.2.1 50 12 := h.2.2.2.2.2.2
theorem AH_Fz {μ μ' : zM} (h : a_Fz mdR μ μ') : AH μ' μ := ⟨funext fun j => a_Fz_at h 52 j (a_md_row (by decide +kernel)), funext fun j => a_Fz_at h 53 j (a_md_row (by decide +kernel)), funext fun j => a_Fz_at h 58 j (a_md_row (by decide +kernel)), a_Fz_at h 50 4 (by decide +kernel), a_Fz_at h 50 10 (by decide +kernel), a_Fz_at h 50 11 (by decide +kernel), (h.1 50 12 (by decide +kernel)).2⟩
theorem ah_tF {μ : zM} {μ' : zM} (h : AH μ μ') (q : Nat) : ∀ n i t, tF μ q n i t = tF μ' q n i t := by
  intro n
  induction n with
  | zero => intro i t; rfl
  | succ n ih => intro i t; show tF μ q n (i + 1) (tSt μ q i t) = tF μ' q n (i + 1) (tSt μ' q i t); rw [show tSt μ q i t = tSt μ' q i t by unfold tSt; rw [h.r52, h.r53, h.r58], ih]
theorem ah_tlG {μ : zM} {μ' : zM} (h : AH μ μ') (g : Int64) (t : T7) : tlG μ g t = tlG μ' g t := by unfold tlG; rw [h.c4, h.r58]
theorem ah_cOf {μ : zM} {μ' : zM} (h : AH μ μ') (g pl : Int64) (f : Int32) (b : Bool) : cOf (mGP μ g pl f) b = cOf (mGP μ' g pl f) b := by
  have a1 : ∀ ν : zM, (mGP ν g pl f).2.1 50 24 = g := fun _ => rfl
  have a2 : ∀ ν : zM, (mGP ν g pl f).2.1 50 25 = pl := fun _ => rfl
  have a3 : ∀ ν : zM, (mGP ν g pl f).2.1 50 12 = ν.2.1 50 12 := fun _ => rfl
  have a4 : ∀ ν : zM, (mGP ν g pl f).1 50 23 = f := fun _ => rfl
  have a5 : ∀ ν : zM, (mGP ν g pl f).1 50 11 = ν.1 50 11 := fun _ => rfl
  have a6 : ∀ ν : zM, (mGP ν g pl f).1 50 10 = ν.1 50 10 := fun _ => rfl
  simp only [cOf, cpG, cpP, bsH, a1, a2, a3, a4, a5, a6, h.t12, h.c11, h.c10]
/-- seven PAIRS, and thirteen, as the reference has them -/
noncomputable def vP (μ : zM) (q : Nat) : Q4 := cOf (mGP μ (tlG μ 0 (tF μ q 34 0 t70)) (tlP μ (lb true 16) (tF μ q 34 0 t70)) 25) false
noncomputable def vT (μ : zM) : Q4 := cOf (mGP μ (lb true 32) 0 30) false
theorem ah_vP {μ μ' : zM} (h : AH μ μ') (q : Nat) : vP μ q = vP μ' q := by
  unfold vP
  rw [ah_tF h, ah_tlG h, ah_cOf h, show tlP μ (lb true 16) (tF μ' q 34 0 t70) = tlP μ' (lb true 16) (tF μ' q 34 0 t70) from rfl]
theorem ah_vT {μ μ' : zM} (h : AH μ μ') : vT μ = vT μ' := by unfold vT; rw [ah_cOf h]
/-- one more way -/
noncomputable def PQ (μ μ' : zM) (x : Q4) : Prop := a_Fz mdY μ μ' ∧ a_H μ' ∧ BS (fun y => y = x ∧ ¬ y.2.2.2 = 0) (bq μ) (bq μ')
theorem mGP_z (μ : zM) (x : Int32) : z_ui μ 50 16 x = mGP (z_ui μ 50 16 x) (μ.2.1 50 24) (μ.2.1 50 25) (μ.1 50 23) := by
  have := mGP_rf (z_ui μ 50 16 x)
  rw [show (z_ui μ 50 16 x).1 50 23 = μ.1 50 23 by rw [z_ui_rd, if_neg (by omega)]] at this
  exact this.symm
theorem bq_16 {μ : zM} {x : Int32} : bq (z_ui μ 50 16 x) = bq μ := by
  unfold bq
  rw [z_ui_rd, if_neg (by omega), z_ui_rd, if_neg (by omega), z_ui_rd, if_neg (by omega)]
  rfl
theorem PQ_of {μ μ' : zM} {g pl : Int64} {f x : Int32} {y : Q4} (h0 : a_H μ) (h : CC (mGP (z_ui μ 50 16 x) g pl f) μ' false) (e : cOf (mGP (z_ui μ 50 16 x) g pl f) false = y) : PQ μ μ' y := by
  have H1 : a_H (z_ui μ 50 16 x) := a_H_ui h0 (bI_top _)
  refine ⟨a_Fz_tr (by decide +kernel) (a_Fz_tr (by decide +kernel) (a_Fz_ui (a_Fz_rf mdY μ) (by decide +kernel)) (Fz_mGP (md := mdY) (by decide +kernel) (by decide +kernel) (by decide +kernel))) h.1, a_H_C H1 h.1, ?_⟩
  have h2 : BS _ (bq (z_ui μ 50 16 x)) (bq μ') := h.2
  rw [bq_16] at h2
  rw [← e]
  exact h2
theorem AH_16 (μ : zM) (x : Int32) : AH (z_ui μ 50 16 x) μ := ⟨funext fun j => by rw [z_ui_rd, if_neg (by omega)], funext fun j => by rw [z_ui_rd, if_neg (by omega)], funext fun j => by rw [z_ui_rd, if_neg (by omega)], by rw [z_ui_rd, if_neg (by omega)], by rw [z_ui_rd, if_neg (by omega)], by rw [z_ui_rd, if_neg (by omega)], rfl⟩
theorem zh_X7_pairsWay : zH mi_X7_pairsWay zt_X7_pairsWay 79 7 1 := hh_X7_pairsWay
theorem fb_X7_pairsWay (d : Nat) (hd : 4 ≤ d) (μ : zM) (hH0 : a_H μ) (q : Nat) (hq : q ≤ 4) (e4 : μ.1 50 4 = nI q) : z_C d mi_X7_pairsWay [.ref 50] μ (fun r μ' => r = none ∧ PQ μ μ' (vP μ q)) := by
  refine z_C_in (by decide) (by omega) (fun d' Z ed hc hr => ?_)
  have hH := zh_X7_pairsWay
  refine z_rcs hc hH 6 (pc' := 10) (lv' := [(0, .ref 50)]) (st' := []) (μ' := z_ui μ 50 16 ((μ.1 50 16) + 1)) (by rfl) ?_
  rw [mGP_z]
  show Z 0 10 [(0, .ref 50)] [] (mGP (z_ui μ 50 16 (μ.1 50 16 + 1)) (μ.2.1 50 24) (μ.2.1 50 25) (μ.1 50 23))
  refine z_rcs hc hH 3 (pc' := 15) (lv' := [(0, .ref 50)]) (st' := []) (μ' := z_uj (mGP (z_ui μ 50 16 (μ.1 50 16 + 1)) (μ.2.1 50 24) (μ.2.1 50 25) (μ.1 50 23)) 50 24 0) (by rfl) ?_
  rw [mGP_g]
  show Z 0 15 [(0, .ref 50)] [] (mGP (z_ui μ 50 16 (μ.1 50 16 + 1)) 0 (μ.2.1 50 25) (μ.1 50 23))
  refine z_rcs0 hc hH 2 (pc' := 18) (lv' := [(0, .ref 50)]) (st' := [.int 16, .ref 50]) (by rfl) ?_
  refine zq_call hc (z_cx_ok hH (by rfl)) (fb_X7_bit d' (by omega) (mGP (z_ui μ 50 16 (μ.1 50 16 + 1)) 0 (μ.2.1 50 25) (μ.1 50 23)) 16) (by decide +kernel) (fun r9 μ9 hq => ?_)
  obtain ⟨hμ9, rfl⟩ := hq
  rw [hμ9]
  clear hμ9 μ9
  show Z 0 21 [(0, .ref 50)] [.long (lb true 16), .ref 50] _
  refine z_rcs hc hH 1 (pc' := 24) (lv' := [(0, .ref 50)]) (st' := []) (μ' := z_uj (mGP (z_ui μ 50 16 (μ.1 50 16 + 1)) 0 (μ.2.1 50 25) (μ.1 50 23)) 50 25 (lb true 16)) (by rfl) ?_
  rw [mGP_p]
  show Z 0 24 [(0, .ref 50)] [] (mGP (z_ui μ 50 16 (μ.1 50 16 + 1)) 0 (lb true 16) (μ.1 50 23))
  refine z_rcs0 hc hH 1 (pc' := 25) (lv' := [(0, .ref 50)]) (st' := [.ref 50]) (by rfl) ?_
  refine zq_call hc (z_cx_ok hH (by rfl)) (fb_X7_tiles d' (by omega) (mGP (z_ui μ 50 16 (μ.1 50 16 + 1)) 0 (lb true 16) (μ.1 50 23)) q hq (by show (z_ui μ 50 16 (μ.1 50 16 + 1)).1 50 4 = nI q; rw [z_ui_rd, if_neg (by omega)]; exact e4)) (by decide +kernel) (fun r9 μ9 hq => ?_)
  obtain ⟨rfl, rfl⟩ := hq
  rw [mGP2, tF_mGP, ah_tF (AH_16 μ _)]
  show Z 0 28 [(0, .ref 50)] [] (mGP (z_ui μ 50 16 (μ.1 50 16 + 1)) (tlG (mGP (z_ui μ 50 16 (μ.1 50 16 + 1)) 0 (lb true 16) (μ.1 50 23)) 0 (tF μ q 34 0 t70)) (tlP (mGP (z_ui μ 50 16 (μ.1 50 16 + 1)) 0 (lb true 16) (μ.1 50 23)) (lb true 16) (tF μ q 34 0 t70)) (μ.1 50 23))
  refine z_rcs hc hH 3 (pc' := 34) (lv' := [(0, .ref 50)]) (st' := []) (μ' := z_ui (mGP (z_ui μ 50 16 (μ.1 50 16 + 1)) (tlG (mGP (z_ui μ 50 16 (μ.1 50 16 + 1)) 0 (lb true 16) (μ.1 50 23)) 0 (tF μ q 34 0 t70)) (tlP (mGP (z_ui μ 50 16 (μ.1 50 16 + 1)) 0 (lb true 16) (μ.1 50 23)) (lb true 16) (tF μ q 34 0 t70)) (μ.1 50 23)) 50 23 25) (by rfl) ?_
  rw [mGP_f]
  show Z 0 34 [(0, .ref 50)] [] (mGP (z_ui μ 50 16 (μ.1 50 16 + 1)) (tlG (mGP (z_ui μ 50 16 (μ.1 50 16 + 1)) 0 (lb true 16) (μ.1 50 23)) 0 (tF μ q 34 0 t70)) (tlP (mGP (z_ui μ 50 16 (μ.1 50 16 + 1)) 0 (lb true 16) (μ.1 50 23)) (lb true 16) (tF μ q 34 0 t70)) 25)
  refine z_rcs0 hc hH 2 (pc' := 36) (lv' := [(0, .ref 50)]) (st' := [.int 0, .ref 50]) (by rfl) ?_
  refine zq_call hc (z_cx_ok hH (by rfl)) (fb_X7_compare d' (by omega) (mGP (z_ui μ 50 16 (μ.1 50 16 + 1)) (tlG (mGP (z_ui μ 50 16 (μ.1 50 16 + 1)) 0 (lb true 16) (μ.1 50 23)) 0 (tF μ q 34 0 t70)) (tlP (mGP (z_ui μ 50 16 (μ.1 50 16 + 1)) 0 (lb true 16) (μ.1 50 23)) (lb true 16) (tF μ q 34 0 t70)) 25) false) (by decide +kernel) (fun r9 μ9 hq9 => ?_)
  obtain ⟨rfl, hC⟩ := hq9
  show Z 0 39 [(0, .ref 50)] [] μ9
  exact hr 0 39 _ _ _ none (by decide +kernel) (by rfl) (⟨rfl, PQ_of hH0 hC (by rw [ah_cOf (AH_16 μ _)]; unfold vP; rw [show tlG (mGP (z_ui μ 50 16 (μ.1 50 16 + 1)) 0 (lb true 16) (μ.1 50 23)) 0 (tF μ q 34 0 t70) = tlG (z_ui μ 50 16 (μ.1 50 16 + 1)) 0 (tF μ q 34 0 t70) from rfl, ah_tlG (AH_16 μ _)]; rfl)⟩)
theorem zh_X7_thirteen : zH mi_X7_thirteen zt_X7_thirteen 79 7 1 := hh_X7_thirteen
theorem fb_X7_thirteen (d : Nat) (hd : 4 ≤ d) (μ : zM) (hH0 : a_H μ) : z_C d mi_X7_thirteen [.ref 50] μ (fun r μ' => r = none ∧ PQ μ μ' (vT μ)) := by
  refine z_C_in (by decide) (by omega) (fun d' Z ed hc hr => ?_)
  have hH := zh_X7_thirteen
  refine z_rcs hc hH 6 (pc' := 10) (lv' := [(0, .ref 50)]) (st' := []) (μ' := z_ui μ 50 16 ((μ.1 50 16) + 1)) (by rfl) ?_
  rw [mGP_z]
  show Z 0 10 [(0, .ref 50)] [] (mGP (z_ui μ 50 16 (μ.1 50 16 + 1)) (μ.2.1 50 24) (μ.2.1 50 25) (μ.1 50 23))
  refine z_rcs0 hc hH 2 (pc' := 13) (lv' := [(0, .ref 50)]) (st' := [.int 32, .ref 50]) (by rfl) ?_
  refine zq_call hc (z_cx_ok hH (by rfl)) (fb_X7_bit d' (by omega) (mGP (z_ui μ 50 16 (μ.1 50 16 + 1)) (μ.2.1 50 24) (μ.2.1 50 25) (μ.1 50 23)) 32) (by decide +kernel) (fun r9 μ9 hq => ?_)
  obtain ⟨hμ9, rfl⟩ := hq
  rw [hμ9]
  clear hμ9 μ9
  show Z 0 16 [(0, .ref 50)] [.long (lb true 32), .ref 50] _
  refine z_rcs hc hH 1 (pc' := 19) (lv' := [(0, .ref 50)]) (st' := []) (μ' := z_uj (mGP (z_ui μ 50 16 (μ.1 50 16 + 1)) (μ.2.1 50 24) (μ.2.1 50 25) (μ.1 50 23)) 50 24 (lb true 32)) (by rfl) ?_
  rw [mGP_g]
  show Z 0 19 [(0, .ref 50)] [] (mGP (z_ui μ 50 16 (μ.1 50 16 + 1)) (lb true 32) (μ.2.1 50 25) (μ.1 50 23))
  refine z_rcs hc hH 3 (pc' := 24) (lv' := [(0, .ref 50)]) (st' := []) (μ' := z_uj (mGP (z_ui μ 50 16 (μ.1 50 16 + 1)) (lb true 32) (μ.2.1 50 25) (μ.1 50 23)) 50 25 0) (by rfl) ?_
  rw [mGP_p]
  show Z 0 24 [(0, .ref 50)] [] (mGP (z_ui μ 50 16 (μ.1 50 16 + 1)) (lb true 32) 0 (μ.1 50 23))
  refine z_rcs hc hH 3 (pc' := 30) (lv' := [(0, .ref 50)]) (st' := []) (μ' := z_ui (mGP (z_ui μ 50 16 (μ.1 50 16 + 1)) (lb true 32) 0 (μ.1 50 23)) 50 23 30) (by rfl) ?_
  rw [mGP_f]
  show Z 0 30 [(0, .ref 50)] [] (mGP (z_ui μ 50 16 (μ.1 50 16 + 1)) (lb true 32) 0 30)
  refine z_rcs0 hc hH 2 (pc' := 32) (lv' := [(0, .ref 50)]) (st' := [.int 0, .ref 50]) (by rfl) ?_
  refine zq_call hc (z_cx_ok hH (by rfl)) (fb_X7_compare d' (by omega) (mGP (z_ui μ 50 16 (μ.1 50 16 + 1)) (lb true 32) 0 30) false) (by decide +kernel) (fun r9 μ9 hq9 => ?_)
  obtain ⟨rfl, hC⟩ := hq9
  show Z 0 35 [(0, .ref 50)] [] μ9
  exact hr 0 35 _ _ _ none (by decide +kernel) (by rfl) (⟨rfl, PQ_of hH0 hC (by rw [ah_cOf (AH_16 μ _)]; rfl)⟩)
noncomputable def AV (μ μ1 : zM) (S : Q4 → Prop) : Prop := (∀ j, μ1.1 51 j = μ.1 51 j) ∧ a_Fz mdR μ μ1 ∧ a_H μ1 ∧ BS S (0, 0, 0, 0) (bq μ1)
theorem AV.iff {μ μ1 : zM} {A B : Q4 → Prop} (h : AV μ μ1 A) (e : ∀ x, A x ↔ B x) : AV μ μ1 B := ⟨h.1, h.2.1, h.2.2.1, h.2.2.2.iff e⟩
theorem AV.more {μ μ1 μ2 : zM} {S : Q4 → Prop} {x : Q4} (h : AV μ μ1 S) (h2 : PQ (z_ui μ1 50 18 1) μ2 x) : AV μ μ2 (fun y => S y ∨ (y = x ∧ ¬ y.2.2.2 = 0)) := by
  have F1 : a_Fz mdR μ (z_ui μ1 50 18 1) := a_Fz_ui h.2.1 (by decide +kernel)
  refine ⟨fun j => ?_, a_Fz_tr (by decide +kernel) F1 h2.1, h2.2.1, ?_⟩
  · rw [a_Fz_at h2.1 51 j (a_md_row (by decide +kernel)), z_ui_rd, if_neg (by omega)]; exact h.1 j
  · have z := h2.2.2
    rw [bq_18] at z
    exact h.2.2.2.tr z
noncomputable def Si (μ : zM) (w : Nat → Nat) (q : Nat) (sL lL : Nat → Nat) (i : Nat) (x : Q4) : Prop := ∃ p, p < i ∧ 2 ≤ w p ∧ SS (OV μ q p sL lL) [] (sb2 w p) (4 - q) 0 x
noncomputable def S7 (μ : zM) (w : Nat → Nat) (q : Nat) (x : Q4) : Prop := (q = 0 ∧ cn (fun k => decide (w k = 2)) 34 = 7) ∧ x = vP μ q ∧ ¬ x.2.2.2 = 0
noncomputable def S13 (μ : zM) (w : Nat → Nat) (q : Nat) (x : Q4) : Prop := (q = 0 ∧ cn (fun k => eN k && decide (0 < w k)) 34 = 13 ∧ ∃ k, k < 34 ∧ eN k = true ∧ w k = 2) ∧ x = vT μ ∧ ¬ x.2.2.2 = 0
noncomputable def SR (μ : zM) (w : Nat → Nat) (q : Nat) (sL lL : Nat → Nat) (x : Q4) : Prop := sn w 34 + 3 * q = 14 ∧ ((Si μ w q sL lL 34 x ∨ S7 μ w q x) ∨ S13 μ w q x)

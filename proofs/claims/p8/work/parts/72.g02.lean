/-! the reference: how tiles fall apart, exactly -/
set_option maxRecDepth 8000
noncomputable abbrev mdR : List (Nat × Nat) := [(50, 13), (50, 14), (50, 15), (50, 16), (50, 17), (50, 18), (50, 21), (50, 22), (50, 23), (50, 24), (50, 25), (51, 9999), (54, 9999), (55, 9999), (56, 9999), (57, 9999)]
noncomputable abbrev mdY : List (Nat × Nat) := [(50, 13), (50, 14), (50, 15), (50, 16), (50, 17), (50, 21), (50, 22), (50, 23), (50, 24), (50, 25), (56, 9999), (57, 9999)]
/-- the reference's best -/
noncomputable def bq (μ : zM) : Q4 := (μ.1 50 13, μ.1 50 14, μ.1 50 15, μ.2.1 50 17)
theorem bq_ui {μ : zM} {r k : Nat} {x : Int32} (h : r ≠ 50) : bq (z_ui μ r k x) = bq μ := by
  unfold bq
  rw [z_ui_rd, if_neg (fun z => h z.1.symm), z_ui_rd, if_neg (fun z => h z.1.symm), z_ui_rd, if_neg (fun z => h z.1.symm), z_ui_2]
theorem bq_18 {μ : zM} {x : Int32} : bq (z_ui μ 50 18 x) = bq μ := by
  unfold bq
  rw [z_ui_rd, if_neg (by omega), z_ui_rd, if_neg (by omega), z_ui_rd, if_neg (by omega), z_ui_2]
noncomputable def SV (md : Nat) (μ μ' : zM) (S : Q4 → Prop) : Prop := (∀ j, μ'.1 51 j = μ.1 51 j) ∧ (∀ i, i < md → μ'.1 54 i = μ.1 54 i ∧ μ'.1 55 i = μ.1 55 i) ∧ a_Fz mdR μ μ' ∧ a_H μ' ∧ BS S (bq μ) (bq μ')
theorem SV_rf {md : Nat} {μ : zM} {S : Q4 → Prop} (h : a_H μ) (hb : ∀ x, ¬ S x) : SV md μ μ S := ⟨fun _ => rfl, fun _ _ => ⟨rfl, rfl⟩, a_Fz_rf _ _, h, BS_rf hb⟩
theorem SV.tr {md : Nat} {μ μ1 μ2 : zM} {A B : Q4 → Prop} (h1 : SV md μ μ1 A) (h2 : SV md μ1 μ2 B) : SV md μ μ2 (fun x => A x ∨ B x) := ⟨fun j => (h2.1 j).trans (h1.1 j), fun i hi => ⟨(h2.2.1 i hi).1.trans (h1.2.1 i hi).1, (h2.2.1 i hi).2.trans (h1.2.1 i hi).2⟩, a_Fz_tr (by decide) h1.2.2.1 h2.2.2.1, h2.2.2.2.1, h1.2.2.2.2.tr h2.2.2.2.2⟩
theorem SV.iff {md : Nat} {μ μ1 : zM} {A B : Q4 → Prop} (h : SV md μ μ1 A) (e : ∀ x, A x ↔ B x) : SV md μ μ1 B := ⟨h.1, h.2.1, h.2.2.1, h.2.2.2.1, h.2.2.2.2.iff e⟩
theorem SV.rw {md : Nat} {μ μ' : zM} {S : Q4 → Prop} {w : Nat → Nat} (h : SV md μ μ' S) (hw : RW μ 51 w) : RW μ' 51 w := fun k hk => by rw [h.1]; exact hw k hk
noncomputable def PX (μ : zM) (pf : SL) : Prop := ∀ i, i < pf.length → μ.1 54 i = nI (pf.getD i (0, 0)).1 ∧ μ.1 55 i = nI (pf.getD i (0, 0)).2
noncomputable def PV (pf : SL) : Prop := ∀ x ∈ pf, x.1 ≤ 1 ∧ x.2 < 34 ∧ (x.1 = 0 → rs x.2)
theorem SV.px {md : Nat} {μ μ' : zM} {S : Q4 → Prop} {pf : SL} (h : SV md μ μ' S) (hl : pf.length = md) (hp : PX μ pf) : PX μ' pf := fun i hi => by rw [(h.2.1 i (by omega)).1, (h.2.1 i (by omega)).2]; exact hp i hi
theorem PX_add {μ μ' : zM} {pf : SL} {a k : Nat} (hp : PX μ pf) (h : ∀ i, i < pf.length → μ'.1 54 i = μ.1 54 i ∧ μ'.1 55 i = μ.1 55 i) (h4 : μ'.1 54 pf.length = nI a) (h5 : μ'.1 55 pf.length = nI k) : PX μ' (pf ++ [(a, k)]) := by
  intro i hi
  rw [List.length_append] at hi
  have hi : i < pf.length + 1 := hi
  by_cases e : i = pf.length
  · subst e
    have e9 : (pf ++ [(a, k)]).getD pf.length (0, 0) = (a, k) := by rw [List.getD_eq_getElem?_getD, List.getElem?_append_right (Nat.le_refl _), Nat.sub_self]; rfl
    rw [h4, h5, e9]
    exact ⟨rfl, rfl⟩
  · have e9 : (pf ++ [(a, k)]).getD i (0, 0) = pf.getD i (0, 0) := by rw [List.getD_eq_getElem?_getD, List.getElem?_append_left (by omega), ← List.getD_eq_getElem?_getD]
    rw [(h i (by omega)).1, (h i (by omega)).2, e9]
    exact hp i (by omega)
theorem PV_add {pf : SL} {a k : Nat} (h : PV pf) (h1 : a ≤ 1) (h2 : k < 34) (h3 : a = 0 → rs k) : PV (pf ++ [(a, k)]) := fun x hx => by
  rcases List.mem_append.mp hx with q | q
  · exact h x q
  · rw [List.mem_singleton.mp q]; exact ⟨h1, h2, h3⟩
/-- one way is reckoned -/
noncomputable def HW (dw : Nat) (μ0 : zM) (q p : Nat) (O : SL → Q4 → Prop) : Prop := ∀ (d : Nat) (μ : zM) (sl : SL), dw ≤ d → a_H μ → a_Fz mdR μ0 μ → sl.length + q = 4 → PX μ sl → PV sl → z_C d mi_X7_way [.ref 50, .int (nI p)] μ (fun r μ' => r = none ∧ a_H μ' ∧ a_Fz mdY μ μ' ∧ BS (O sl) (bq μ) (bq μ'))
theorem rt3 (d' : Nat) (Z : zK) (μ : zM) (B : Q4 → Prop) (md : Nat) (hc : z_clo z_x0 mi_X7_sets (z_C d') Z) (hr : z_ret mi_X7_sets (fun r μ' => r = none ∧ SV md μ μ' B) Z) (κ : zM) (q p : Nat) (O : SL → Q4 → Prop) (eκ : κ.1 50 4 = nI q) (m k : Nat) (x1 x6 : Int32) (hm : md + (m + 1) + q = 4) (hk : k < 34) (ih : ∀ (μ : zM) (w : Nat → Nat) (fr md last : Nat) (pf : SL), a_H μ → a_Fz mdR κ μ → RW μ 51 w → md + m + q = 4 → fr ≤ 34 → (∀ j, j < fr → w j = 0) → (last = 0 ∨ last = fr + 1) → pf.length = md → PX μ pf → PV pf → (∀ k, k < 34 → ((0 < md ∧ μ.1 54 (md - 1) = 0 ∧ μ.1 55 (md - 1) = nI k) ↔ last = k + 1)) → z_C d' mi_X7_sets [.ref 50, .int (nI fr), .int (nI md), .int (nI p), .int 1] μ (fun r μ' => r = none ∧ SV md μ μ' (SS O pf w m last))) (μ0 : zM) (w : Nat → Nat) (pf : SL) (hH0 : a_H μ0) (hF0 : a_Fz mdR κ μ0) (hw : RW μ0 51 w) (hpl : pf.length = md) (hpx : PX μ0 pf) (hpv : PV pf) (hzk : ∀ j, j < k → w j = 0) (h3 : 3 ≤ w k) (K : ∀ μ3, SV md μ0 μ3 (SS O (pf ++ [(1, k)]) (sub3 w k) m 0) → Z 0 207 [(6, .int x6), (5, .int (nI k)), (0, .ref 50), (1, .int x1), (2, .int (nI md)), (3, .int (nI p)), (4, .int 1)] [] μ3) : Z 0 158 [(6, .int x6), (5, .int (nI k)), (0, .ref 50), (1, .int x1), (2, .int (nI md)), (3, .int (nI p)), (4, .int 1)] [] μ0 := by
  have hH := zh_X7_sets
  have ink : vp_in (nI k) 34 := vp_in_nI hk (by decide)
  have inm : vp_in (nI md) 5 := vp_in_nI (by omega) (by decide)
  have ek : (nI k).toNatClampNeg = k := nI_clamp (by omega)
  have em : (nI md).toNatClampNeg = md := nI_clamp (by omega)
  have wk := hw k hk
  refine z_rcs hc hH 4 (pc' := 165) (lv' := [(6, .int x6), (5, .int (nI k)), (0, .ref 50), (1, .int x1), (2, .int (nI md)), (3, .int (nI p)), (4, .int 1)]) (st' := [.int (nI k), .ref 51, .int (nI k), .ref 51]) (μ' := μ0) (by rfl) ?_
  refine zq_iald hc hH (by rfl) 34 (by decide +kernel) (ink) ?_
  rw [ek, wk.1]
  refine z_rcs hc hH 2 (pc' := 168) (lv' := [(6, .int x6), (5, .int (nI k)), (0, .ref 50), (1, .int x1), (2, .int (nI md)), (3, .int (nI p)), (4, .int 1)]) (st' := [.int ((nI (w k)) - 3), .int (nI k), .ref 51]) (μ' := μ0) (by rfl) ?_
  rw [s_3 (w k) (by omega) h3]
  refine zq_iast hc hH (by rfl) 34 (by decide +kernel) (ink) ?_
  refine z_rcs hc hH 4 (pc' := 175) (lv' := [(6, .int x6), (5, .int (nI k)), (0, .ref 50), (1, .int x1), (2, .int (nI md)), (3, .int (nI p)), (4, .int 1)]) (st' := [.int 1, .int (nI md), .ref 54]) (μ' := z_ui μ0 51 ((nI k).toNatClampNeg) (nI (w k - 3))) (by rfl) ?_
  refine zq_iast hc hH (by rfl) 5 (by decide +kernel) (inm) ?_
  refine z_rcs hc hH 4 (pc' := 183) (lv' := [(6, .int x6), (5, .int (nI k)), (0, .ref 50), (1, .int x1), (2, .int (nI md)), (3, .int (nI p)), (4, .int 1)]) (st' := [.int (nI k), .int (nI md), .ref 55]) (μ' := z_ui (z_ui μ0 51 ((nI k).toNatClampNeg) (nI (w k - 3))) 54 ((nI md).toNatClampNeg) 1) (by rfl) ?_
  refine zq_iast hc hH (by rfl) 5 (by decide +kernel) (inm) ?_
  rw [ek, em]
  have f1 : a_Fz mdR μ0 (z_ui (z_ui (z_ui μ0 51 k (nI (w k - 3))) 54 md 1) 55 md (nI k)) := a_Fz_ui (a_Fz_ui (a_Fz_ui (a_Fz_rf _ _) (a_mda_md (by decide) _)) (a_mda_md (by decide) _)) (a_mda_md (by decide) _)
  have H1 : a_H (z_ui (z_ui (z_ui μ0 51 k (nI (w k - 3))) 54 md 1) 55 md (nI k)) := a_H_ui (a_H_ui (a_H_ui hH0 (bI_top _)) (bI_top _)) (bI_top _)
  have r51 : ∀ j, (z_ui (z_ui (z_ui μ0 51 k (nI (w k - 3))) 54 md 1) 55 md (nI k)).1 51 j = if j = k then nI (w k - 3) else μ0.1 51 j := fun j => by
    rw [z_ui_rd, if_neg (by omega), z_ui_rd, if_neg (by omega), z_ui_rd]
    by_cases e : j = k
    · rw [if_pos ⟨rfl, e⟩, if_pos e]
    · rw [if_neg (fun z => e z.2), if_neg e]
  have c54 : (z_ui (z_ui (z_ui μ0 51 k (nI (w k - 3))) 54 md 1) 55 md (nI k)).1 54 md = 1 := by rw [z_ui_rd, if_neg (by omega), z_ui_rd, if_pos ⟨rfl, rfl⟩]
  have c55 : (z_ui (z_ui (z_ui μ0 51 k (nI (w k - 3))) 54 md 1) 55 md (nI k)).1 55 md = nI k := by rw [z_ui_rd, if_pos ⟨rfl, rfl⟩]
  have px : ∀ i, i < md → (z_ui (z_ui (z_ui μ0 51 k (nI (w k - 3))) 54 md 1) 55 md (nI k)).1 54 i = μ0.1 54 i ∧ (z_ui (z_ui (z_ui μ0 51 k (nI (w k - 3))) 54 md 1) 55 md (nI k)).1 55 i = μ0.1 55 i := fun i hi => ⟨by rw [z_ui_rd, if_neg (by omega), z_ui_rd, if_neg (by omega), z_ui_rd, if_neg (by omega)], by rw [z_ui_rd, if_neg (by omega), z_ui_rd, if_neg (by omega), z_ui_rd, if_neg (by omega)]⟩
  have eb : bq (z_ui (z_ui (z_ui μ0 51 k (nI (w k - 3))) 54 md 1) 55 md (nI k)) = bq μ0 := by rw [bq_ui (by decide), bq_ui (by decide), bq_ui (by decide)]
  generalize z_ui (z_ui (z_ui μ0 51 k (nI (w k - 3))) 54 md 1) 55 md (nI k) = μ1 at f1 H1 r51 c54 c55 px eb ⊢
  have w1 : RW μ1 51 (sub3 w k) := fun j hj => by
    rw [r51]; unfold sub3
    by_cases e : j = k
    · rw [if_pos e, if_pos e, e]; exact ⟨rfl, by omega⟩
    · rw [if_neg e, if_neg e]; exact hw j hj
  refine z_rcs hc hH 7 (pc' := 193) (lv' := [(6, .int x6), (5, .int (nI k)), (0, .ref 50), (1, .int x1), (2, .int (nI md)), (3, .int (nI p)), (4, .int 1)]) (st' := [.int 1, .int (nI p), .int ((nI md) + 1), .int (nI k), .ref 50]) (μ' := μ1) (by rfl) ?_
  rw [nI_1]
  refine zq_call hc (z_cx_ok hH (by rfl)) (ih μ1 (sub3 w k) k (md + 1) 0 (pf ++ [(1, k)]) H1 (a_Fz_tr (by decide) hF0 f1) w1 (by omega) (by omega) (fun j hj => by unfold sub3; rw [if_neg (by omega)]; exact hzk j hj) (Or.inl rfl) (by rw [List.length_append, hpl]; rfl) (PX_add hpx (fun i hi => px i (by omega)) (by rw [hpl]; exact c54) (by rw [hpl]; exact c55)) (PV_add hpv (by decide) hk (fun e => absurd e (by decide))) (fun j hj => ⟨fun z => absurd z.2.1 (by rw [Nat.add_sub_cancel, c54]; decide), fun z => absurd z (by omega)⟩)) (by decide +kernel) (fun r2 μ2 hq => ?_)
  obtain ⟨rfl, hs⟩ := hq
  show Z 0 196 [(6, .int x6), (5, .int (nI k)), (0, .ref 50), (1, .int x1), (2, .int (nI md)), (3, .int (nI p)), (4, .int 1)] [] μ2
  refine z_rcs hc hH 4 (pc' := 203) (lv' := [(6, .int x6), (5, .int (nI k)), (0, .ref 50), (1, .int x1), (2, .int (nI md)), (3, .int (nI p)), (4, .int 1)]) (st' := [.int (nI k), .ref 51, .int (nI k), .ref 51]) (μ' := μ2) (by rfl) ?_
  refine zq_iald hc hH (by rfl) 34 (by decide +kernel) (ink) ?_
  rw [ek, hs.1, r51, if_pos rfl]
  refine z_rcs hc hH 2 (pc' := 206) (lv' := [(6, .int x6), (5, .int (nI k)), (0, .ref 50), (1, .int x1), (2, .int (nI md)), (3, .int (nI p)), (4, .int 1)]) (st' := [.int ((nI (w k - 3)) + 3), .int (nI k), .ref 51]) (μ' := μ2) (by rfl) ?_
  rw [show nI (w k - 3) + 3 = nI (w k) from (nI_add (w k - 3) 3).trans (by rw [show w k - 3 + 3 = w k by omega])]
  refine zq_iast hc hH (by rfl) 34 (by decide +kernel) (ink) ?_
  rw [ek]
  refine K _ ⟨fun j => ?_, fun i hi => ?_, a_Fz_ui (a_Fz_tr (by decide) f1 hs.2.2.1) (a_mda_md (by decide) _), a_H_ui hs.2.2.2.1 (bI_top _), ?_⟩
  · rw [z_ui_rd]
    by_cases e : j = k
    · rw [if_pos ⟨rfl, e⟩, e, wk.1]
    · rw [if_neg (fun z => e z.2), hs.1, r51, if_neg e]
  · rw [z_ui_rd, if_neg (by omega), z_ui_rd, if_neg (by omega), (hs.2.1 i (by omega)).1, (hs.2.1 i (by omega)).2]; exact px i hi
  · rw [bq_ui (by decide), ← eb]; exact hs.2.2.2.2
theorem rtR (d' : Nat) (Z : zK) (μ : zM) (B : Q4 → Prop) (md : Nat) (hc : z_clo z_x0 mi_X7_sets (z_C d') Z) (hr : z_ret mi_X7_sets (fun r μ' => r = none ∧ SV md μ μ' B) Z) (κ : zM) (q p : Nat) (O : SL → Q4 → Prop) (eκ : κ.1 50 4 = nI q) (m k : Nat) (x1 x6 : Int32) (hm : md + (m + 1) + q = 4) (hk : k < 34) (ih : ∀ (μ : zM) (w : Nat → Nat) (fr md last : Nat) (pf : SL), a_H μ → a_Fz mdR κ μ → RW μ 51 w → md + m + q = 4 → fr ≤ 34 → (∀ j, j < fr → w j = 0) → (last = 0 ∨ last = fr + 1) → pf.length = md → PX μ pf → PV pf → (∀ k, k < 34 → ((0 < md ∧ μ.1 54 (md - 1) = 0 ∧ μ.1 55 (md - 1) = nI k) ↔ last = k + 1)) → z_C d' mi_X7_sets [.ref 50, .int (nI fr), .int (nI md), .int (nI p), .int 1] μ (fun r μ' => r = none ∧ SV md μ μ' (SS O pf w m last))) (μ0 : zM) (w : Nat → Nat) (pf : SL) (hH0 : a_H μ0) (hF0 : a_Fz mdR κ μ0) (hw : RW μ0 51 w) (hpl : pf.length = md) (hpx : PX μ0 pf) (hpv : PV pf) (hzk : ∀ j, j < k → w j = 0) (hk2 : k + 2 < 34) (h0 : 1 ≤ w k) (h1 : 1 ≤ w (k + 1)) (h2 : 1 ≤ w (k + 2)) (hrs : rs k) (K : ∀ μ3, SV md μ0 μ3 (SS O (pf ++ [(0, k)]) (subr w k) m (k + 1)) → Z 0 340 [(6, .int x6), (5, .int (nI k)), (0, .ref 50), (1, .int x1), (2, .int (nI md)), (3, .int (nI p)), (4, .int 1)] [] μ3) : Z 0 239 [(6, .int x6), (5, .int (nI k)), (0, .ref 50), (1, .int x1), (2, .int (nI md)), (3, .int (nI p)), (4, .int 1)] [] μ0 := by
  have hH := zh_X7_sets
  have ink : vp_in (nI k) 34 := vp_in_nI hk (by decide)
  have inm : vp_in (nI md) 5 := vp_in_nI (by omega) (by decide)
  have in1 : vp_in (nI (k + 1)) 34 := vp_in_nI (by omega) (by decide)
  have in2 : vp_in (nI (k + 2)) 34 := vp_in_nI (by omega) (by decide)
  have ek : (nI k).toNatClampNeg = k := nI_clamp (by omega)
  have em : (nI md).toNatClampNeg = md := nI_clamp (by omega)
  have ek1 : (nI (k + 1)).toNatClampNeg = k + 1 := nI_clamp (by omega)
  have ek2 : (nI (k + 2)).toNatClampNeg = k + 2 := nI_clamp (by omega)
  have a2 : nI k + 2 = nI (k + 2) := nI_add k 2
  have wk := hw k hk
  have wk1 := hw (k + 1) (by omega)
  have wk2 := hw (k + 2) (by omega)
  refine z_rcs hc hH 4 (pc' := 246) (lv' := [(6, .int x6), (5, .int (nI k)), (0, .ref 50), (1, .int x1), (2, .int (nI md)), (3, .int (nI p)), (4, .int 1)]) (st' := [.int (nI k), .ref 51, .int (nI k), .ref 51]) (μ' := μ0) (by rfl) ?_
  refine zq_iald hc hH (by rfl) 34 (by decide +kernel) (ink) ?_
  rw [ek, wk.1]
  refine z_rcs hc hH 2 (pc' := 249) (lv' := [(6, .int x6), (5, .int (nI k)), (0, .ref 50), (1, .int x1), (2, .int (nI md)), (3, .int (nI p)), (4, .int 1)]) (st' := [.int ((nI (w k)) - 1), .int (nI k), .ref 51]) (μ' := μ0) (by rfl) ?_
  rw [s_1 (w (k)) (by omega) h0]
  refine zq_iast hc hH (by rfl) 34 (by decide +kernel) (ink) ?_
  rw [ek]
  have g1 : ∀ j, (z_ui μ0 51 k (nI (w k - 1))).1 51 j = if j = k then nI (w k - 1) else μ0.1 51 j := fun j => by
    rw [z_ui_rd]
    by_cases e : j = k
    · rw [if_pos ⟨rfl, e⟩, if_pos e]
    · rw [if_neg (fun z => e z.2), if_neg e]
  have F1 : a_Fz mdR μ0 (z_ui μ0 51 k (nI (w k - 1))) := a_Fz_ui (a_Fz_rf _ _) (a_mda_md (by decide) _)
  have H1 : a_H (z_ui μ0 51 k (nI (w k - 1))) := a_H_ui hH0 (bI_top _)
  have E1 : bq (z_ui μ0 51 k (nI (w k - 1))) = bq μ0 := bq_ui (by decide)
  have P1 : ∀ r i, r ≠ 51 → (z_ui μ0 51 k (nI (w k - 1))).1 r i = μ0.1 r i := fun r i h => by rw [z_ui_rd, if_neg (fun z => h z.1)]
  generalize z_ui μ0 51 k (nI (w k - 1)) = ν1 at g1 F1 H1 E1 P1 ⊢
  refine z_rcs hc hH 5 (pc' := 258) (lv' := [(6, .int x6), (5, .int (nI k)), (0, .ref 50), (1, .int x1), (2, .int (nI md)), (3, .int (nI p)), (4, .int 1)]) (st' := [.int ((nI k) + 1), .ref 51]) (μ' := ν1) (by rfl) ?_
  rw [nI_1]
  refine z_rcs hc hH 1 (pc' := 259) (lv' := [(6, .int x6), (5, .int (nI k)), (0, .ref 50), (1, .int x1), (2, .int (nI md)), (3, .int (nI p)), (4, .int 1)]) (st' := [.int (nI (k + 1)), .ref 51, .int (nI (k + 1)), .ref 51]) (μ' := ν1) (by rfl) ?_
  refine zq_iald hc hH (by rfl) 34 (by decide +kernel) (in1) ?_
  rw [ek1, g1, if_neg (by omega), wk1.1]
  refine z_rcs hc hH 2 (pc' := 262) (lv' := [(6, .int x6), (5, .int (nI k)), (0, .ref 50), (1, .int x1), (2, .int (nI md)), (3, .int (nI p)), (4, .int 1)]) (st' := [.int ((nI (w (k + 1))) - 1), .int (nI (k + 1)), .ref 51]) (μ' := ν1) (by rfl) ?_
  rw [s_1 (w (k + 1)) (by omega) h1]
  refine zq_iast hc hH (by rfl) 34 (by decide +kernel) (in1) ?_
  rw [ek1]
  have g2 : ∀ j, (z_ui ν1 51 (k + 1) (nI (w (k + 1) - 1))).1 51 j = if j = k + 1 then nI (w (k + 1) - 1) else ν1.1 51 j := fun j => by
    rw [z_ui_rd]
    by_cases e : j = k + 1
    · rw [if_pos ⟨rfl, e⟩, if_pos e]
    · rw [if_neg (fun z => e z.2), if_neg e]
  have F2 : a_Fz mdR μ0 (z_ui ν1 51 (k + 1) (nI (w (k + 1) - 1))) := a_Fz_ui F1 (a_mda_md (by decide) _)
  have H2 : a_H (z_ui ν1 51 (k + 1) (nI (w (k + 1) - 1))) := a_H_ui H1 (bI_top _)
  have E2 : bq (z_ui ν1 51 (k + 1) (nI (w (k + 1) - 1))) = bq μ0 := by rw [bq_ui (by decide), E1]
  have P2 : ∀ r i, r ≠ 51 → (z_ui ν1 51 (k + 1) (nI (w (k + 1) - 1))).1 r i = μ0.1 r i := fun r i h => by rw [z_ui_rd, if_neg (fun z => h z.1), P1 r i h]
  generalize z_ui ν1 51 (k + 1) (nI (w (k + 1) - 1)) = ν2 at g2 F2 H2 E2 P2 ⊢
  refine z_rcs hc hH 5 (pc' := 271) (lv' := [(6, .int x6), (5, .int (nI k)), (0, .ref 50), (1, .int x1), (2, .int (nI md)), (3, .int (nI p)), (4, .int 1)]) (st' := [.int ((nI k) + 2), .ref 51]) (μ' := ν2) (by rfl) ?_
  rw [a2]
  refine z_rcs hc hH 1 (pc' := 272) (lv' := [(6, .int x6), (5, .int (nI k)), (0, .ref 50), (1, .int x1), (2, .int (nI md)), (3, .int (nI p)), (4, .int 1)]) (st' := [.int (nI (k + 2)), .ref 51, .int (nI (k + 2)), .ref 51]) (μ' := ν2) (by rfl) ?_
  refine zq_iald hc hH (by rfl) 34 (by decide +kernel) (in2) ?_
  rw [ek2, g2, if_neg (by omega), g1, if_neg (by omega), wk2.1]
  refine z_rcs hc hH 2 (pc' := 275) (lv' := [(6, .int x6), (5, .int (nI k)), (0, .ref 50), (1, .int x1), (2, .int (nI md)), (3, .int (nI p)), (4, .int 1)]) (st' := [.int ((nI (w (k + 2))) - 1), .int (nI (k + 2)), .ref 51]) (μ' := ν2) (by rfl) ?_
  rw [s_1 (w (k + 2)) (by omega) h2]
  refine zq_iast hc hH (by rfl) 34 (by decide +kernel) (in2) ?_
  rw [ek2]
  have g3 : ∀ j, (z_ui ν2 51 (k + 2) (nI (w (k + 2) - 1))).1 51 j = if j = k + 2 then nI (w (k + 2) - 1) else ν2.1 51 j := fun j => by
    rw [z_ui_rd]
    by_cases e : j = k + 2
    · rw [if_pos ⟨rfl, e⟩, if_pos e]
    · rw [if_neg (fun z => e z.2), if_neg e]
  have F3 : a_Fz mdR μ0 (z_ui ν2 51 (k + 2) (nI (w (k + 2) - 1))) := a_Fz_ui F2 (a_mda_md (by decide) _)
  have H3 : a_H (z_ui ν2 51 (k + 2) (nI (w (k + 2) - 1))) := a_H_ui H2 (bI_top _)
  have E3 : bq (z_ui ν2 51 (k + 2) (nI (w (k + 2) - 1))) = bq μ0 := by rw [bq_ui (by decide), E2]
  have P3 : ∀ r i, r ≠ 51 → (z_ui ν2 51 (k + 2) (nI (w (k + 2) - 1))).1 r i = μ0.1 r i := fun r i h => by rw [z_ui_rd, if_neg (fun z => h z.1), P2 r i h]
  generalize z_ui ν2 51 (k + 2) (nI (w (k + 2) - 1)) = ν3 at g3 F3 H3 E3 P3 ⊢
  refine z_rcs hc hH 4 (pc' := 282) (lv' := [(6, .int x6), (5, .int (nI k)), (0, .ref 50), (1, .int x1), (2, .int (nI md)), (3, .int (nI p)), (4, .int 1)]) (st' := [.int 0, .int (nI md), .ref 54]) (μ' := ν3) (by rfl) ?_
  refine zq_iast hc hH (by rfl) 5 (by decide +kernel) (inm) ?_
  refine z_rcs hc hH 4 (pc' := 290) (lv' := [(6, .int x6), (5, .int (nI k)), (0, .ref 50), (1, .int x1), (2, .int (nI md)), (3, .int (nI p)), (4, .int 1)]) (st' := [.int (nI k), .int (nI md), .ref 55]) (μ' := z_ui (ν3) 54 ((nI md).toNatClampNeg) 0) (by rfl) ?_
  refine zq_iast hc hH (by rfl) 5 (by decide +kernel) (inm) ?_
  rw [em]
  have f1 : a_Fz mdR μ0 (z_ui (z_ui ν3 54 md 0) 55 md (nI k)) := a_Fz_ui (a_Fz_ui F3 (a_mda_md (by decide) _)) (a_mda_md (by decide) _)
  have H4 : a_H (z_ui (z_ui ν3 54 md 0) 55 md (nI k)) := a_H_ui (a_H_ui H3 (bI_top _)) (bI_top _)
  have r51 : ∀ j, (z_ui (z_ui ν3 54 md 0) 55 md (nI k)).1 51 j = ν3.1 51 j := fun j => by rw [z_ui_rd, if_neg (by omega), z_ui_rd, if_neg (by omega)]
  have c54 : (z_ui (z_ui ν3 54 md 0) 55 md (nI k)).1 54 md = 0 := by rw [z_ui_rd, if_neg (by omega), z_ui_rd, if_pos ⟨rfl, rfl⟩]
  have c55 : (z_ui (z_ui ν3 54 md 0) 55 md (nI k)).1 55 md = nI k := by rw [z_ui_rd, if_pos ⟨rfl, rfl⟩]
  have px : ∀ i, i < md → (z_ui (z_ui ν3 54 md 0) 55 md (nI k)).1 54 i = μ0.1 54 i ∧ (z_ui (z_ui ν3 54 md 0) 55 md (nI k)).1 55 i = μ0.1 55 i := fun i hi => ⟨by rw [z_ui_rd, if_neg (by omega), z_ui_rd, if_neg (by omega)]; exact P3 54 i (by decide), by rw [z_ui_rd, if_neg (by omega), z_ui_rd, if_neg (by omega)]; exact P3 55 i (by decide)⟩
  have eb : bq (z_ui (z_ui ν3 54 md 0) 55 md (nI k)) = bq μ0 := by rw [bq_ui (by decide), bq_ui (by decide), E3]
  generalize z_ui (z_ui ν3 54 md 0) 55 md (nI k) = μ1 at f1 H4 r51 c54 c55 px eb ⊢
  have w1 : RW μ1 51 (subr w k) := fun j hj => by
    rw [r51, g3, g2, g1]; unfold subr
    by_cases c0 : j = k
    · rw [if_neg (by omega), if_neg (by omega), if_pos c0, if_pos (Or.inl c0), c0]; exact ⟨rfl, by omega⟩
    · by_cases c1 : j = k + 1
      · rw [if_neg (by omega), if_pos c1, if_pos (Or.inr (Or.inl c1)), c1]; exact ⟨rfl, by omega⟩
      · by_cases c2 : j = k + 2
        · rw [if_pos c2, if_pos (Or.inr (Or.inr c2)), c2]; exact ⟨rfl, by omega⟩
        · rw [if_neg c2, if_neg c1, if_neg c0, if_neg (by omega)]; exact hw j hj
  refine z_rcs hc hH 7 (pc' := 300) (lv' := [(6, .int x6), (5, .int (nI k)), (0, .ref 50), (1, .int x1), (2, .int (nI md)), (3, .int (nI p)), (4, .int 1)]) (st' := [.int 1, .int (nI p), .int ((nI md) + 1), .int (nI k), .ref 50]) (μ' := μ1) (by rfl) ?_
  rw [nI_1]
  refine zq_call hc (z_cx_ok hH (by rfl)) (ih μ1 (subr w k) k (md + 1) (k + 1) (pf ++ [(0, k)]) H4 (a_Fz_tr (by decide) hF0 f1) w1 (by omega) (by omega) (fun j hj => by unfold subr; rw [if_neg (by omega)]; exact hzk j hj) (Or.inr rfl) (by rw [List.length_append, hpl]; rfl) (PX_add hpx (fun i hi => px i (by omega)) (by rw [hpl]; exact c54) (by rw [hpl]; exact c55)) (PV_add hpv (by decide) hk (fun _ => hrs)) (fun j hj => ⟨fun z => by rw [Nat.add_sub_cancel, c55] at z; have := (nI_eq (by omega) (by omega)).mp z.2.2; omega, fun z => ⟨by omega, by rw [Nat.add_sub_cancel, c54], by rw [Nat.add_sub_cancel, c55, show j = k by omega]⟩⟩)) (by decide +kernel) (fun r2 μ2 hq => ?_)
  obtain ⟨rfl, hs⟩ := hq
  have R2 : ∀ j, μ2.1 51 j = ν3.1 51 j := fun j => (hs.1 j).trans (r51 j)
  show Z 0 303 [(6, .int x6), (5, .int (nI k)), (0, .ref 50), (1, .int x1), (2, .int (nI md)), (3, .int (nI p)), (4, .int 1)] [] μ2
  refine z_rcs hc hH 4 (pc' := 310) (lv' := [(6, .int x6), (5, .int (nI k)), (0, .ref 50), (1, .int x1), (2, .int (nI md)), (3, .int (nI p)), (4, .int 1)]) (st' := [.int (nI k), .ref 51, .int (nI k), .ref 51]) (μ' := μ2) (by rfl) ?_
  refine zq_iald hc hH (by rfl) 34 (by decide +kernel) (ink) ?_
  rw [ek, R2, g3, if_neg (by omega), g2, if_neg (by omega), g1, if_pos rfl]
  refine z_rcs hc hH 2 (pc' := 313) (lv' := [(6, .int x6), (5, .int (nI k)), (0, .ref 50), (1, .int x1), (2, .int (nI md)), (3, .int (nI p)), (4, .int 1)]) (st' := [.int ((nI (w (k) - 1)) + 1), .int (nI k), .ref 51]) (μ' := μ2) (by rfl) ?_
  rw [show nI (w (k) - 1) + 1 = nI (w (k)) from (nI_add (w (k) - 1) 1).trans (by rw [show w (k) - 1 + 1 = w (k) by omega])]
  refine zq_iast hc hH (by rfl) 34 (by decide +kernel) (ink) ?_
  rw [ek]
  have u1 : ∀ j, (z_ui μ2 51 (k) (nI (w (k)))).1 51 j = if j = k then nI (w (k)) else μ2.1 51 j := fun j => by
    rw [z_ui_rd]
    by_cases e : j = k
    · rw [if_pos ⟨rfl, e⟩, if_pos e]
    · rw [if_neg (fun z => e z.2), if_neg e]
  have Fu1 : a_Fz mdR μ0 (z_ui μ2 51 (k) (nI (w (k)))) := a_Fz_ui (a_Fz_tr (by decide) f1 hs.2.2.1) (a_mda_md (by decide) _)
  have Hu1 : a_H (z_ui μ2 51 (k) (nI (w (k)))) := a_H_ui hs.2.2.2.1 (bI_top _)
  have Eu1 : bq (z_ui μ2 51 (k) (nI (w (k)))) = bq μ2 := by rw [bq_ui (by decide)]
  have Pu1 : ∀ r i, r ≠ 51 → (z_ui μ2 51 (k) (nI (w (k)))).1 r i = μ2.1 r i := fun r i h => by rw [z_ui_rd, if_neg (fun z => h z.1)]
  generalize z_ui μ2 51 (k) (nI (w (k))) = ν4 at u1 Fu1 Hu1 Eu1 Pu1 ⊢
  refine z_rcs hc hH 5 (pc' := 322) (lv' := [(6, .int x6), (5, .int (nI k)), (0, .ref 50), (1, .int x1), (2, .int (nI md)), (3, .int (nI p)), (4, .int 1)]) (st' := [.int ((nI k) + 1), .ref 51]) (μ' := ν4) (by rfl) ?_
  rw [nI_1]
  refine z_rcs hc hH 1 (pc' := 323) (lv' := [(6, .int x6), (5, .int (nI k)), (0, .ref 50), (1, .int x1), (2, .int (nI md)), (3, .int (nI p)), (4, .int 1)]) (st' := [.int (nI (k + 1)), .ref 51, .int (nI (k + 1)), .ref 51]) (μ' := ν4) (by rfl) ?_
  refine zq_iald hc hH (by rfl) 34 (by decide +kernel) (in1) ?_
  rw [ek1, u1, if_neg (by omega), R2, g3, if_neg (by omega), g2, if_pos rfl]
  refine z_rcs hc hH 2 (pc' := 326) (lv' := [(6, .int x6), (5, .int (nI k)), (0, .ref 50), (1, .int x1), (2, .int (nI md)), (3, .int (nI p)), (4, .int 1)]) (st' := [.int ((nI (w (k + 1) - 1)) + 1), .int (nI (k + 1)), .ref 51]) (μ' := ν4) (by rfl) ?_
  rw [show nI (w (k + 1) - 1) + 1 = nI (w (k + 1)) from (nI_add (w (k + 1) - 1) 1).trans (by rw [show w (k + 1) - 1 + 1 = w (k + 1) by omega])]
  refine zq_iast hc hH (by rfl) 34 (by decide +kernel) (in1) ?_
  rw [ek1]
  have u2 : ∀ j, (z_ui ν4 51 (k + 1) (nI (w (k + 1)))).1 51 j = if j = k + 1 then nI (w (k + 1)) else ν4.1 51 j := fun j => by
    rw [z_ui_rd]
    by_cases e : j = k + 1
    · rw [if_pos ⟨rfl, e⟩, if_pos e]
    · rw [if_neg (fun z => e z.2), if_neg e]
  have Fu2 : a_Fz mdR μ0 (z_ui ν4 51 (k + 1) (nI (w (k + 1)))) := a_Fz_ui Fu1 (a_mda_md (by decide) _)
  have Hu2 : a_H (z_ui ν4 51 (k + 1) (nI (w (k + 1)))) := a_H_ui Hu1 (bI_top _)
  have Eu2 : bq (z_ui ν4 51 (k + 1) (nI (w (k + 1)))) = bq μ2 := by rw [bq_ui (by decide), Eu1]
  have Pu2 : ∀ r i, r ≠ 51 → (z_ui ν4 51 (k + 1) (nI (w (k + 1)))).1 r i = μ2.1 r i := fun r i h => by rw [z_ui_rd, if_neg (fun z => h z.1), Pu1 r i h]
  generalize z_ui ν4 51 (k + 1) (nI (w (k + 1))) = ν5 at u2 Fu2 Hu2 Eu2 Pu2 ⊢
  refine z_rcs hc hH 5 (pc' := 335) (lv' := [(6, .int x6), (5, .int (nI k)), (0, .ref 50), (1, .int x1), (2, .int (nI md)), (3, .int (nI p)), (4, .int 1)]) (st' := [.int ((nI k) + 2), .ref 51]) (μ' := ν5) (by rfl) ?_
  rw [a2]
  refine z_rcs hc hH 1 (pc' := 336) (lv' := [(6, .int x6), (5, .int (nI k)), (0, .ref 50), (1, .int x1), (2, .int (nI md)), (3, .int (nI p)), (4, .int 1)]) (st' := [.int (nI (k + 2)), .ref 51, .int (nI (k + 2)), .ref 51]) (μ' := ν5) (by rfl) ?_
  refine zq_iald hc hH (by rfl) 34 (by decide +kernel) (in2) ?_
  rw [ek2, u2, if_neg (by omega), u1, if_neg (by omega), R2, g3, if_pos rfl]
  refine z_rcs hc hH 2 (pc' := 339) (lv' := [(6, .int x6), (5, .int (nI k)), (0, .ref 50), (1, .int x1), (2, .int (nI md)), (3, .int (nI p)), (4, .int 1)]) (st' := [.int ((nI (w (k + 2) - 1)) + 1), .int (nI (k + 2)), .ref 51]) (μ' := ν5) (by rfl) ?_
  rw [show nI (w (k + 2) - 1) + 1 = nI (w (k + 2)) from (nI_add (w (k + 2) - 1) 1).trans (by rw [show w (k + 2) - 1 + 1 = w (k + 2) by omega])]
  refine zq_iast hc hH (by rfl) 34 (by decide +kernel) (in2) ?_
  rw [ek2]
  have u3 : ∀ j, (z_ui ν5 51 (k + 2) (nI (w (k + 2)))).1 51 j = if j = k + 2 then nI (w (k + 2)) else ν5.1 51 j := fun j => by
    rw [z_ui_rd]
    by_cases e : j = k + 2
    · rw [if_pos ⟨rfl, e⟩, if_pos e]
    · rw [if_neg (fun z => e z.2), if_neg e]
  have Fu3 : a_Fz mdR μ0 (z_ui ν5 51 (k + 2) (nI (w (k + 2)))) := a_Fz_ui Fu2 (a_mda_md (by decide) _)
  have Hu3 : a_H (z_ui ν5 51 (k + 2) (nI (w (k + 2)))) := a_H_ui Hu2 (bI_top _)
  have Eu3 : bq (z_ui ν5 51 (k + 2) (nI (w (k + 2)))) = bq μ2 := by rw [bq_ui (by decide), Eu2]
  have Pu3 : ∀ r i, r ≠ 51 → (z_ui ν5 51 (k + 2) (nI (w (k + 2)))).1 r i = μ2.1 r i := fun r i h => by rw [z_ui_rd, if_neg (fun z => h z.1), Pu2 r i h]
  generalize z_ui ν5 51 (k + 2) (nI (w (k + 2))) = ν6 at u3 Fu3 Hu3 Eu3 Pu3 ⊢
  refine K _ ⟨fun j => ?_, fun i hi => ?_, Fu3, Hu3, ?_⟩
  · rw [u3, u2, u1, R2, g3, g2, g1]
    by_cases c0 : j = k
    · rw [if_neg (by omega), if_neg (by omega), if_pos c0, c0, wk.1]
    · by_cases c1 : j = k + 1
      · rw [if_neg (by omega), if_pos c1, c1, wk1.1]
      · by_cases c2 : j = k + 2
        · rw [if_pos c2, c2, wk2.1]
        · rw [if_neg c2, if_neg c1, if_neg c0, if_neg c2, if_neg c1, if_neg c0]
  · rw [Pu3 54 i (by decide), Pu3 55 i (by decide), (hs.2.1 i (by omega)).1, (hs.2.1 i (by omega)).2]; exact px i hi
  · rw [Eu3, ← eb]; exact hs.2.2.2.2
theorem re16 (d' : Nat) (Z : zK) (μ : zM) (B : Q4 → Prop) (md : Nat) (hc : z_clo z_x0 mi_X7_sets (z_C d') Z) (hr : z_ret mi_X7_sets (fun r μ' => r = none ∧ SV md μ μ' B) Z) (κ : zM) (q p : Nat) (O : SL → Q4 → Prop) (eκ : κ.1 50 4 = nI q) (dw : Nat) (hway : HW dw κ q p O) (hdw : dw ≤ d') (x1 : Int32) (w : Nat → Nat) (pf : SL) (hH0 : a_H μ) (hF0 : a_Fz mdR κ μ) (hw : RW μ 51 w) (hpl : pf.length = md) (hm : md + q = 4) (hpx : PX μ pf) (hpv : PV pf) (hB : (∀ k, k < 34 → w k = 0) → ∀ x, B x ↔ O pf x) (hN : (∃ k, k < 34 ∧ w k ≠ 0) → ∀ x, ¬ B x) : ∀ n i, i + n = 34 → ∀ x : Int32, (x = 1 ∧ ∀ j, j < i → w j = 0) ∨ (x = 0 ∧ ∃ j, j < 34 ∧ w j ≠ 0) → Z 0 16 [(6, .int (nI i)), (5, .int x), (0, .ref 50), (1, .int x1), (2, .int (nI md)), (3, .int (nI p)), (4, .int 1)] [] μ := by
  have hH := zh_X7_sets
  intro n
  induction n with
  | zero =>
    intro i hi x hx
    have hi : i = 34 := by omega
    subst hi
    rcases hx with ⟨rfl, hz⟩ | ⟨rfl, j, hj, hz⟩
    · skip
      refine z_rcs hc hH 2 (pc' := 20) (lv' := [(6, .int (nI 34)), (5, .int 1), (0, .ref 50), (1, .int x1), (2, .int (nI md)), (3, .int (nI p)), (4, .int 1)]) (st' := [.int 34, .int (nI 34)]) (μ' := μ) (by rfl) ?_
      refine zq_ic hc hH (by rfl) (tg := 51) (by rfl) (fun _ => ?_) (fun h9 => (zb_t (ge_nIt (n := 34) (i := 34) (by decide) (by decide)) h9).elim)
      refine z_rcs hc hH 9 (pc' := 69) (lv' := [(6, .int (nI 34)), (5, .int 1), (0, .ref 50), (1, .int x1), (2, .int (nI md)), (3, .int (nI p)), (4, .int 1)]) (st' := [.int (nI p), .ref 50]) (μ' := z_ui μ 50 18 1) (by rfl) ?_
      have F1 : a_Fz mdR μ (z_ui μ 50 18 1) := a_Fz_ui (a_Fz_rf _ _) (by decide)
      have H1 : a_H (z_ui μ 50 18 1) := a_H_ui hH0 ⟨by decide, by decide⟩
      have R1 : ∀ r i, r ≠ 50 → (z_ui μ 50 18 1).1 r i = μ.1 r i := fun r i h => by rw [z_ui_rd, if_neg (fun z => h z.1)]
      have E1 : bq (z_ui μ 50 18 1) = bq μ := bq_18
      generalize z_ui μ 50 18 1 = μ1 at F1 H1 R1 E1 ⊢
      refine zq_call hc (z_cx_ok hH (by rfl)) (hway d' μ1 pf hdw H1 (a_Fz_tr (by decide) hF0 F1) (by omega) (fun i hi => by rw [R1 54 i (by decide), R1 55 i (by decide)]; exact hpx i hi) hpv) (by decide +kernel) (fun r2 μ2 hq => ?_)
      obtain ⟨rfl, y1, y2, y3⟩ := hq
      have hE : SV md μ μ2 B := ⟨fun j => by rw [a_Fz_at y2 51 j (a_md_row (by decide)), R1 51 j (by decide)], fun i hi => ⟨by rw [a_Fz_at y2 54 i (a_md_row (by decide)), R1 54 i (by decide)], by rw [a_Fz_at y2 55 i (a_md_row (by decide)), R1 55 i (by decide)]⟩, a_Fz_tr (by decide) F1 y2, y1, (by rw [E1] at y3; exact y3.iff (fun x => (hB hz x).symm))⟩
      show Z 0 72 [(6, .int (nI 34)), (5, .int 1), (0, .ref 50), (1, .int x1), (2, .int (nI md)), (3, .int (nI p)), (4, .int 1)] [] μ2
      exact hr 0 72 _ _ _ none (by decide +kernel) (by rfl) (⟨rfl, hE⟩)
    · skip
      refine z_rcs hc hH 2 (pc' := 20) (lv' := [(6, .int (nI 34)), (5, .int 0), (0, .ref 50), (1, .int x1), (2, .int (nI md)), (3, .int (nI p)), (4, .int 1)]) (st' := [.int 34, .int (nI 34)]) (μ' := μ) (by rfl) ?_
      refine zq_ic hc hH (by rfl) (tg := 51) (by rfl) (fun _ => ?_) (fun h9 => (zb_t (ge_nIt (n := 34) (i := 34) (by decide) (by decide)) h9).elim)
      refine z_rcs hc hH 2 (pc' := 56) (lv' := [(6, .int (nI 34)), (5, .int 0), (0, .ref 50), (1, .int x1), (2, .int (nI md)), (3, .int (nI p)), (4, .int 1)]) (st' := []) (μ' := μ) (by rfl) ?_
      exact hr 0 56 _ _ _ none (by decide +kernel) (by rfl) (⟨rfl, SV_rf hH0 (hN ⟨j, hj, hz⟩)⟩)
  | succ n ih =>
    intro i hi x hx
    have hin : vp_in (nI i) 34 := vp_in_nI (by omega) (by decide)
    have b5 := hw i (by omega)
    rcases hx with ⟨rfl, hz⟩ | ⟨rfl, hz⟩
    · skip
      refine z_rcs hc hH 2 (pc' := 20) (lv' := [(6, .int (nI i)), (5, .int 1), (0, .ref 50), (1, .int x1), (2, .int (nI md)), (3, .int (nI p)), (4, .int 1)]) (st' := [.int 34, .int (nI i)]) (μ' := μ) (by rfl) ?_
      refine zq_ic hc hH (by rfl) (tg := 51) (by rfl) (fun h9 => (zb_t h9 (ge_nI (n := 34) (i := i) (by omega) (by decide))).elim) (fun _ => ?_)
      refine z_rcs hc hH 5 (pc' := 34) (lv' := [(6, .int (nI i)), (5, .int 1), (0, .ref 50), (1, .int x1), (2, .int (nI md)), (3, .int (nI p)), (4, .int 1)]) (st' := [.int (nI i), .ref 51]) (μ' := μ) (by rfl) ?_
      refine zq_iald hc hH (by rfl) 34 (by decide +kernel) (hin) ?_
      rw [nI_clamp (n := i) (by omega), b5.1]
      refine zq_if hc hH (by rfl) (tg := 42) (by rfl) (fun h1 => ?_) (fun h1 => ?_)
      · have h1 := cm_ne.mp h1
        refine z_rcs hc hH 4 (pc' := 16) (lv' := [(6, .int ((nI i) + 1)), (5, .int 0), (0, .ref 50), (1, .int x1), (2, .int (nI md)), (3, .int (nI p)), (4, .int 1)]) (st' := []) (μ' := μ) (by rfl) ?_
        rw [nI_1]
        exact ih (i + 1) (by omega) 0 (Or.inr ⟨rfl, i, by omega, fun e => h1 (by rw [e]; rfl)⟩)
      · have h1 := cn_ne.mp h1
        refine z_rcs hc hH 5 (pc' := 16) (lv' := [(6, .int ((nI i) + 1)), (5, .int 1), (0, .ref 50), (1, .int x1), (2, .int (nI md)), (3, .int (nI p)), (4, .int 1)]) (st' := []) (μ' := μ) (by rfl) ?_
        rw [nI_1]
        exact ih (i + 1) (by omega) 1 (Or.inl ⟨rfl, fun j hj => if e : j = i then (by rw [e]; exact (nI_eq (by omega) (by omega)).mp h1) else hz j (by omega)⟩)
    · skip
      refine z_rcs hc hH 2 (pc' := 20) (lv' := [(6, .int (nI i)), (5, .int 0), (0, .ref 50), (1, .int x1), (2, .int (nI md)), (3, .int (nI p)), (4, .int 1)]) (st' := [.int 34, .int (nI i)]) (μ' := μ) (by rfl) ?_
      refine zq_ic hc hH (by rfl) (tg := 51) (by rfl) (fun h9 => (zb_t h9 (ge_nI (n := 34) (i := i) (by omega) (by decide))).elim) (fun _ => ?_)
      refine z_rcs hc hH 6 (pc' := 16) (lv' := [(6, .int ((nI i) + 1)), (5, .int 0), (0, .ref 50), (1, .int x1), (2, .int (nI md)), (3, .int (nI p)), (4, .int 1)]) (st' := []) (μ' := μ) (by rfl) ?_
      rw [nI_1]
      exact ih (i + 1) (by omega) 0 (Or.inr ⟨rfl, hz⟩)
theorem r340 (d' : Nat) (Z : zK) (μ : zM) (B : Q4 → Prop) (md : Nat) (hc : z_clo z_x0 mi_X7_sets (z_C d') Z) (hr : z_ret mi_X7_sets (fun r μ' => r = none ∧ SV md μ μ' B) Z) (p k : Nat) (x1 x6 : Int32) (μ4 : zM) (h : SV md μ μ4 B) : Z 0 340 [(6, .int x6), (5, .int (nI k)), (0, .ref 50), (1, .int x1), (2, .int (nI md)), (3, .int (nI p)), (4, .int 1)] [] μ4 := hr 0 340 _ _ _ none (by decide +kernel) (by rfl) ⟨rfl, h⟩
theorem r207 (d' : Nat) (Z : zK) (μ : zM) (B : Q4 → Prop) (md : Nat) (hc : z_clo z_x0 mi_X7_sets (z_C d') Z) (hr : z_ret mi_X7_sets (fun r μ' => r = none ∧ SV md μ μ' B) Z) (κ : zM) (q p : Nat) (O : SL → Q4 → Prop) (eκ : κ.1 50 4 = nI q) (m k last : Nat) (x1 : Int32) (hd : 1 ≤ d') (hm : md + (m + 1) + q = 4) (hk : k < 34) (ih : ∀ (μ : zM) (w : Nat → Nat) (fr md last : Nat) (pf : SL), a_H μ → a_Fz mdR κ μ → RW μ 51 w → md + m + q = 4 → fr ≤ 34 → (∀ j, j < fr → w j = 0) → (last = 0 ∨ last = fr + 1) → pf.length = md → PX μ pf → PV pf → (∀ k, k < 34 → ((0 < md ∧ μ.1 54 (md - 1) = 0 ∧ μ.1 55 (md - 1) = nI k) ↔ last = k + 1)) → z_C d' mi_X7_sets [.ref 50, .int (nI fr), .int (nI md), .int (nI p), .int 1] μ (fun r μ' => r = none ∧ SV md μ μ' (SS O pf w m last))) (w : Nat → Nat) (pf : SL) (hH0 : a_H μ) (hF0 : a_Fz mdR κ μ) (hw : RW μ 51 w) (hpl : pf.length = md) (hpx : PX μ pf) (hpv : PV pf) (hzk : ∀ j, j < k → w j = 0) (hwk : w k ≠ 0) (hB : ∀ x, B x ↔ ((fun x => (3 ≤ w k ∧ last ≠ k + 1) ∧ SS O (pf ++ [(1, k)]) (sub3 w k) m 0 x) x ∨ (fun x => (rs k ∧ 0 < w (k + 1) ∧ 0 < w (k + 2)) ∧ SS O (pf ++ [(0, k)]) (subr w k) m (k + 1) x) x)) (x6 : Int32) (μ3 : zM) (hS : SV md μ μ3 (fun x => (3 ≤ w k ∧ last ≠ k + 1) ∧ SS O (pf ++ [(1, k)]) (sub3 w k) m 0 x)) : Z 0 207 [(6, .int x6), (5, .int (nI k)), (0, .ref 50), (1, .int x1), (2, .int (nI md)), (3, .int (nI p)), (4, .int 1)] [] μ3 := by
  have hH := zh_X7_sets
  have hw3 := hS.rw hw
  refine z_rcs hc hH 1 (pc' := 209) (lv' := [(6, .int x6), (5, .int (nI k)), (0, .ref 50), (1, .int x1), (2, .int (nI md)), (3, .int (nI p)), (4, .int 1)]) (st' := [.int (nI k)]) (μ' := μ3) (by rfl) ?_
  refine zq_call hc (z_cx_ok hH (by rfl)) (fc_X7_isRun d' (by omega) μ3 (nI k)) (by decide +kernel) (fun r9 μ9 hq => ?_)
  obtain ⟨hμ9, hq⟩ := hq
  rw [hμ9]
  clear hμ9 μ9
  rw [sr_rs k hk] at hq
  obtain ⟨rfl, hk9⟩ | ⟨rfl, hk9⟩ := hq
  · show Z 0 212 [(6, .int x6), (5, .int (nI k)), (0, .ref 50), (1, .int x1), (2, .int (nI md)), (3, .int (nI p)), (4, .int 1)] [.int 1] μ3
    have k27 := hk9.1
    have in1 : vp_in (nI (k + 1)) 34 := vp_in_nI (by omega) (by decide)
    have in2 : vp_in (nI (k + 2)) 34 := vp_in_nI (by omega) (by decide)
    refine z_rcs hc hH 6 (pc' := 223) (lv' := [(6, .int x6), (5, .int (nI k)), (0, .ref 50), (1, .int x1), (2, .int (nI md)), (3, .int (nI p)), (4, .int 1)]) (st' := [.int ((nI k) + 1), .ref 51]) (μ' := μ3) (by rfl) ?_
    rw [nI_1]
    refine zq_iald hc hH (by rfl) 34 (by decide +kernel) (in1) ?_
    rw [nI_clamp (n := k + 1) (by omega), (hw3 (k + 1) (by omega)).1]
    refine zq_if hc hH (by rfl) (tg := 340) (by rfl) (fun h1 => ?_) (fun h1 => ?_)
    · have h1 := cm_le.mp h1
      have b9 := (hw3 (k + 1) (by omega)).2
      have n9 : ¬ 0 < w (k + 1) := fun z9 => by
        have z := h1
        rw [Int32.le_iff_toInt_le, nI_toInt (by omega)] at z
        have z : ((w (k + 1) : Nat) : Int) ≤ 0 := z
        omega
      exact hr 0 340 _ _ _ none (by decide +kernel) (by rfl) (⟨rfl, hS.iff (fun x => ⟨fun z => (hB x).mpr (Or.inl z), fun z => ((hB x).mp z).resolve_right ((fun x z => n9 z.1.2.1) x)⟩)⟩)
    · have h1 := cn_le.mp h1
      refine z_rcs hc hH 5 (pc' := 235) (lv' := [(6, .int x6), (5, .int (nI k)), (0, .ref 50), (1, .int x1), (2, .int (nI md)), (3, .int (nI p)), (4, .int 1)]) (st' := [.int ((nI k) + 2), .ref 51]) (μ' := μ3) (by rfl) ?_
      rw [show nI k + 2 = nI (k + 2) from nI_add k 2]
      refine zq_iald hc hH (by rfl) 34 (by decide +kernel) (in2) ?_
      rw [nI_clamp (n := k + 2) (by omega), (hw3 (k + 2) (by omega)).1]
      refine zq_if hc hH (by rfl) (tg := 340) (by rfl) (fun h2 => ?_) (fun h2 => ?_)
      · have h2 := cm_le.mp h2
        have b9 := (hw3 (k + 2) (by omega)).2
        have n9 : ¬ 0 < w (k + 2) := fun z9 => by
          have z := h2
          rw [Int32.le_iff_toInt_le, nI_toInt (by omega)] at z
          have z : ((w (k + 2) : Nat) : Int) ≤ 0 := z
          omega
        exact hr 0 340 _ _ _ none (by decide +kernel) (by rfl) (⟨rfl, hS.iff (fun x => ⟨fun z => (hB x).mpr (Or.inl z), fun z => ((hB x).mp z).resolve_right ((fun x z => n9 z.1.2.2) x)⟩)⟩)
      · have h2 := cn_le.mp h2
        have b1 := (hw3 (k + 1) (by omega)).2
        have p1 : 0 < w (k + 1) := by
          have z := h1
          rw [Int32.not_le, Int32.lt_iff_toInt_lt, nI_toInt (by omega)] at z
          have z : (0 : Int) < ((w (k + 1) : Nat) : Int) := z
          omega
        have b2 := (hw3 (k + 2) (by omega)).2
        have p2 : 0 < w (k + 2) := by
          have z := h2
          rw [Int32.not_le, Int32.lt_iff_toInt_lt, nI_toInt (by omega)] at z
          have z : (0 : Int) < ((w (k + 2) : Nat) : Int) := z
          omega
        exact rtR d' Z μ B md hc hr κ q p O eκ m k x1 x6 hm hk ih μ3 w pf hS.2.2.2.1 (a_Fz_tr (by decide) hF0 hS.2.2.1) hw3 hpl (hS.px hpl hpx) hpv hzk (by omega) (by omega) p1 p2 hk9 (fun μ4 h4 => r340 d' Z μ B md hc hr p k x1 x6 μ4 ((hS.tr h4).iff (fun x => ⟨fun z => (hB x).mpr (z.imp id (fun y => ⟨⟨hk9, p1, p2⟩, y⟩)), fun z => ((hB x).mp z).imp id (fun y => y.2)⟩)))
  · show Z 0 212 [(6, .int x6), (5, .int (nI k)), (0, .ref 50), (1, .int x1), (2, .int (nI md)), (3, .int (nI p)), (4, .int 1)] [.int 0] μ3
    have nR : ∀ x, ¬ (fun x => (rs k ∧ 0 < w (k + 1) ∧ 0 < w (k + 2)) ∧ SS O (pf ++ [(0, k)]) (subr w k) m (k + 1) x) x := fun x z => hk9 z.1.1
    refine z_rcs hc hH 1 (pc' := 340) (lv' := [(6, .int x6), (5, .int (nI k)), (0, .ref 50), (1, .int x1), (2, .int (nI md)), (3, .int (nI p)), (4, .int 1)]) (st' := []) (μ' := μ3) (by rfl) ?_
    exact hr 0 340 _ _ _ none (by decide +kernel) (by rfl) (⟨rfl, hS.iff (fun x => ⟨fun z => (hB x).mpr (Or.inl z), fun z => ((hB x).mp z).resolve_right (nR x)⟩)⟩)
theorem r107 (d' : Nat) (Z : zK) (μ : zM) (B : Q4 → Prop) (md : Nat) (hc : z_clo z_x0 mi_X7_sets (z_C d') Z) (hr : z_ret mi_X7_sets (fun r μ' => r = none ∧ SV md μ μ' B) Z) (κ : zM) (q p : Nat) (O : SL → Q4 → Prop) (eκ : κ.1 50 4 = nI q) (m k last : Nat) (x1 : Int32) (hd : 1 ≤ d') (hm : md + (m + 1) + q = 4) (hk : k < 34) (ih : ∀ (μ : zM) (w : Nat → Nat) (fr md last : Nat) (pf : SL), a_H μ → a_Fz mdR κ μ → RW μ 51 w → md + m + q = 4 → fr ≤ 34 → (∀ j, j < fr → w j = 0) → (last = 0 ∨ last = fr + 1) → pf.length = md → PX μ pf → PV pf → (∀ k, k < 34 → ((0 < md ∧ μ.1 54 (md - 1) = 0 ∧ μ.1 55 (md - 1) = nI k) ↔ last = k + 1)) → z_C d' mi_X7_sets [.ref 50, .int (nI fr), .int (nI md), .int (nI p), .int 1] μ (fun r μ' => r = none ∧ SV md μ μ' (SS O pf w m last))) (w : Nat → Nat) (pf : SL) (hH0 : a_H μ) (hF0 : a_Fz mdR κ μ) (hw : RW μ 51 w) (hpl : pf.length = md) (hpx : PX μ pf) (hpv : PV pf) (hzk : ∀ j, j < k → w j = 0) (hwk : w k ≠ 0) (hB : ∀ x, B x ↔ ((fun x => (3 ≤ w k ∧ last ≠ k + 1) ∧ SS O (pf ++ [(1, k)]) (sub3 w k) m 0 x) x ∨ (fun x => (rs k ∧ 0 < w (k + 1) ∧ 0 < w (k + 2)) ∧ SS O (pf ++ [(0, k)]) (subr w k) m (k + 1) x) x)) (hl : (0 < md ∧ μ.1 54 (md - 1) = 0 ∧ μ.1 55 (md - 1) = nI k) ↔ last = k + 1) : Z 0 107 [(5, .int (nI k)), (0, .ref 50), (1, .int x1), (2, .int (nI md)), (3, .int (nI p)), (4, .int 1)] [] μ := by
  have hH := zh_X7_sets
  have ink : vp_in (nI k) 34 := vp_in_nI hk (by decide)
  have t140 : ∀ x : Int32, (x = 1 ∧ last = k + 1) ∨ (x = 0 ∧ ¬ last = k + 1) → Z 0 140 [(5, .int (nI k)), (0, .ref 50), (1, .int x1), (2, .int (nI md)), (3, .int (nI p)), (4, .int 1)] [.int x] μ := by
    rintro x (⟨rfl, hx⟩ | ⟨rfl, hx⟩)
    · skip
      refine z_rcs hc hH 4 (pc' := 148) (lv' := [(6, .int 1), (5, .int (nI k)), (0, .ref 50), (1, .int x1), (2, .int (nI md)), (3, .int (nI p)), (4, .int 1)]) (st' := [.int (nI k), .ref 51]) (μ' := μ) (by rfl) ?_
      refine zq_iald hc hH (by rfl) 34 (by decide +kernel) (ink) ?_
      rw [nI_clamp (n := k) (by omega), (hw k hk).1]
      refine z_rcs hc hH 1 (pc' := 150) (lv' := [(6, .int 1), (5, .int (nI k)), (0, .ref 50), (1, .int x1), (2, .int (nI md)), (3, .int (nI p)), (4, .int 1)]) (st' := [.int 3, .int (nI (w k))]) (μ' := μ) (by rfl) ?_
      refine zq_ic hc hH (by rfl) (tg := 207) (by rfl) (fun h1 => ?_) (fun h1 => ?_)
      · have h1 := cm_lt.mp h1
        exact r207 d' Z μ B md hc hr κ q p O eκ m k last x1 hd hm hk ih w pf hH0 hF0 hw hpl hpx hpv hzk hwk hB 1 μ (SV_rf hH0 (fun x z => z.1.2 hx))
      · have h1 := cn_lt.mp h1
        refine z_rcs hc hH 2 (pc' := 207) (lv' := [(6, .int 1), (5, .int (nI k)), (0, .ref 50), (1, .int x1), (2, .int (nI md)), (3, .int (nI p)), (4, .int 1)]) (st' := []) (μ' := μ) (by rfl) ?_
        exact r207 d' Z μ B md hc hr κ q p O eκ m k last x1 hd hm hk ih w pf hH0 hF0 hw hpl hpx hpv hzk hwk hB 1 μ (SV_rf hH0 (fun x z => z.1.2 hx))
    · skip
      refine z_rcs hc hH 4 (pc' := 148) (lv' := [(6, .int 0), (5, .int (nI k)), (0, .ref 50), (1, .int x1), (2, .int (nI md)), (3, .int (nI p)), (4, .int 1)]) (st' := [.int (nI k), .ref 51]) (μ' := μ) (by rfl) ?_
      refine zq_iald hc hH (by rfl) 34 (by decide +kernel) (ink) ?_
      rw [nI_clamp (n := k) (by omega), (hw k hk).1]
      refine z_rcs hc hH 1 (pc' := 150) (lv' := [(6, .int 0), (5, .int (nI k)), (0, .ref 50), (1, .int x1), (2, .int (nI md)), (3, .int (nI p)), (4, .int 1)]) (st' := [.int 3, .int (nI (w k))]) (μ' := μ) (by rfl) ?_
      refine zq_ic hc hH (by rfl) (tg := 207) (by rfl) (fun h1 => ?_) (fun h1 => ?_)
      · have h1 := cm_lt.mp h1
        have n9 : ¬ 3 ≤ w k := fun z9 => by
          have z := h1
          rw [Int32.lt_iff_toInt_lt, nI_toInt (by have := (hw k hk).2; omega)] at z
          have z : ((w k : Nat) : Int) < 3 := z
          omega
        exact r207 d' Z μ B md hc hr κ q p O eκ m k last x1 hd hm hk ih w pf hH0 hF0 hw hpl hpx hpv hzk hwk hB 0 μ (SV_rf hH0 (fun x z => n9 z.1.1))
      · have h1 := cn_lt.mp h1
        refine z_rcs hc hH 2 (pc' := 158) (lv' := [(6, .int 0), (5, .int (nI k)), (0, .ref 50), (1, .int x1), (2, .int (nI md)), (3, .int (nI p)), (4, .int 1)]) (st' := []) (μ' := μ) (by rfl) ?_
        have h3 : 3 ≤ w k := by
          have z := h1
          rw [Int32.not_lt, Int32.le_iff_toInt_le, nI_toInt (by have := (hw k hk).2; omega)] at z
          have z : (3 : Int) ≤ ((w k : Nat) : Int) := z
          omega
        exact rt3 d' Z μ B md hc hr κ q p O eκ m k x1 0 hm hk ih μ w pf hH0 hF0 hw hpl hpx hpv hzk h3 (fun μ3 h9 => r207 d' Z μ B md hc hr κ q p O eκ m k last x1 hd hm hk ih w pf hH0 hF0 hw hpl hpx hpv hzk hwk hB 0 μ3 (h9.iff (fun x => ⟨fun z => ⟨⟨h3, hx⟩, z⟩, fun z => z.2⟩)))
  refine z_rcs hc hH 1 (pc' := 108) (lv' := [(5, .int (nI k)), (0, .ref 50), (1, .int x1), (2, .int (nI md)), (3, .int (nI p)), (4, .int 1)]) (st' := [.int (nI md)]) (μ' := μ) (by rfl) ?_
  refine zq_if hc hH (by rfl) (tg := 139) (by rfl) (fun h1 => ?_) (fun h1 => ?_)
  · have h1 := cm_le.mp h1
    have n0 : ¬ 0 < md := fun z9 => by
      have z := h1
      rw [Int32.le_iff_toInt_le, nI_toInt (by omega)] at z
      have z : ((md : Nat) : Int) ≤ 0 := z
      omega
    refine z_rcs hc hH 1 (pc' := 140) (lv' := [(5, .int (nI k)), (0, .ref 50), (1, .int x1), (2, .int (nI md)), (3, .int (nI p)), (4, .int 1)]) (st' := [.int 0]) (μ' := μ) (by rfl) ?_
    exact t140 0 (Or.inr ⟨rfl, fun z => n0 (hl.mpr z).1⟩)
  · have h1 := cn_le.mp h1
    have g0 : 0 < md := by
      have z := h1
      rw [Int32.not_le, Int32.lt_iff_toInt_lt, nI_toInt (by omega)] at z
      have z : (0 : Int) < ((md : Nat) : Int) := z
      omega
    have em : nI md - 1 = nI (md - 1) := s_1 md (by omega) (by omega)
    have inm : vp_in (nI (md - 1)) 5 := vp_in_nI (by omega) (by decide)
    refine z_rcs hc hH 5 (pc' := 118) (lv' := [(5, .int (nI k)), (0, .ref 50), (1, .int x1), (2, .int (nI md)), (3, .int (nI p)), (4, .int 1)]) (st' := [.int ((nI md) - 1), .ref 54]) (μ' := μ) (by rfl) ?_
    rw [em]
    refine zq_iald hc hH (by rfl) 5 (by decide +kernel) (inm) ?_
    rw [nI_clamp (n := md - 1) (by omega)]
    refine zq_if hc hH (by rfl) (tg := 139) (by rfl) (fun h2 => ?_) (fun h2 => ?_)
    · have h2 := cm_ne.mp h2
      have n1 := h2
      refine z_rcs hc hH 1 (pc' := 140) (lv' := [(5, .int (nI k)), (0, .ref 50), (1, .int x1), (2, .int (nI md)), (3, .int (nI p)), (4, .int 1)]) (st' := [.int 0]) (μ' := μ) (by rfl) ?_
      exact t140 0 (Or.inr ⟨rfl, fun z => n1 (hl.mpr z).2.1⟩)
    · have h2 := cn_ne.mp h2
      have g1 := h2
      refine z_rcs hc hH 5 (pc' := 129) (lv' := [(5, .int (nI k)), (0, .ref 50), (1, .int x1), (2, .int (nI md)), (3, .int (nI p)), (4, .int 1)]) (st' := [.int ((nI md) - 1), .ref 55]) (μ' := μ) (by rfl) ?_
      rw [em]
      refine zq_iald hc hH (by rfl) 5 (by decide +kernel) (inm) ?_
      rw [nI_clamp (n := md - 1) (by omega)]
      refine z_rcs hc hH 1 (pc' := 132) (lv' := [(5, .int (nI k)), (0, .ref 50), (1, .int x1), (2, .int (nI md)), (3, .int (nI p)), (4, .int 1)]) (st' := [.int (nI k), .int (μ.1 55 (md - 1))]) (μ' := μ) (by rfl) ?_
      refine zq_ic hc hH (by rfl) (tg := 139) (by rfl) (fun h3 => ?_) (fun h3 => ?_)
      · have h3 := cm_ne.mp h3
        have n2 := h3
        refine z_rcs hc hH 1 (pc' := 140) (lv' := [(5, .int (nI k)), (0, .ref 50), (1, .int x1), (2, .int (nI md)), (3, .int (nI p)), (4, .int 1)]) (st' := [.int 0]) (μ' := μ) (by rfl) ?_
        exact t140 0 (Or.inr ⟨rfl, fun z => n2 (hl.mpr z).2.2⟩)
      · have h3 := cn_ne.mp h3
        have g2 := h3
        refine z_rcs hc hH 2 (pc' := 140) (lv' := [(5, .int (nI k)), (0, .ref 50), (1, .int x1), (2, .int (nI md)), (3, .int (nI p)), (4, .int 1)]) (st' := [.int 1]) (μ' := μ) (by rfl) ?_
        exact t140 1 (Or.inl ⟨rfl, hl.mp ⟨g0, g1, g2⟩⟩)
theorem r76 (d' : Nat) (Z : zK) (μ : zM) (B : Q4 → Prop) (md : Nat) (hc : z_clo z_x0 mi_X7_sets (z_C d') Z) (hr : z_ret mi_X7_sets (fun r μ' => r = none ∧ SV md μ μ' B) Z) (κ : zM) (q p : Nat) (O : SL → Q4 → Prop) (eκ : κ.1 50 4 = nI q) (m fr last : Nat) (x1 : Int32) (hd : 1 ≤ d') (hm : md + (m + 1) + q = 4) (ih : ∀ (μ : zM) (w : Nat → Nat) (fr md last : Nat) (pf : SL), a_H μ → a_Fz mdR κ μ → RW μ 51 w → md + m + q = 4 → fr ≤ 34 → (∀ j, j < fr → w j = 0) → (last = 0 ∨ last = fr + 1) → pf.length = md → PX μ pf → PV pf → (∀ k, k < 34 → ((0 < md ∧ μ.1 54 (md - 1) = 0 ∧ μ.1 55 (md - 1) = nI k) ↔ last = k + 1)) → z_C d' mi_X7_sets [.ref 50, .int (nI fr), .int (nI md), .int (nI p), .int 1] μ (fun r μ' => r = none ∧ SV md μ μ' (SS O pf w m last))) (w : Nat → Nat) (pf : SL) (hH0 : a_H μ) (hF0 : a_Fz mdR κ μ) (hw : RW μ 51 w) (hpl : pf.length = md) (hpx : PX μ pf) (hpv : PV pf) (hzf : ∀ j, j < fr → w j = 0) (hla : last = 0 ∨ last = fr + 1) (hB : ∀ x, B x ↔ SS O pf w (m + 1) last x) (hl : ∀ k, k < 34 → ((0 < md ∧ μ.1 54 (md - 1) = 0 ∧ μ.1 55 (md - 1) = nI k) ↔ last = k + 1)) : ∀ n i, i + n = 34 → fr ≤ i → (∀ j, j < i → w j = 0) → Z 0 76 [(5, .int (nI i)), (0, .ref 50), (1, .int x1), (2, .int (nI md)), (3, .int (nI p)), (4, .int 1)] [] μ := by
  have hH := zh_X7_sets
  intro n
  induction n with
  | zero =>
    intro i hi hfi hz
    have hi : i = 34 := by omega
    subst hi
    refine z_rcs hc hH 2 (pc' := 80) (lv' := [(5, .int (nI 34)), (0, .ref 50), (1, .int x1), (2, .int (nI md)), (3, .int (nI p)), (4, .int 1)]) (st' := [.int 34, .int (nI 34)]) (μ' := μ) (by rfl) ?_
    refine zq_ic hc hH (by rfl) (tg := 99) (by rfl) (fun _ => ?_) (fun h9 => (zb_t (ge_nIt (n := 34) (i := 34) (by decide) (by decide)) h9).elim)
    refine z_rcs hc hH 2 (pc' := 103) (lv' := [(5, .int (nI 34)), (0, .ref 50), (1, .int x1), (2, .int (nI md)), (3, .int (nI p)), (4, .int 1)]) (st' := [.int 34, .int (nI 34)]) (μ' := μ) (by rfl) ?_
    refine zq_ic hc hH (by rfl) (tg := 107) (by rfl) (fun h9 => (zb_t h9 (cn_ne.mpr rfl)).elim) (fun _ => ?_)
    exact hr 0 106 _ _ _ none (by decide +kernel) (by rfl) (⟨rfl, SV_rf hH0 (fun x z => SS_e hz ((hB x).mp z))⟩)
  | succ n ihn =>
    intro i hi hfi hz
    have hin : vp_in (nI i) 34 := vp_in_nI (by omega) (by decide)
    refine z_rcs hc hH 2 (pc' := 80) (lv' := [(5, .int (nI i)), (0, .ref 50), (1, .int x1), (2, .int (nI md)), (3, .int (nI p)), (4, .int 1)]) (st' := [.int 34, .int (nI i)]) (μ' := μ) (by rfl) ?_
    refine zq_ic hc hH (by rfl) (tg := 99) (by rfl) (fun h9 => (zb_t h9 (ge_nI (n := 34) (i := i) (by omega) (by decide))).elim) (fun _ => ?_)
    refine z_rcs hc hH 3 (pc' := 89) (lv' := [(5, .int (nI i)), (0, .ref 50), (1, .int x1), (2, .int (nI md)), (3, .int (nI p)), (4, .int 1)]) (st' := [.int (nI i), .ref 51]) (μ' := μ) (by rfl) ?_
    refine zq_iald hc hH (by rfl) 34 (by decide +kernel) (hin) ?_
    rw [nI_clamp (n := i) (by omega), (hw i (by omega)).1]
    refine zq_if hc hH (by rfl) (tg := 99) (by rfl) (fun h1 => ?_) (fun h1 => ?_)
    · have h1 := cm_ne.mp h1
      have wi : w i ≠ 0 := fun e => h1 (by rw [e]; rfl)
      refine z_rcs hc hH 2 (pc' := 103) (lv' := [(5, .int (nI i)), (0, .ref 50), (1, .int x1), (2, .int (nI md)), (3, .int (nI p)), (4, .int 1)]) (st' := [.int 34, .int (nI i)]) (μ' := μ) (by rfl) ?_
      refine zq_ic hc hH (by rfl) (tg := 107) (by rfl) (fun _ => ?_) (fun h9 => (zb_t (cm_ne.mpr (fun z => by have := (nI_eq (a := i) (b := 34) (by omega) (by omega)).mp z; omega)) h9).elim)
      exact r107 d' Z μ B md hc hr κ q p O eκ m i last x1 hd hm (by omega) ih w pf hH0 hF0 hw hpl hpx hpv hz wi (fun x => (hB x).trans (SS_s (by omega) wi hz (by omega))) (hl i (by omega))
    · have h1 := cn_ne.mp h1
      refine z_rcs hc hH 2 (pc' := 76) (lv' := [(5, .int ((nI i) + 1)), (0, .ref 50), (1, .int x1), (2, .int (nI md)), (3, .int (nI p)), (4, .int 1)]) (st' := []) (μ' := μ) (by rfl) ?_
      have wi : w i = 0 := (nI_eq (by have := (hw i (by omega)).2; omega) (by omega)).mp h1
      rw [nI_1]
      exact ihn (i + 1) (by omega) (by omega) (fun j hj => if e : j = i then (by rw [e]; exact wi) else hz j (by omega))
theorem fr_X7_sets (κ : zM) (q p : Nat) (O : SL → Q4 → Prop) (eκ : κ.1 50 4 = nI q) (hq : q ≤ 4) (dw : Nat) (hdw : 1 ≤ dw) (hway : HW dw κ q p O) : ∀ (m d : Nat), m + 1 + dw ≤ d → ∀ (μ : zM) (w : Nat → Nat) (fr md last : Nat) (pf : SL), a_H μ → a_Fz mdR κ μ → RW μ 51 w → md + m + q = 4 → fr ≤ 34 → (∀ j, j < fr → w j = 0) → (last = 0 ∨ last = fr + 1) → pf.length = md → PX μ pf → PV pf → (∀ k, k < 34 → ((0 < md ∧ μ.1 54 (md - 1) = 0 ∧ μ.1 55 (md - 1) = nI k) ↔ last = k + 1)) → z_C d mi_X7_sets [.ref 50, .int (nI fr), .int (nI md), .int (nI p), .int 1] μ (fun r μ' => r = none ∧ SV md μ μ' (SS O pf w m last)) := by
  intro m
  induction m with
  | zero =>
    intro d hd μ w fr md last pf hH0 hF0 hw hm hf hzf hla hpl hpx hpv hl
    have e4 : μ.1 50 4 = nI q := (a_Fz_at hF0 50 4 (by decide)).trans eκ
    refine z_C_in (by decide) (by omega) (fun d' Z ed hc hr => ?_)
    have hH := zh_X7_sets
    refine z_rcs hc hH 5 (pc' := 7) (lv' := [(0, .ref 50), (1, .int (nI fr)), (2, .int (nI md)), (3, .int (nI p)), (4, .int 1)]) (st' := [.int (4 - (μ.1 50 4)), .int (nI md)]) (μ' := μ) (by rfl) ?_
    refine zq_ic hc hH (by rfl) (tg := 73) (by rfl) (fun h9 => (zb_t h9 (cn_ne.mpr (by rw [e4, s_4 q (by omega), show 4 - q = md by omega]))).elim) (fun _ => ?_)
    refine z_rcs hc hH 4 (pc' := 16) (lv' := [(6, .int 0), (5, .int 1), (0, .ref 50), (1, .int (nI fr)), (2, .int (nI md)), (3, .int (nI p)), (4, .int 1)]) (st' := []) (μ' := μ) (by rfl) ?_
    exact re16 d' Z μ _ md hc hr κ q p O eκ dw hway (by omega) _ w pf hH0 hF0 hw hpl (by omega) hpx hpv (fun h x => SS_0 h) (fun h x => SS_n h) 34 0 (by omega) 1 (Or.inl ⟨rfl, fun j hj => absurd hj (by omega)⟩)
  | succ m ih =>
    intro d hd μ w fr md last pf hH0 hF0 hw hm hf hzf hla hpl hpx hpv hl
    have e4 : μ.1 50 4 = nI q := (a_Fz_at hF0 50 4 (by decide)).trans eκ
    refine z_C_in (by decide) (by omega) (fun d' Z ed hc hr => ?_)
    have hH := zh_X7_sets
    refine z_rcs hc hH 5 (pc' := 7) (lv' := [(0, .ref 50), (1, .int (nI fr)), (2, .int (nI md)), (3, .int (nI p)), (4, .int 1)]) (st' := [.int (4 - (μ.1 50 4)), .int (nI md)]) (μ' := μ) (by rfl) ?_
    refine zq_ic hc hH (by rfl) (tg := 73) (by rfl) (fun _ => ?_) (fun h9 => (zb_t (cm_ne.mpr (fun z => by rw [e4, s_4 q (by omega)] at z; have := (nI_eq (by omega) (by omega)).mp z; omega)) h9).elim)
    refine z_rcs hc hH 2 (pc' := 76) (lv' := [(5, .int (nI fr)), (0, .ref 50), (1, .int (nI fr)), (2, .int (nI md)), (3, .int (nI p)), (4, .int 1)]) (st' := []) (μ' := μ) (by rfl) ?_
    exact r76 d' Z μ _ md hc hr κ q p O eκ m fr last _ (by omega) hm (fun μ w fr md last pf a b c e f g h i j k l => ih d' (by omega) μ w fr md last pf a b c e f g h i j k l) w pf hH0 hF0 hw hpl hpx hpv hzf hla (fun x => Iff.rfl) hl (34 - fr) fr (by omega) (Nat.le_refl _) hzf
/-! the reference's reckoning: its leaves -/
/-- a way's SETS as the reference has them -/
noncomputable def AY (μ : zM) (s l : Nat → Nat) : Prop := ∀ i, i < 4 → μ.1 56 i = nI (s i) ∧ s i ≤ 3 ∧ μ.1 57 i = nI (l i) ∧ l i < 34
noncomputable def t4 (s l : Nat → Nat) (c : Nat) : Prop := ∃ j, j < 4 ∧ s j ≠ 0 ∧ l j = c
noncomputable def r4 (s l : Nat → Nat) (c : Nat) : Prop := ∃ j, j < 4 ∧ s j = 0 ∧ l j = c
theorem zh_X7_isDragon : zH mi_X7_isDragon zt_X7_isDragon 79 7 1 := hh_X7_isDragon
theorem fc_X7_isDragon (d : Nat) (hd : 1 ≤ d) (μ : zM) (k : Int32) : z_C d mi_X7_isDragon [.int k] μ (zB μ (¬ k ≤ 30)) := by
  refine z_C_in (by decide) (by omega) (fun d' Z ed hc hr => ?_)
  have hH := zh_X7_isDragon
  refine z_rcs hc hH 2 (pc' := 3) (lv' := [(0, .int k)]) (st' := [.int 30, .int k]) (μ' := μ) (by rfl) ?_
  refine zq_ic hc hH (by rfl) (tg := 10) (by rfl) (fun h1 => ?_) (fun h1 => ?_)
  · have h1 := cm_le.mp h1
    refine z_rcs hc hH 1 (pc' := 11) (lv' := [(0, .int k)]) (st' := [.int 0]) (μ' := μ) (by rfl) ?_
    exact hr 0 11 _ _ _ (some (.int 0)) (by decide +kernel) (z_rx_ok hH (by rfl)) (⟨rfl, Or.inr ⟨rfl, fun q => q h1⟩⟩)
  · have h1 := cn_le.mp h1
    refine z_rcs hc hH 2 (pc' := 11) (lv' := [(0, .int k)]) (st' := [.int 1]) (μ' := μ) (by rfl) ?_
    exact hr 0 11 _ _ _ (some (.int 1)) (by decide +kernel) (z_rx_ok hH (by rfl)) (⟨rfl, Or.inl ⟨rfl, h1⟩⟩)
theorem zh_X7_bit : zH mi_X7_bit zt_X7_bit 79 7 1 := hh_X7_bit
theorem fc_X7_bit (d : Nat) (hd : 1 ≤ d) (μ : zM) (k : Int32) : z_C d mi_X7_bit [.int k] μ (zR μ (.long ((1 : Int64) <<< (k.toInt64 &&& 63)))) := by
  refine z_C_in (by decide) (by omega) (fun d' Z ed hc hr => ?_)
  have hH := zh_X7_bit
  refine z_rcs hc hH 3 (pc' := 3) (lv' := [(0, .int k)]) (st' := [.long (1 <<< (k.toInt64 &&& 63))]) (μ' := μ) (by rfl) ?_
  exact hr 0 3 _ _ _ (some (.long (1 <<< (k.toInt64 &&& 63)))) (by decide +kernel) (z_rx_ok hH (by rfl)) (⟨rfl, rfl⟩)
theorem zh_X7_hasThree : zH mi_X7_hasThree zt_X7_hasThree 79 7 4 := hh_X7_hasThree
theorem fc_X7_hasThree (d : Nat) (hd : 1 ≤ d) (μ : zM) (s l : Nat → Nat) (hA : AY μ s l) (c : Nat) (hcc : c < 100) : z_C d mi_X7_hasThree [.ref 50, .int (nI c)] μ (zB μ (t4 s l c)) := by
  refine z_C_in (by decide) (by omega) (fun d' Z ed hc hr => ?_)
  have hH := zh_X7_hasThree
  have lp : ∀ (n i : Nat), i + n = 4 → ∀ x : Int32, (x = 1 ∧ ∃ j, j < i ∧ (s j ≠ 0 ∧ l j = c)) ∨ (x = 0 ∧ ¬ ∃ j, j < i ∧ (s j ≠ 0 ∧ l j = c)) → Z 0 4 [(3, .int (nI i)), (2, .int x), (0, .ref 50), (1, .int (nI c))] [] μ := by
    intro n
    induction n with
    | zero =>
      intro i hi x hx
      have hi : i = 4 := by omega
      subst hi
      rcases hx with ⟨rfl, hz⟩ | ⟨rfl, hz⟩
      · skip
        refine z_rcs hc hH 2 (pc' := 6) (lv' := [(3, .int (nI 4)), (2, .int 1), (0, .ref 50), (1, .int (nI c))]) (st' := [.int 4, .int (nI 4)]) (μ' := μ) (by rfl) ?_
        refine zq_ic hc hH (by rfl) (tg := 44) (by rfl) (fun _ => ?_) (fun h9 => (zb_t (ge_nIt (n := 4) (i := 4) (by decide) (by decide)) h9).elim)
        refine z_rcs hc hH 1 (pc' := 45) (lv' := [(3, .int (nI 4)), (2, .int 1), (0, .ref 50), (1, .int (nI c))]) (st' := [.int 1]) (μ' := μ) (by rfl) ?_
        exact hr 0 45 _ _ _ (some (.int 1)) (by decide +kernel) (z_rx_ok hH (by rfl)) (⟨rfl, Or.inl ⟨rfl, hz⟩⟩)
      · skip
        refine z_rcs hc hH 2 (pc' := 6) (lv' := [(3, .int (nI 4)), (2, .int 0), (0, .ref 50), (1, .int (nI c))]) (st' := [.int 4, .int (nI 4)]) (μ' := μ) (by rfl) ?_
        refine zq_ic hc hH (by rfl) (tg := 44) (by rfl) (fun _ => ?_) (fun h9 => (zb_t (ge_nIt (n := 4) (i := 4) (by decide) (by decide)) h9).elim)
        refine z_rcs hc hH 1 (pc' := 45) (lv' := [(3, .int (nI 4)), (2, .int 0), (0, .ref 50), (1, .int (nI c))]) (st' := [.int 0]) (μ' := μ) (by rfl) ?_
        exact hr 0 45 _ _ _ (some (.int 0)) (by decide +kernel) (z_rx_ok hH (by rfl)) (⟨rfl, Or.inr ⟨rfl, hz⟩⟩)
    | succ n ih =>
      intro i hi x hx
      have hin : vp_in (nI i) 4 := vp_in_nI (by omega) (by decide)
      have a := hA i (by omega)
      rcases hx with ⟨rfl, hz⟩ | ⟨rfl, hz⟩
      · skip
        refine z_rcs hc hH 2 (pc' := 6) (lv' := [(3, .int (nI i)), (2, .int 1), (0, .ref 50), (1, .int (nI c))]) (st' := [.int 4, .int (nI i)]) (μ' := μ) (by rfl) ?_
        refine zq_ic hc hH (by rfl) (tg := 44) (by rfl) (fun h9 => (zb_t h9 (ge_nI (n := 4) (i := i) (by omega) (by decide))).elim) (fun _ => ?_)
        refine z_rcs hc hH 7 (pc' := 4) (lv' := [(3, .int ((nI i) + 1)), (2, .int 1), (0, .ref 50), (1, .int (nI c))]) (st' := []) (μ' := μ) (by rfl) ?_
        rw [nI_1]
        exact ih (i + 1) (by omega) 1 (Or.inl ⟨rfl, hz.elim fun j hj => ⟨j, by omega, hj.2⟩⟩)
      · skip
        refine z_rcs hc hH 2 (pc' := 6) (lv' := [(3, .int (nI i)), (2, .int 0), (0, .ref 50), (1, .int (nI c))]) (st' := [.int 4, .int (nI i)]) (μ' := μ) (by rfl) ?_
        refine zq_ic hc hH (by rfl) (tg := 44) (by rfl) (fun h9 => (zb_t h9 (ge_nI (n := 4) (i := i) (by omega) (by decide))).elim) (fun _ => ?_)
        refine z_rcs hc hH 5 (pc' := 18) (lv' := [(3, .int (nI i)), (2, .int 0), (0, .ref 50), (1, .int (nI c))]) (st' := [.int (nI i), .ref 56]) (μ' := μ) (by rfl) ?_
        refine zq_iald hc hH (by rfl) 4 (by decide +kernel) (hin) ?_
        rw [nI_clamp (n := i) (by omega), a.1]
        refine zq_if hc hH (by rfl) (tg := 36) (by rfl) (fun h1 => ?_) (fun h1 => ?_)
        · have h1 := cm_eq9.mp h1
          refine z_rcs hc hH 4 (pc' := 4) (lv' := [(3, .int ((nI i) + 1)), (2, .int 0), (0, .ref 50), (1, .int (nI c))]) (st' := []) (μ' := μ) (by rfl) ?_
          rw [nI_1]
          have g : s i = 0 := (nI_eq (by omega) (by decide)).mp h1
          exact ih (i + 1) (by omega) 0 (Or.inr ⟨rfl, fun ⟨j, hj, hp⟩ => if e : j = i then (by rw [e] at hp; exact hp.1 g) else hz ⟨j, by omega, hp⟩⟩)
        · have h1 := cn_eq.mp h1
          refine z_rcs hc hH 3 (pc' := 27) (lv' := [(3, .int (nI i)), (2, .int 0), (0, .ref 50), (1, .int (nI c))]) (st' := [.int (nI i), .ref 57]) (μ' := μ) (by rfl) ?_
          refine zq_iald hc hH (by rfl) 4 (by decide +kernel) (hin) ?_
          rw [nI_clamp (n := i) (by omega), a.2.2.1]
          refine z_rcs hc hH 1 (pc' := 29) (lv' := [(3, .int (nI i)), (2, .int 0), (0, .ref 50), (1, .int (nI c))]) (st' := [.int (nI c), .int (nI (l i))]) (μ' := μ) (by rfl) ?_
          refine zq_ic hc hH (by rfl) (tg := 36) (by rfl) (fun h2 => ?_) (fun h2 => ?_)
          · have h2 := cm_ne.mp h2
            refine z_rcs hc hH 4 (pc' := 4) (lv' := [(3, .int ((nI i) + 1)), (2, .int 0), (0, .ref 50), (1, .int (nI c))]) (st' := []) (μ' := μ) (by rfl) ?_
            rw [nI_1]
            have g : s i ≠ 0 := fun e => h1 (by rw [e]; rfl)
            exact ih (i + 1) (by omega) 0 (Or.inr ⟨rfl, fun ⟨j, hj, hp⟩ => if e : j = i then (by rw [e] at hp; exact h2 (by rw [hp.2])) else hz ⟨j, by omega, hp⟩⟩)
          · have h2 := cn_ne.mp h2
            refine z_rcs hc hH 5 (pc' := 4) (lv' := [(3, .int ((nI i) + 1)), (2, .int 1), (0, .ref 50), (1, .int (nI c))]) (st' := []) (μ' := μ) (by rfl) ?_
            rw [nI_1]
            have g : s i ≠ 0 := fun e => h1 (by rw [e]; rfl)
            exact ih (i + 1) (by omega) 1 (Or.inl ⟨rfl, i, by omega, g, (nI_eq (by omega) (by omega)).mp h2⟩)
  refine z_rcs hc hH 4 (pc' := 4) (lv' := [(3, .int 0), (2, .int 0), (0, .ref 50), (1, .int (nI c))]) (st' := []) (μ' := μ) (by rfl) ?_
  exact lp 4 0 rfl 0 (Or.inr ⟨rfl, fun ⟨j, hj, _⟩ => absurd hj (by omega)⟩)
theorem zh_X7_hasRun : zH mi_X7_hasRun zt_X7_hasRun 79 7 4 := hh_X7_hasRun
theorem fc_X7_hasRun (d : Nat) (hd : 1 ≤ d) (μ : zM) (s l : Nat → Nat) (hA : AY μ s l) (c : Nat) (hcc : c < 100) : z_C d mi_X7_hasRun [.ref 50, .int (nI c)] μ (zB μ (r4 s l c)) := by
  refine z_C_in (by decide) (by omega) (fun d' Z ed hc hr => ?_)
  have hH := zh_X7_hasRun
  have lp : ∀ (n i : Nat), i + n = 4 → ∀ x : Int32, (x = 1 ∧ ∃ j, j < i ∧ (s j = 0 ∧ l j = c)) ∨ (x = 0 ∧ ¬ ∃ j, j < i ∧ (s j = 0 ∧ l j = c)) → Z 0 4 [(3, .int (nI i)), (2, .int x), (0, .ref 50), (1, .int (nI c))] [] μ := by
    intro n
    induction n with
    | zero =>
      intro i hi x hx
      have hi : i = 4 := by omega
      subst hi
      rcases hx with ⟨rfl, hz⟩ | ⟨rfl, hz⟩
      · skip
        refine z_rcs hc hH 2 (pc' := 6) (lv' := [(3, .int (nI 4)), (2, .int 1), (0, .ref 50), (1, .int (nI c))]) (st' := [.int 4, .int (nI 4)]) (μ' := μ) (by rfl) ?_
        refine zq_ic hc hH (by rfl) (tg := 44) (by rfl) (fun _ => ?_) (fun h9 => (zb_t (ge_nIt (n := 4) (i := 4) (by decide) (by decide)) h9).elim)
        refine z_rcs hc hH 1 (pc' := 45) (lv' := [(3, .int (nI 4)), (2, .int 1), (0, .ref 50), (1, .int (nI c))]) (st' := [.int 1]) (μ' := μ) (by rfl) ?_
        exact hr 0 45 _ _ _ (some (.int 1)) (by decide +kernel) (z_rx_ok hH (by rfl)) (⟨rfl, Or.inl ⟨rfl, hz⟩⟩)
      · skip
        refine z_rcs hc hH 2 (pc' := 6) (lv' := [(3, .int (nI 4)), (2, .int 0), (0, .ref 50), (1, .int (nI c))]) (st' := [.int 4, .int (nI 4)]) (μ' := μ) (by rfl) ?_
        refine zq_ic hc hH (by rfl) (tg := 44) (by rfl) (fun _ => ?_) (fun h9 => (zb_t (ge_nIt (n := 4) (i := 4) (by decide) (by decide)) h9).elim)
        refine z_rcs hc hH 1 (pc' := 45) (lv' := [(3, .int (nI 4)), (2, .int 0), (0, .ref 50), (1, .int (nI c))]) (st' := [.int 0]) (μ' := μ) (by rfl) ?_
        exact hr 0 45 _ _ _ (some (.int 0)) (by decide +kernel) (z_rx_ok hH (by rfl)) (⟨rfl, Or.inr ⟨rfl, hz⟩⟩)
    | succ n ih =>
      intro i hi x hx
      have hin : vp_in (nI i) 4 := vp_in_nI (by omega) (by decide)
      have a := hA i (by omega)
      rcases hx with ⟨rfl, hz⟩ | ⟨rfl, hz⟩
      · skip
        refine z_rcs hc hH 2 (pc' := 6) (lv' := [(3, .int (nI i)), (2, .int 1), (0, .ref 50), (1, .int (nI c))]) (st' := [.int 4, .int (nI i)]) (μ' := μ) (by rfl) ?_
        refine zq_ic hc hH (by rfl) (tg := 44) (by rfl) (fun h9 => (zb_t h9 (ge_nI (n := 4) (i := i) (by omega) (by decide))).elim) (fun _ => ?_)
        refine z_rcs hc hH 7 (pc' := 4) (lv' := [(3, .int ((nI i) + 1)), (2, .int 1), (0, .ref 50), (1, .int (nI c))]) (st' := []) (μ' := μ) (by rfl) ?_
        rw [nI_1]
        exact ih (i + 1) (by omega) 1 (Or.inl ⟨rfl, hz.elim fun j hj => ⟨j, by omega, hj.2⟩⟩)
      · skip
        refine z_rcs hc hH 2 (pc' := 6) (lv' := [(3, .int (nI i)), (2, .int 0), (0, .ref 50), (1, .int (nI c))]) (st' := [.int 4, .int (nI i)]) (μ' := μ) (by rfl) ?_
        refine zq_ic hc hH (by rfl) (tg := 44) (by rfl) (fun h9 => (zb_t h9 (ge_nI (n := 4) (i := i) (by omega) (by decide))).elim) (fun _ => ?_)
        refine z_rcs hc hH 5 (pc' := 18) (lv' := [(3, .int (nI i)), (2, .int 0), (0, .ref 50), (1, .int (nI c))]) (st' := [.int (nI i), .ref 56]) (μ' := μ) (by rfl) ?_
        refine zq_iald hc hH (by rfl) 4 (by decide +kernel) (hin) ?_
        rw [nI_clamp (n := i) (by omega), a.1]
        refine zq_if hc hH (by rfl) (tg := 36) (by rfl) (fun h1 => ?_) (fun h1 => ?_)
        · have h1 := cm_ne.mp h1
          refine z_rcs hc hH 4 (pc' := 4) (lv' := [(3, .int ((nI i) + 1)), (2, .int 0), (0, .ref 50), (1, .int (nI c))]) (st' := []) (μ' := μ) (by rfl) ?_
          rw [nI_1]
          have g : s i ≠ 0 := fun e => h1 (by rw [e]; rfl)
          exact ih (i + 1) (by omega) 0 (Or.inr ⟨rfl, fun ⟨j, hj, hp⟩ => if e : j = i then (by rw [e] at hp; exact g hp.1) else hz ⟨j, by omega, hp⟩⟩)
        · have h1 := cn_ne.mp h1
          refine z_rcs hc hH 3 (pc' := 27) (lv' := [(3, .int (nI i)), (2, .int 0), (0, .ref 50), (1, .int (nI c))]) (st' := [.int (nI i), .ref 57]) (μ' := μ) (by rfl) ?_
          refine zq_iald hc hH (by rfl) 4 (by decide +kernel) (hin) ?_
          rw [nI_clamp (n := i) (by omega), a.2.2.1]
          refine z_rcs hc hH 1 (pc' := 29) (lv' := [(3, .int (nI i)), (2, .int 0), (0, .ref 50), (1, .int (nI c))]) (st' := [.int (nI c), .int (nI (l i))]) (μ' := μ) (by rfl) ?_
          refine zq_ic hc hH (by rfl) (tg := 36) (by rfl) (fun h2 => ?_) (fun h2 => ?_)
          · have h2 := cm_ne.mp h2
            refine z_rcs hc hH 4 (pc' := 4) (lv' := [(3, .int ((nI i) + 1)), (2, .int 0), (0, .ref 50), (1, .int (nI c))]) (st' := []) (μ' := μ) (by rfl) ?_
            rw [nI_1]
            have g : s i = 0 := (nI_eq (by omega) (by decide)).mp h1
            exact ih (i + 1) (by omega) 0 (Or.inr ⟨rfl, fun ⟨j, hj, hp⟩ => if e : j = i then (by rw [e] at hp; exact h2 (by rw [hp.2])) else hz ⟨j, by omega, hp⟩⟩)
          · have h2 := cn_ne.mp h2
            refine z_rcs hc hH 5 (pc' := 4) (lv' := [(3, .int ((nI i) + 1)), (2, .int 1), (0, .ref 50), (1, .int (nI c))]) (st' := []) (μ' := μ) (by rfl) ?_
            rw [nI_1]
            have g : s i = 0 := (nI_eq (by omega) (by decide)).mp h1
            exact ih (i + 1) (by omega) 1 (Or.inl ⟨rfl, i, by omega, g, (nI_eq (by omega) (by omega)).mp h2⟩)
  refine z_rcs hc hH 4 (pc' := 4) (lv' := [(3, .int 0), (2, .int 0), (0, .ref 50), (1, .int (nI c))]) (st' := []) (μ' := μ) (by rfl) ?_
  exact lp 4 0 rfl 0 (Or.inr ⟨rfl, fun ⟨j, hj, _⟩ => absurd hj (by omega)⟩)
noncomputable def hid (s : Nat → Nat) (q co : Nat) (dr : Prop) (i : Nat) : Prop := s i = 3 ∨ (q ≤ i ∧ s i = 1 ∧ (dr ∨ co ≠ i))
theorem zh_X7_isHidden : zH mi_X7_isHidden zt_X7_isHidden 79 7 2 := hh_X7_isHidden
theorem fc_X7_isHidden (d : Nat) (hd : 1 ≤ d) (μ : zM) (s l : Nat → Nat) (hA : AY μ s l) (q co i : Nat) (hq : q ≤ 4) (hco : co ≤ 4) (hi : i < 4) (e4 : μ.1 50 4 = nI q) (ec : μ.1 50 22 = nI co) : z_C d mi_X7_isHidden [.ref 50, .int (nI i)] μ (zB μ (hid s q co (¬ μ.1 50 11 = 0) i)) := by
  refine z_C_in (by decide) (by omega) (fun d' Z ed hc hr => ?_)
  have hH := zh_X7_isHidden
  have hin : vp_in (nI i) 4 := vp_in_nI hi (by decide)
  have a := hA i hi
  refine z_rcs hc hH 3 (pc' := 5) (lv' := [(0, .ref 50), (1, .int (nI i))]) (st' := [.int (nI i), .ref 56]) (μ' := μ) (by rfl) ?_
  refine zq_iald hc hH (by rfl) 4 (by decide +kernel) (hin) ?_
  rw [nI_clamp (n := i) (by omega), a.1]
  refine z_rcs hc hH 1 (pc' := 7) (lv' := [(0, .ref 50), (1, .int (nI i))]) (st' := [.int 3, .int (nI (s i))]) (μ' := μ) (by rfl) ?_
  refine zq_ic hc hH (by rfl) (tg := 12) (by rfl) (fun h1 => ?_) (fun h1 => ?_)
  · have h1 := cm_ne.mp h1
    refine z_rcs hc hH 3 (pc' := 17) (lv' := [(0, .ref 50), (1, .int (nI i))]) (st' := [.int (μ.1 50 4), .int (nI i)]) (μ' := μ) (by rfl) ?_
    refine zq_ic hc hH (by rfl) (tg := 49) (by rfl) (fun h2 => ?_) (fun h2 => ?_)
    · have h2 := cm_lt.mp h2
      refine z_rcs hc hH 1 (pc' := 50) (lv' := [(0, .ref 50), (1, .int (nI i))]) (st' := [.int 0]) (μ' := μ) (by rfl) ?_
      have lt : i < q := by
        have z := h2
        rw [e4, Int32.lt_iff_toInt_lt, nI_toInt (by omega), nI_toInt (by omega)] at z
        omega
      exact hr 0 50 _ _ _ (some (.int 0)) (by decide +kernel) (z_rx_ok hH (by rfl)) (⟨rfl, Or.inr ⟨rfl, fun z => z.elim (fun e => h1 (by rw [e]; rfl)) (fun y => absurd y.1 (by omega))⟩⟩)
    · have h2 := cn_lt.mp h2
      refine z_rcs hc hH 3 (pc' := 25) (lv' := [(0, .ref 50), (1, .int (nI i))]) (st' := [.int (nI i), .ref 56]) (μ' := μ) (by rfl) ?_
      refine zq_iald hc hH (by rfl) 4 (by decide +kernel) (hin) ?_
      rw [nI_clamp (n := i) (by omega), a.1]
      refine z_rcs hc hH 1 (pc' := 27) (lv' := [(0, .ref 50), (1, .int (nI i))]) (st' := [.int 1, .int (nI (s i))]) (μ' := μ) (by rfl) ?_
      refine zq_ic hc hH (by rfl) (tg := 49) (by rfl) (fun h3 => ?_) (fun h3 => ?_)
      · have h3 := cm_ne.mp h3
        refine z_rcs hc hH 1 (pc' := 50) (lv' := [(0, .ref 50), (1, .int (nI i))]) (st' := [.int 0]) (μ' := μ) (by rfl) ?_
        have le : q ≤ i := by
          have z := h2
          rw [e4, Int32.not_lt, Int32.le_iff_toInt_le, nI_toInt (by omega), nI_toInt (by omega)] at z
          omega
        exact hr 0 50 _ _ _ (some (.int 0)) (by decide +kernel) (z_rx_ok hH (by rfl)) (⟨rfl, Or.inr ⟨rfl, fun z => z.elim (fun e => h1 (by rw [e]; rfl)) (fun y => h3 (by rw [y.2.1]; rfl))⟩⟩)
      · have h3 := cn_ne.mp h3
        refine z_rcs hc hH 2 (pc' := 34) (lv' := [(0, .ref 50), (1, .int (nI i))]) (st' := [.int (μ.1 50 11)]) (μ' := μ) (by rfl) ?_
        refine zq_if hc hH (by rfl) (tg := 45) (by rfl) (fun h4 => ?_) (fun h4 => ?_)
        · have h4 := cm_ne.mp h4
          refine z_rcs hc hH 2 (pc' := 50) (lv' := [(0, .ref 50), (1, .int (nI i))]) (st' := [.int 1]) (μ' := μ) (by rfl) ?_
          have le : q ≤ i := by
            have z := h2
            rw [e4, Int32.not_lt, Int32.le_iff_toInt_le, nI_toInt (by omega), nI_toInt (by omega)] at z
            omega
          exact hr 0 50 _ _ _ (some (.int 1)) (by decide +kernel) (z_rx_ok hH (by rfl)) (⟨rfl, Or.inl ⟨rfl, Or.inr ⟨le, (nI_eq (by omega) (by decide)).mp h3, Or.inl h4⟩⟩⟩)
        · have h4 := cn_ne.mp h4
          refine z_rcs hc hH 3 (pc' := 42) (lv' := [(0, .ref 50), (1, .int (nI i))]) (st' := [.int (nI i), .int (μ.1 50 22)]) (μ' := μ) (by rfl) ?_
          refine zq_ic hc hH (by rfl) (tg := 49) (by rfl) (fun h5 => ?_) (fun h5 => ?_)
          · have h5 := cm_eq9.mp h5
            refine z_rcs hc hH 1 (pc' := 50) (lv' := [(0, .ref 50), (1, .int (nI i))]) (st' := [.int 0]) (μ' := μ) (by rfl) ?_
            have le : q ≤ i := by
              have z := h2
              rw [e4, Int32.not_lt, Int32.le_iff_toInt_le, nI_toInt (by omega), nI_toInt (by omega)] at z
              omega
            exact hr 0 50 _ _ _ (some (.int 0)) (by decide +kernel) (z_rx_ok hH (by rfl)) (⟨rfl, Or.inr ⟨rfl, fun z => z.elim (fun e => h1 (by rw [e]; rfl)) (fun y => y.2.2.elim (fun u => u h4) (fun u => u ((nI_eq (by omega) (by omega)).mp (ec.symm.trans h5))))⟩⟩)
          · have h5 := cn_eq.mp h5
            refine z_rcs hc hH 2 (pc' := 50) (lv' := [(0, .ref 50), (1, .int (nI i))]) (st' := [.int 1]) (μ' := μ) (by rfl) ?_
            have le : q ≤ i := by
              have z := h2
              rw [e4, Int32.not_lt, Int32.le_iff_toInt_le, nI_toInt (by omega), nI_toInt (by omega)] at z
              omega
            exact hr 0 50 _ _ _ (some (.int 1)) (by decide +kernel) (z_rx_ok hH (by rfl)) (⟨rfl, Or.inl ⟨rfl, Or.inr ⟨le, (nI_eq (by omega) (by decide)).mp h3, Or.inr (fun e => h5 (by rw [ec, e]))⟩⟩⟩)
  · have h1 := cn_ne.mp h1
    refine z_rcs hc hH 1 (pc' := 11) (lv' := [(0, .ref 50), (1, .int (nI i))]) (st' := [.int 1]) (μ' := μ) (by rfl) ?_
    exact hr 0 11 _ _ _ (some (.int 1)) (by decide +kernel) (z_rx_ok hH (by rfl)) (⟨rfl, Or.inl ⟨rfl, Or.inl ((nI_eq (by omega) (by decide)).mp h1)⟩⟩)
theorem zh_X7_isOpen : zH mi_X7_isOpen zt_X7_isOpen 79 7 3 := hh_X7_isOpen
theorem fc_X7_isOpen (d : Nat) (hd : 1 ≤ d) (μ : zM) (q : Nat) (hq : q ≤ 4) (e4 : μ.1 50 4 = nI q) : z_C d mi_X7_isOpen [.ref 50] μ (zB μ (∃ j, j < q ∧ ¬ μ.1 52 j = 3)) := by
  refine z_C_in (by decide) (by omega) (fun d' Z ed hc hr => ?_)
  have hH := zh_X7_isOpen
  have lp : ∀ (n i : Nat), i + n = q → ∀ x : Int32, (x = 1 ∧ ∃ j, j < i ∧ ¬ μ.1 52 j = 3) ∨ (x = 0 ∧ ¬ ∃ j, j < i ∧ ¬ μ.1 52 j = 3) → Z 0 4 [(2, .int (nI i)), (1, .int x), (0, .ref 50)] [] μ := by
    intro n
    induction n with
    | zero =>
      intro i hi x hx
      have hi : i = q := by omega
      subst hi
      rcases hx with ⟨rfl, hz⟩ | ⟨rfl, hz⟩
      · skip
        refine z_rcs hc hH 3 (pc' := 9) (lv' := [(2, .int (nI i)), (1, .int 1), (0, .ref 50)]) (st' := [.int (μ.1 50 4), .int (nI i)]) (μ' := μ) (by rfl) ?_
        refine zq_ic hc hH (by rfl) (tg := 38) (by rfl) (fun _ => ?_) (fun h9 => (zb_t (by rw [e4]; exact ge_nIt (Nat.le_refl _) (by omega)) h9).elim)
        refine z_rcs hc hH 1 (pc' := 39) (lv' := [(2, .int (nI i)), (1, .int 1), (0, .ref 50)]) (st' := [.int 1]) (μ' := μ) (by rfl) ?_
        exact hr 0 39 _ _ _ (some (.int 1)) (by decide +kernel) (z_rx_ok hH (by rfl)) (⟨rfl, Or.inl ⟨rfl, hz⟩⟩)
      · skip
        refine z_rcs hc hH 3 (pc' := 9) (lv' := [(2, .int (nI i)), (1, .int 0), (0, .ref 50)]) (st' := [.int (μ.1 50 4), .int (nI i)]) (μ' := μ) (by rfl) ?_
        refine zq_ic hc hH (by rfl) (tg := 38) (by rfl) (fun _ => ?_) (fun h9 => (zb_t (by rw [e4]; exact ge_nIt (Nat.le_refl _) (by omega)) h9).elim)
        refine z_rcs hc hH 1 (pc' := 39) (lv' := [(2, .int (nI i)), (1, .int 0), (0, .ref 50)]) (st' := [.int 0]) (μ' := μ) (by rfl) ?_
        exact hr 0 39 _ _ _ (some (.int 0)) (by decide +kernel) (z_rx_ok hH (by rfl)) (⟨rfl, Or.inr ⟨rfl, hz⟩⟩)
    | succ n ih =>
      intro i hi x hx
      have hin : vp_in (nI i) 8 := vp_in_nI (by omega) (by decide)
      rcases hx with ⟨rfl, hz⟩ | ⟨rfl, hz⟩
      · skip
        refine z_rcs hc hH 3 (pc' := 9) (lv' := [(2, .int (nI i)), (1, .int 1), (0, .ref 50)]) (st' := [.int (μ.1 50 4), .int (nI i)]) (μ' := μ) (by rfl) ?_
        refine zq_ic hc hH (by rfl) (tg := 38) (by rfl) (fun h9 => (zb_t h9 (by rw [e4]; exact ge_nI (by omega) (by omega))).elim) (fun _ => ?_)
        refine z_rcs hc hH 7 (pc' := 4) (lv' := [(2, .int ((nI i) + 1)), (1, .int 1), (0, .ref 50)]) (st' := []) (μ' := μ) (by rfl) ?_
        rw [nI_1]
        exact ih (i + 1) (by omega) 1 (Or.inl ⟨rfl, hz.elim fun j hj => ⟨j, by omega, hj.2⟩⟩)
      · skip
        refine z_rcs hc hH 3 (pc' := 9) (lv' := [(2, .int (nI i)), (1, .int 0), (0, .ref 50)]) (st' := [.int (μ.1 50 4), .int (nI i)]) (μ' := μ) (by rfl) ?_
        refine zq_ic hc hH (by rfl) (tg := 38) (by rfl) (fun h9 => (zb_t h9 (by rw [e4]; exact ge_nI (by omega) (by omega))).elim) (fun _ => ?_)
        refine z_rcs hc hH 5 (pc' := 21) (lv' := [(2, .int (nI i)), (1, .int 0), (0, .ref 50)]) (st' := [.int (nI i), .ref 52]) (μ' := μ) (by rfl) ?_
        refine zq_iald hc hH (by rfl) 8 (by decide +kernel) (hin) ?_
        rw [nI_clamp (n := i) (by omega)]
        refine z_rcs hc hH 1 (pc' := 23) (lv' := [(2, .int (nI i)), (1, .int 0), (0, .ref 50)]) (st' := [.int 3, .int (μ.1 52 i)]) (μ' := μ) (by rfl) ?_
        refine zq_ic hc hH (by rfl) (tg := 30) (by rfl) (fun h1 => ?_) (fun h1 => ?_)
        · have h1 := cm_eq9.mp h1
          refine z_rcs hc hH 4 (pc' := 4) (lv' := [(2, .int ((nI i) + 1)), (1, .int 0), (0, .ref 50)]) (st' := []) (μ' := μ) (by rfl) ?_
          rw [nI_1]
          exact ih (i + 1) (by omega) 0 (Or.inr ⟨rfl, fun ⟨j, hj, hp⟩ => if e : j = i then (by rw [e] at hp; exact hp h1) else hz ⟨j, by omega, hp⟩⟩)
        · have h1 := cn_eq.mp h1
          refine z_rcs hc hH 5 (pc' := 4) (lv' := [(2, .int ((nI i) + 1)), (1, .int 1), (0, .ref 50)]) (st' := []) (μ' := μ) (by rfl) ?_
          rw [nI_1]
          exact ih (i + 1) (by omega) 1 (Or.inl ⟨rfl, i, by omega, h1⟩)
  refine z_rcs hc hH 4 (pc' := 4) (lv' := [(2, .int 0), (1, .int 0), (0, .ref 50)]) (st' := []) (μ' := μ) (by rfl) ?_
  exact lp q 0 (by omega) 0 (Or.inr ⟨rfl, fun ⟨j, hj, _⟩ => absurd hj (by omega)⟩)
/-! like RUNS, ends in each SET: as the reference has them -/
/-- a form's bit -/
noncomputable abbrev fbt (f : Nat) : Int64 := (1 : Int64) <<< ((nI f).toInt64 &&& 63)
noncomputable def orb (x : Int64) (c : Prop) (f : Nat) : Int64 := @ite Int64 c (Classical.propDecidable c) (x ||| fbt f) x
theorem orb_t {x : Int64} {c : Prop} {f : Nat} (h : c) : orb x c f = x ||| fbt f := by unfold orb; rw [if_pos h]
theorem orb_f {x : Int64} {c : Prop} {f : Nat} (h : ¬ c) : orb x c f = x := by unfold orb; rw [if_neg h]
/-- only GREAT and plain forms change -/
noncomputable def LG (μ μ' : zM) (g pl : Int64) : Prop := μ'.1 = μ.1 ∧ μ'.2.1 50 24 = g ∧ μ'.2.1 50 25 = pl ∧ a_Fz [(50, 24), (50, 25)] μ μ'
theorem z_uj_1 (μ : zM) (r k : Nat) (x : Int64) : (z_uj μ r k x).1 = μ.1 := rfl
theorem z_uj_rd (μ : zM) (r k : Nat) (x : Int64) (r' k' : Nat) : (z_uj μ r k x).2.1 r' k' = if r' = r ∧ k' = k then x else μ.2.1 r' k' := by
  by_cases h : r' = r ∧ k' = k
  · rw [if_pos h, h.1, h.2, z_uj_at]
    exact if_pos rfl
  · rw [if_neg h]
    by_cases hr : r' = r
    · subst hr
      rw [z_uj_at, if_neg (fun e => h ⟨rfl, e⟩)]
    · rw [z_uj_ne hr]
theorem LG_rf (μ : zM) : LG μ μ (μ.2.1 50 24) (μ.2.1 50 25) := ⟨rfl, rfl, rfl, a_Fz_rf _ _⟩
theorem LG.pl {μ μ' : zM} {g pl x : Int64} (h : LG μ μ' g pl) : LG μ (z_uj μ' 50 25 x) g x := ⟨(z_uj_1 _ _ _ _).trans h.1, by rw [z_uj_rd, if_neg (by omega)]; exact h.2.1, by rw [z_uj_rd, if_pos ⟨rfl, rfl⟩], a_Fz_uj h.2.2.2 (by decide)⟩
theorem LG.gr {μ μ' : zM} {g pl x : Int64} (h : LG μ μ' g pl) : LG μ (z_uj μ' 50 24 x) x pl := ⟨(z_uj_1 _ _ _ _).trans h.1, by rw [z_uj_rd, if_pos ⟨rfl, rfl⟩], by rw [z_uj_rd, if_neg (by omega)]; exact h.2.2.1, a_Fz_uj h.2.2.2 (by decide)⟩
theorem AY.k {μ μ' : zM} {s l : Nat → Nat} (h : AY μ s l) (e : μ'.1 = μ.1) : AY μ' s l := fun i hi => by rw [e]; exact h i hi
/-- like RUNS -/
noncomputable def nr4 (s l : Nat → Nat) (c n : Nat) : Nat := cn (fun i => decide (s i = 0 ∧ l i = c)) n
noncomputable def twn (s l : Nat → Nat) (n : Nat) : Nat := sn (fun c => nr4 s l c 4 / 2) n
theorem cn_ub (b : Nat → Bool) : ∀ n, cn b n ≤ n := by
  intro n
  induction n with
  | zero => exact Nat.le_refl _
  | succ n ih => show cn b n + (if b n = true then 1 else 0) ≤ n + 1; split <;> omega
theorem d_2 : ∀ a, a < 5 → nI a / 2 = nI (a / 2) := by decide +kernel
theorem zh_X7_twins : zH mi_X7_twins zt_X7_twins 79 7 5 := hh_X7_twins
theorem tw15 (d' : Nat) (Z : zK) (hd : 1 ≤ d') (μ : zM) (s l : Nat → Nat) (hA : AY μ s l) (hc : z_clo z_x0 mi_X7_twins (z_C d') Z) (c : Nat) (hcc : c < 27) (x1 : Int32) (K : Z 0 56 [(4, .int (nI 4)), (3, .int (nI (nr4 s l c 4))), (2, .int (nI c)), (1, .int x1), (0, .ref 50)] [] μ) : ∀ n i, i + n = 4 → Z 0 15 [(4, .int (nI i)), (3, .int (nI (nr4 s l c i))), (2, .int (nI c)), (1, .int x1), (0, .ref 50)] [] μ := by
  have hH := zh_X7_twins
  intro n
  induction n with
  | zero =>
    intro i hi
    have hi : i = 4 := by omega
    subst hi
    refine z_rcs hc hH 2 (pc' := 18) (lv' := [(4, .int (nI 4)), (3, .int (nI (nr4 s l c 4))), (2, .int (nI c)), (1, .int x1), (0, .ref 50)]) (st' := [.int 4, .int (nI 4)]) (μ' := μ) (by rfl) ?_
    refine zq_ic hc hH (by rfl) (tg := 56) (by rfl) (fun _ => ?_) (fun h9 => (zb_t (ge_nIt (n := 4) (i := 4) (by decide) (by decide)) h9).elim)
    exact K
  | succ n ih =>
    intro i hi
    have hin : vp_in (nI i) 4 := vp_in_nI (by omega) (by decide)
    have a := hA i (by omega)
    have e : nr4 s l c (i + 1) = nr4 s l c i + (if decide (s i = 0 ∧ l i = c) = true then 1 else 0) := rfl
    refine z_rcs hc hH 2 (pc' := 18) (lv' := [(4, .int (nI i)), (3, .int (nI (nr4 s l c i))), (2, .int (nI c)), (1, .int x1), (0, .ref 50)]) (st' := [.int 4, .int (nI i)]) (μ' := μ) (by rfl) ?_
    refine zq_ic hc hH (by rfl) (tg := 56) (by rfl) (fun h9 => (zb_t h9 (ge_nI (n := 4) (i := i) (by omega) (by decide))).elim) (fun _ => ?_)
    refine z_rcs hc hH 4 (pc' := 28) (lv' := [(4, .int (nI i)), (3, .int (nI (nr4 s l c i))), (2, .int (nI c)), (1, .int x1), (0, .ref 50)]) (st' := [.int (nI i), .ref 56, .int (nI (nr4 s l c i))]) (μ' := μ) (by rfl) ?_
    refine zq_iald hc hH (by rfl) 4 (by decide +kernel) (hin) ?_
    rw [nI_clamp (n := i) (by omega), a.1]
    refine zq_if hc hH (by rfl) (tg := 47) (by rfl) (fun h1 => ?_) (fun h1 => ?_)
    · have h1 := cm_ne.mp h1
      refine z_rcs hc hH 2 (pc' := 49) (lv' := [(4, .int (nI i)), (3, .int (nI (nr4 s l c i))), (2, .int (nI c)), (1, .int x1), (0, .ref 50)]) (st' := [.int ((nI (nr4 s l c i)) + 0)]) (μ' := μ) (by rfl) ?_
      rw [if_neg (by rw [decide_eq_true_iff]; exact fun z => h1 (by rw [z.1]; rfl))] at e
      rw [Int32.add_zero, ← show nr4 s l c (i + 1) = nr4 s l c i from e]
      refine z_rcs hc hH 3 (pc' := 15) (lv' := [(4, .int ((nI i) + 1)), (3, .int (nI (nr4 s l c (i + 1)))), (2, .int (nI c)), (1, .int x1), (0, .ref 50)]) (st' := []) (μ' := μ) (by rfl) ?_
      rw [nI_1]
      exact ih (i + 1) (by omega)
    · have h1 := cn_ne.mp h1
      refine z_rcs hc hH 3 (pc' := 38) (lv' := [(4, .int (nI i)), (3, .int (nI (nr4 s l c i))), (2, .int (nI c)), (1, .int x1), (0, .ref 50)]) (st' := [.int (nI i), .ref 57, .int (nI (nr4 s l c i))]) (μ' := μ) (by rfl) ?_
      refine zq_iald hc hH (by rfl) 4 (by decide +kernel) (hin) ?_
      rw [nI_clamp (n := i) (by omega), a.2.2.1]
      refine z_rcs hc hH 1 (pc' := 40) (lv' := [(4, .int (nI i)), (3, .int (nI (nr4 s l c i))), (2, .int (nI c)), (1, .int x1), (0, .ref 50)]) (st' := [.int (nI c), .int (nI (l i)), .int (nI (nr4 s l c i))]) (μ' := μ) (by rfl) ?_
      refine zq_ic hc hH (by rfl) (tg := 47) (by rfl) (fun h2 => ?_) (fun h2 => ?_)
      · have h2 := cm_ne.mp h2
        refine z_rcs hc hH 2 (pc' := 49) (lv' := [(4, .int (nI i)), (3, .int (nI (nr4 s l c i))), (2, .int (nI c)), (1, .int x1), (0, .ref 50)]) (st' := [.int ((nI (nr4 s l c i)) + 0)]) (μ' := μ) (by rfl) ?_
        rw [if_neg (by rw [decide_eq_true_iff]; exact fun z => h2 (by rw [z.2]))] at e
        rw [Int32.add_zero, ← show nr4 s l c (i + 1) = nr4 s l c i from e]
        refine z_rcs hc hH 3 (pc' := 15) (lv' := [(4, .int ((nI i) + 1)), (3, .int (nI (nr4 s l c (i + 1)))), (2, .int (nI c)), (1, .int x1), (0, .ref 50)]) (st' := []) (μ' := μ) (by rfl) ?_
        rw [nI_1]
        exact ih (i + 1) (by omega)
      · have h2 := cn_ne.mp h2
        refine z_rcs hc hH 3 (pc' := 49) (lv' := [(4, .int (nI i)), (3, .int (nI (nr4 s l c i))), (2, .int (nI c)), (1, .int x1), (0, .ref 50)]) (st' := [.int ((nI (nr4 s l c i)) + 1)]) (μ' := μ) (by rfl) ?_
        rw [if_pos (decide_eq_true ⟨(nI_eq (show s i < 2 ^ 31 by omega) (show 0 < 2 ^ 31 by decide)).mp h1, (nI_eq (by omega) (by omega)).mp h2⟩)] at e
        rw [nI_1, ← e]
        refine z_rcs hc hH 3 (pc' := 15) (lv' := [(4, .int ((nI i) + 1)), (3, .int (nI (nr4 s l c (i + 1)))), (2, .int (nI c)), (1, .int x1), (0, .ref 50)]) (st' := []) (μ' := μ) (by rfl) ?_
        rw [nI_1]
        exact ih (i + 1) (by omega)
theorem tw4 (d' : Nat) (Z : zK) (hd : 1 ≤ d') (μ : zM) (s l : Nat → Nat) (hA : AY μ s l) (hc : z_clo z_x0 mi_X7_twins (z_C d') Z) (K : ∀ x3, Z 0 68 [(2, .int (nI 27)), (1, .int (nI (twn s l 27))), (4, .int (nI 4)), (3, .int x3), (0, .ref 50)] [] μ) : ∀ n c, c + n = 27 → (0 < c → ∀ x3, Z 0 4 [(2, .int (nI c)), (1, .int (nI (twn s l c))), (4, .int (nI 4)), (3, .int x3), (0, .ref 50)] [] μ) ∧ (c = 0 → Z 0 4 [(2, .int (nI 0)), (1, .int (nI 0)), (0, .ref 50)] [] μ) := by
  have hH := zh_X7_twins
  intro n
  induction n with
  | zero =>
    intro c hc0
    have hc0 : c = 27 := by omega
    subst hc0
    refine ⟨fun _ x3 => ?_, fun e => absurd e (by decide)⟩
    refine z_rcs hc hH 2 (pc' := 7) (lv' := [(2, .int (nI 27)), (1, .int (nI (twn s l 27))), (4, .int (nI 4)), (3, .int x3), (0, .ref 50)]) (st' := [.int 27, .int (nI 27)]) (μ' := μ) (by rfl) ?_
    refine zq_ic hc hH (by rfl) (tg := 68) (by rfl) (fun _ => ?_) (fun h9 => (zb_t (ge_nIt (n := 27) (i := 27) (by decide) (by decide)) h9).elim)
    exact K x3
  | succ n ih =>
    intro c hc0
    have ub := cn_ub (fun i => decide (s i = 0 ∧ l i = c)) 4
    have bd : Z 0 15 [(4, .int (nI 0)), (3, .int (nI 0)), (2, .int (nI c)), (1, .int (nI (twn s l c))), (0, .ref 50)] [] μ := by
      refine tw15 d' Z hd μ s l hA hc c (by omega) (nI (twn s l c)) ?_ 4 0 (by omega)
      refine z_rcs hc hH 4 (pc' := 60) (lv' := [(4, .int (nI 4)), (3, .int (nI (nr4 s l c 4))), (2, .int (nI c)), (1, .int (nI (twn s l c))), (0, .ref 50)]) (st' := [.int ((nI (nr4 s l c 4)) / 2), .int (nI (twn s l c))]) (μ' := μ) (by rfl) ?_
      rw [d_2 (nr4 s l c 4) (by show cn _ 4 < 5; omega)]
      refine z_rcs hc hH 1 (pc' := 61) (lv' := [(4, .int (nI 4)), (3, .int (nI (nr4 s l c 4))), (2, .int (nI c)), (1, .int (nI (twn s l c))), (0, .ref 50)]) (st' := [.int ((nI (twn s l c)) + (nI (nr4 s l c 4 / 2)))]) (μ' := μ) (by rfl) ?_
      rw [nI_add]
      refine z_rcs hc hH 3 (pc' := 4) (lv' := [(2, .int ((nI c) + 1)), (1, .int (nI (twn s l c + nr4 s l c 4 / 2))), (4, .int (nI 4)), (3, .int (nI (nr4 s l c 4))), (0, .ref 50)]) (st' := []) (μ' := μ) (by rfl) ?_
      rw [nI_1]
      exact (ih (c + 1) (by omega)).1 (by omega) _
    refine ⟨fun _ x3 => ?_, fun e => ?_⟩
    · skip
      refine z_rcs hc hH 2 (pc' := 7) (lv' := [(2, .int (nI c)), (1, .int (nI (twn s l c))), (4, .int (nI 4)), (3, .int x3), (0, .ref 50)]) (st' := [.int 27, .int (nI c)]) (μ' := μ) (by rfl) ?_
      refine zq_ic hc hH (by rfl) (tg := 68) (by rfl) (fun h9 => (zb_t h9 (ge_nI (n := 27) (i := c) (by omega) (by decide))).elim) (fun _ => ?_)
      refine z_rcs hc hH 4 (pc' := 15) (lv' := [(4, .int 0), (3, .int 0), (2, .int (nI c)), (1, .int (nI (twn s l c))), (0, .ref 50)]) (st' := []) (μ' := μ) (by rfl) ?_
      exact bd
    · subst e
      refine z_rcs hc hH 2 (pc' := 7) (lv' := [(2, .int (nI 0)), (1, .int (nI 0)), (0, .ref 50)]) (st' := [.int 27, .int (nI 0)]) (μ' := μ) (by rfl) ?_
      refine zq_ic hc hH (by rfl) (tg := 68) (by rfl) (fun h9 => (zb_t h9 (ge_nI (n := 27) (i := 0) (by omega) (by decide))).elim) (fun _ => ?_)
      refine z_rcs hc hH 4 (pc' := 15) (lv' := [(4, .int 0), (3, .int 0), (2, .int (nI 0)), (1, .int (nI 0)), (0, .ref 50)]) (st' := []) (μ' := μ) (by rfl) ?_
      exact bd
theorem tw_ub (s l : Nat → Nat) : twn s l 27 < 1000 := by
  have := sn_ub (w := fun c => nr4 s l c 4 / 2) (c := 4) 27 (fun k _ => by have := cn_ub (fun i => decide (s i = 0 ∧ l i = k)) 4; show cn _ 4 / 2 ≤ 4; omega)
  unfold twn
  omega
theorem fc_X7_twins (d : Nat) (hd : 2 ≤ d) (μ : zM) (s l : Nat → Nat) (hA : AY μ s l) : z_C d mi_X7_twins [.ref 50] μ (fun r μ' => r = none ∧ LG μ μ' (μ.2.1 50 24) (orb (orb (μ.2.1 50 25) (twn s l 27 = 1) 10) (twn s l 27 = 2) 28)) := by
  refine z_C_in (by decide) (by omega) (fun d' Z ed hc hr => ?_)
  have hH := zh_X7_twins
  have ub := tw_ub s l
  refine z_rcs hc hH 4 (pc' := 4) (lv' := [(2, .int 0), (1, .int 0), (0, .ref 50)]) (st' := []) (μ' := μ) (by rfl) ?_
  refine (tw4 d' Z (by omega) μ s l hA hc (fun x3 => ?_) 27 0 (by omega)).2 rfl
  have t87 : ∀ μ1, LG μ μ1 (μ.2.1 50 24) (orb (μ.2.1 50 25) (twn s l 27 = 1) 10) → Z 0 87 [(2, .int (nI 27)), (1, .int (nI (twn s l 27))), (4, .int (nI 4)), (3, .int x3), (0, .ref 50)] [] μ1 := by
    intro μ1 g1
    refine z_rcs hc hH 2 (pc' := 89) (lv' := [(2, .int (nI 27)), (1, .int (nI (twn s l 27))), (4, .int (nI 4)), (3, .int x3), (0, .ref 50)]) (st' := [.int 2, .int (nI (twn s l 27))]) (μ' := μ1) (by rfl) ?_
    refine zq_ic hc hH (by rfl) (tg := 106) (by rfl) (fun h1 => ?_) (fun h1 => ?_)
    · have h1 := cm_ne.mp h1
      exact hr 0 106 _ _ _ none (by decide +kernel) (by rfl) (⟨rfl, by rw [orb_f (fun e => h1 (by rw [e]; rfl))]; exact g1⟩)
    · have h1 := cn_ne.mp h1
      refine z_rcs hc hH 3 (pc' := 97) (lv' := [(2, .int (nI 27)), (1, .int (nI (twn s l 27))), (4, .int (nI 4)), (3, .int x3), (0, .ref 50)]) (st' := [.long (μ1.2.1 50 25), .ref 50]) (μ' := μ1) (by rfl) ?_
      rw [g1.2.2.1]
      refine z_rcs hc hH 1 (pc' := 99) (lv' := [(2, .int (nI 27)), (1, .int (nI (twn s l 27))), (4, .int (nI 4)), (3, .int x3), (0, .ref 50)]) (st' := [.int 28, .long (orb (μ.2.1 50 25) (twn s l 27 = 1) 10), .ref 50]) (μ' := μ1) (by rfl) ?_
      refine zq_call hc (z_cx_ok hH (by rfl)) (fc_X7_bit d' (by omega) μ1 28) (by decide +kernel) (fun r9 μ9 hq => ?_)
      obtain ⟨hμ9, rfl⟩ := hq
      rw [hμ9]
      clear hμ9 μ9
      show Z 0 102 [(2, .int (nI 27)), (1, .int (nI (twn s l 27))), (4, .int (nI 4)), (3, .int x3), (0, .ref 50)] [.long (fbt 28), .long (orb (μ.2.1 50 25) (twn s l 27 = 1) 10), .ref 50] μ1
      refine z_rcs hc hH 2 (pc' := 106) (lv' := [(2, .int (nI 27)), (1, .int (nI (twn s l 27))), (4, .int (nI 4)), (3, .int x3), (0, .ref 50)]) (st' := []) (μ' := z_uj μ1 50 25 ((orb (μ.2.1 50 25) (twn s l 27 = 1) 10) ||| (fbt 28))) (by rfl) ?_
      have e2 : twn s l 27 = 2 := (nI_eq (by omega) (by decide)).mp h1
      exact hr 0 106 _ _ _ none (by decide +kernel) (by rfl) (⟨rfl, by rw [orb_t e2]; exact g1.pl⟩)
  refine z_rcs hc hH 2 (pc' := 70) (lv' := [(2, .int (nI 27)), (1, .int (nI (twn s l 27))), (4, .int (nI 4)), (3, .int x3), (0, .ref 50)]) (st' := [.int 1, .int (nI (twn s l 27))]) (μ' := μ) (by rfl) ?_
  refine zq_ic hc hH (by rfl) (tg := 87) (by rfl) (fun h1 => ?_) (fun h1 => ?_)
  · have h1 := cm_ne.mp h1
    exact t87 _ (by rw [orb_f (fun e => h1 (by rw [e]; rfl))]; exact LG_rf μ)
  · have h1 := cn_ne.mp h1
    refine z_rcs hc hH 4 (pc' := 80) (lv' := [(2, .int (nI 27)), (1, .int (nI (twn s l 27))), (4, .int (nI 4)), (3, .int x3), (0, .ref 50)]) (st' := [.int 10, .long (μ.2.1 50 25), .ref 50]) (μ' := μ) (by rfl) ?_
    refine zq_call hc (z_cx_ok hH (by rfl)) (fc_X7_bit d' (by omega) μ 10) (by decide +kernel) (fun r9 μ9 hq => ?_)
    obtain ⟨hμ9, rfl⟩ := hq
    rw [hμ9]
    clear hμ9 μ9
    show Z 0 83 [(2, .int (nI 27)), (1, .int (nI (twn s l 27))), (4, .int (nI 4)), (3, .int x3), (0, .ref 50)] [.long (fbt 10), .long (μ.2.1 50 25), .ref 50] μ
    refine z_rcs hc hH 2 (pc' := 87) (lv' := [(2, .int (nI 27)), (1, .int (nI (twn s l 27))), (4, .int (nI 4)), (3, .int x3), (0, .ref 50)]) (st' := []) (μ' := z_uj μ 50 25 ((μ.2.1 50 25) ||| (fbt 10))) (by rfl) ?_
    have e1 : twn s l 27 = 1 := (nI_eq (by omega) (by decide)).mp h1
    exact t87 _ (by rw [orb_t e1]; exact (LG_rf μ).pl)

/-! the reference: how tiles fall apart, exactly -/
set_option maxRecDepth 8000
noncomputable abbrev mdR : List (Nat × Nat) := [(50, 13), (50, 14), (50, 15), (50, 16), (50, 17), (50, 18), (50, 21), (50, 22), (50, 23), (50, 24), (50, 25), (51, 9999), (54, 9999), (55, 9999), (56, 9999), (57, 9999)]
noncomputable abbrev mdY : List (Nat × Nat) := [(50, 13), (50, 14), (50, 15), (50, 16), (50, 17), (50, 21), (50, 22), (50, 23), (50, 24), (50, 25), (56, 9999), (57, 9999)]
/-- the reference's best -/
noncomputable def bq (μ : zM) : Q4 := (μ.1 50 13, μ.1 50 14, μ.1 50 15, μ.2.1 50 17)
theorem bq_ui {μ : zM} {r k : Nat} {x : Int32} (h : r ≠ 50) : bq (z_ui μ r k x) = bq μ := by
  unfold bq
  rw [z_ui_rd, if_neg (fun z => h z.1.symm), z_ui_rd, if_neg (fun z => h z.1.symm), z_ui_rd, if_neg (fun z => h z.1.symm), z_ui_2]
theorem bq_18 {μ : zM} {x : Int32} : bq (z_ui μ 50 18 x) = bq μ := by
  unfold bq
  rw [z_ui_rd, if_neg (by omega), z_ui_rd, if_neg (by omega), z_ui_rd, if_neg (by omega), z_ui_2]
noncomputable def SV (md : Nat) (μ μ' : zM) (S : Q4 → Prop) : Prop := (∀ j, μ'.1 51 j = μ.1 51 j) ∧ (∀ i, i < md → μ'.1 54 i = μ.1 54 i ∧ μ'.1 55 i = μ.1 55 i) ∧ a_Fz mdR μ μ' ∧ a_H μ' ∧ BS S (bq μ) (bq μ')
theorem SV_rf {md : Nat} {μ : zM} {S : Q4 → Prop} (h : a_H μ) (hb : ∀ x, ¬ S x) : SV md μ μ S := ⟨fun _ => rfl, fun _ _ => ⟨rfl, rfl⟩, a_Fz_rf _ _, h, BS_rf hb⟩
theorem SV.tr {md : Nat} {μ μ1 μ2 : zM} {A B : Q4 → Prop} (h1 : SV md μ μ1 A) (h2 : SV md μ1 μ2 B) : SV md μ μ2 (fun x => A x ∨ B x) := ⟨fun j => (h2.1 j).trans (h1.1 j), fun i hi => ⟨(h2.2.1 i hi).1.trans (h1.2.1 i hi).1, (h2.2.1 i hi).2.trans (h1.2.1 i hi).2⟩, a_Fz_tr (by decide +kernel) h1.2.2.1 h2.2.2.1, h2.2.2.2.1, h1.2.2.2.2.tr h2.2.2.2.2⟩
theorem SV.iff {md : Nat} {μ μ1 : zM} {A B : Q4 → Prop} (h : SV md μ μ1 A) (e : ∀ x, A x ↔ B x) : SV md μ μ1 B := ⟨h.1, h.2.1, h.2.2.1, h.2.2.2.1, h.2.2.2.2.iff e⟩
theorem SV.rw {md : Nat} {μ μ' : zM} {S : Q4 → Prop} {w : Nat → Nat} (h : SV md μ μ' S) (hw : RW μ 51 w) : RW μ' 51 w := fun k hk => by rw [h.1]; exact hw k hk
noncomputable def PX (μ : zM) (pf : SL) : Prop := ∀ i, i < pf.length → μ.1 54 i = nI (pf.getD i (0, 0)).1 ∧ μ.1 55 i = nI (pf.getD i (0, 0)).2
noncomputable def PV (pf : SL) : Prop := ∀ x ∈ pf, x.1 ≤ 1 ∧ x.2 < 34 ∧ (x.1 = 0 → rs x.2)
theorem SV.px {md : Nat} {μ μ' : zM} {S : Q4 → Prop} {pf : SL} (h : SV md μ μ' S) (hl : pf.length = md) (hp : PX μ pf) : PX μ' pf := fun i hi => by rw [(h.2.1 i (by omega)).1, (h.2.1 i (by omega)).2]; exact hp i hi
theorem PX_add {μ μ' : zM} {pf : SL} {a k : Nat} (hp : PX μ pf) (h : ∀ i, i < pf.length → μ'.1 54 i = μ.1 54 i ∧ μ'.1 55 i = μ.1 55 i) (h4 : μ'.1 54 pf.length = nI a) (h5 : μ'.1 55 pf.length = nI k) : PX μ' (pf ++ [(a, k)]) := by
  intro i hi
  rw [List.length_append] at hi
  have hi : i < pf.length + 1 := hi
  by_cases e : i = pf.length
  · subst e
    have e9 : (pf ++ [(a, k)]).getD pf.length (0, 0) = (a, k) := by rw [List.getD_eq_getElem?_getD, List.getElem?_append_right (Nat.le_refl _), Nat.sub_self]; rfl
    rw [h4, h5, e9]
    exact ⟨rfl, rfl⟩
  · have e9 : (pf ++ [(a, k)]).getD i (0, 0) = pf.getD i (0, 0) := by rw [List.getD_eq_getElem?_getD, List.getElem?_append_left (by omega), ← List.getD_eq_getElem?_getD]
    rw [(h i (by omega)).1, (h i (by omega)).2, e9]
    exact hp i (by omega)
theorem PV_add {pf : SL} {a k : Nat} (h : PV pf) (h1 : a ≤ 1) (h2 : k < 34) (h3 : a = 0 → rs k) : PV (pf ++ [(a, k)]) := fun x hx => by
  rcases List.mem_append.mp hx with q | q
  · exact h x q
  · rw [List.mem_singleton.mp q]; exact ⟨h1, h2, h3⟩
/-- one way is reckoned -/
noncomputable def HW (dw : Nat) (μ0 : zM) (q p : Nat) (O : SL → Q4 → Prop) : Prop := ∀ (d : Nat) (μ : zM) (sl : SL), dw ≤ d → a_H μ → a_Fz mdR μ0 μ → sl.length + q = 4 → PX μ sl → PV sl → z_C d mi_X7_way [.ref 50, .int (nI p)] μ (fun r μ' => r = none ∧ a_H μ' ∧ a_Fz mdY μ μ' ∧ BS (O sl) (bq μ) (bq μ'))
theorem rt3 (d' : Nat) (Z : zK) (μ : zM) (B : Q4 → Prop) (md : Nat) (hc : z_clo z_x0 mi_X7_sets (z_C d') Z) (hr : z_ret mi_X7_sets (fun r μ' => r = none ∧ SV md μ μ' B) Z) (κ : zM) (q p : Nat) (O : SL → Q4 → Prop) (eκ : κ.1 50 4 = nI q) (m k : Nat) (x1 x6 : Int32) (hm : md + (m + 1) + q = 4) (hk : k < 34) (ih : ∀ (μ : zM) (w : Nat → Nat) (fr md last : Nat) (pf : SL), a_H μ → a_Fz mdR κ μ → RW μ 51 w → md + m + q = 4 → fr ≤ 34 → (∀ j, j < fr → w j = 0) → (last = 0 ∨ last = fr + 1) → pf.length = md → PX μ pf → PV pf → (∀ k, k < 34 → ((0 < md ∧ μ.1 54 (md - 1) = 0 ∧ μ.1 55 (md - 1) = nI k) ↔ last = k + 1)) → z_C d' mi_X7_sets [.ref 50, .int (nI fr), .int (nI md), .int (nI p), .int 1] μ (fun r μ' => r = none ∧ SV md μ μ' (SS O pf w m last))) (μ0 : zM) (w : Nat → Nat) (pf : SL) (hH0 : a_H μ0) (hF0 : a_Fz mdR κ μ0) (hw : RW μ0 51 w) (hpl : pf.length = md) (hpx : PX μ0 pf) (hpv : PV pf) (hzk : ∀ j, j < k → w j = 0) (h3 : 3 ≤ w k) (K : ∀ μ3, SV md μ0 μ3 (SS O (pf ++ [(1, k)]) (sub3 w k) m 0) → Z 0 207 [(6, .int x6), (5, .int (nI k)), (0, .ref 50), (1, .int x1), (2, .int (nI md)), (3, .int (nI p)), (4, .int 1)] [] μ3) : Z 0 158 [(6, .int x6), (5, .int (nI k)), (0, .ref 50), (1, .int x1), (2, .int (nI md)), (3, .int (nI p)), (4, .int 1)] [] μ0 := by
  have hH := zh_X7_sets
  have ink : vp_in (nI k) 34 := vp_in_nI hk (by decide)
  have inm : vp_in (nI md) 5 := vp_in_nI (by omega) (by decide)
  have ek : (nI k).toNatClampNeg = k := nI_clamp (by omega)
  have em : (nI md).toNatClampNeg = md := nI_clamp (by omega)
  have wk := hw k hk
  refine z_rcs hc hH 4 (pc' := 165) (lv' := [(6, .int x6), (5, .int (nI k)), (0, .ref 50), (1, .int x1), (2, .int (nI md)), (3, .int (nI p)), (4, .int 1)]) (st' := [.int (nI k), .ref 51, .int (nI k), .ref 51]) (μ' := μ0) (by rfl) ?_
  refine zq_iald hc hH (by rfl) 34 (by decide +kernel) (ink) ?_
  rw [ek, wk.1]
  refine z_rcs hc hH 2 (pc' := 168) (lv' := [(6, .int x6), (5, .int (nI k)), (0, .ref 50), (1, .int x1), (2, .int (nI md)), (3, .int (nI p)), (4, .int 1)]) (st' := [.int ((nI (w k)) - 3), .int (nI k), .ref 51]) (μ' := μ0) (by rfl) ?_
  rw [s_3 (w k) (by omega) h3]
  refine zq_iast hc hH (by rfl) 34 (by decide +kernel) (ink) ?_
  refine z_rcs hc hH 4 (pc' := 175) (lv' := [(6, .int x6), (5, .int (nI k)), (0, .ref 50), (1, .int x1), (2, .int (nI md)), (3, .int (nI p)), (4, .int 1)]) (st' := [.int 1, .int (nI md), .ref 54]) (μ' := z_ui μ0 51 ((nI k).toNatClampNeg) (nI (w k - 3))) (by rfl) ?_
  refine zq_iast hc hH (by rfl) 5 (by decide +kernel) (inm) ?_
  refine z_rcs hc hH 4 (pc' := 183) (lv' := [(6, .int x6), (5, .int (nI k)), (0, .ref 50), (1, .int x1), (2, .int (nI md)), (3, .int (nI p)), (4, .int 1)]) (st' := [.int (nI k), .int (nI md), .ref 55]) (μ' := z_ui (z_ui μ0 51 ((nI k).toNatClampNeg) (nI (w k - 3))) 54 ((nI md).toNatClampNeg) 1) (by rfl) ?_
  refine zq_iast hc hH (by rfl) 5 (by decide +kernel) (inm) ?_
  rw [ek, em]
  have f1 : a_Fz mdR μ0 (z_ui (z_ui (z_ui μ0 51 k (nI (w k - 3))) 54 md 1) 55 md (nI k)) := a_Fz_ui (a_Fz_ui (a_Fz_ui (a_Fz_rf _ _) (a_mda_md (by decide +kernel) _)) (a_mda_md (by decide +kernel) _)) (a_mda_md (by decide +kernel) _)
  have H1 : a_H (z_ui (z_ui (z_ui μ0 51 k (nI (w k - 3))) 54 md 1) 55 md (nI k)) := a_H_ui (a_H_ui (a_H_ui hH0 (bI_top _)) (bI_top _)) (bI_top _)
  have r51 : ∀ j, (z_ui (z_ui (z_ui μ0 51 k (nI (w k - 3))) 54 md 1) 55 md (nI k)).1 51 j = if j = k then nI (w k - 3) else μ0.1 51 j := fun j => by
    rw [z_ui_rd, if_neg (by omega), z_ui_rd, if_neg (by omega), z_ui_rd]
    by_cases e : j = k
    · rw [if_pos ⟨rfl, e⟩, if_pos e]
    · rw [if_neg (fun z => e z.2), if_neg e]
  have c54 : (z_ui (z_ui (z_ui μ0 51 k (nI (w k - 3))) 54 md 1) 55 md (nI k)).1 54 md = 1 := by rw [z_ui_rd, if_neg (by omega), z_ui_rd, if_pos ⟨rfl, rfl⟩]
  have c55 : (z_ui (z_ui (z_ui μ0 51 k (nI (w k - 3))) 54 md 1) 55 md (nI k)).1 55 md = nI k := by rw [z_ui_rd, if_pos ⟨rfl, rfl⟩]
  have px : ∀ i, i < md → (z_ui (z_ui (z_ui μ0 51 k (nI (w k - 3))) 54 md 1) 55 md (nI k)).1 54 i = μ0.1 54 i ∧ (z_ui (z_ui (z_ui μ0 51 k (nI (w k - 3))) 54 md 1) 55 md (nI k)).1 55 i = μ0.1 55 i := fun i hi => ⟨by rw [z_ui_rd, if_neg (by omega), z_ui_rd, if_neg (by omega), z_ui_rd, if_neg (by omega)], by rw [z_ui_rd, if_neg (by omega), z_ui_rd, if_neg (by omega), z_ui_rd, if_neg (by omega)]⟩
  have eb : bq (z_ui (z_ui (z_ui μ0 51 k (nI (w k - 3))) 54 md 1) 55 md (nI k)) = bq μ0 := by rw [bq_ui (by decide), bq_ui (by decide), bq_ui (by decide)]
  generalize z_ui (z_ui (z_ui μ0 51 k (nI (w k - 3))) 54 md 1) 55 md (nI k) = μ1 at f1 H1 r51 c54 c55 px eb ⊢
  have w1 : RW μ1 51 (sub3 w k) := fun j hj => by
    rw [r51]; unfold sub3
    by_cases e : j = k
    · rw [if_pos e, if_pos e, e]; exact ⟨rfl, by omega⟩
    · rw [if_neg e, if_neg e]; exact hw j hj
  refine z_rcs hc hH 7 (pc' := 193) (lv' := [(6, .int x6), (5, .int (nI k)), (0, .ref 50), (1, .int x1), (2, .int (nI md)), (3, .int (nI p)), (4, .int 1)]) (st' := [.int 1, .int (nI p), .int ((nI md) + 1), .int (nI k), .ref 50]) (μ' := μ1) (by rfl) ?_
  rw [nI_1]
  refine zq_call hc (z_cx_ok hH (by rfl)) (ih μ1 (sub3 w k) k (md + 1) 0 (pf ++ [(1, k)]) H1 (a_Fz_tr (by decide +kernel) hF0 f1) w1 (by omega) (by omega) (fun j hj => by unfold sub3; rw [if_neg (by omega)]; exact hzk j hj) (Or.inl rfl) (by rw [List.length_append, hpl]; rfl) (PX_add hpx (fun i hi => px i (by omega)) (by rw [hpl]; exact c54) (by rw [hpl]; exact c55)) (PV_add hpv (by decide +kernel) hk (fun e => absurd e (by decide +kernel))) (fun j hj => ⟨fun z => absurd z.2.1 (by rw [Nat.add_sub_cancel, c54]; decide), fun z => absurd z (by omega)⟩)) (by decide +kernel) (fun r2 μ2 hq => ?_)
  obtain ⟨rfl, hs⟩ := hq
  show Z 0 196 [(6, .int x6), (5, .int (nI k)), (0, .ref 50), (1, .int x1), (2, .int (nI md)), (3, .int (nI p)), (4, .int 1)] [] μ2
  refine z_rcs hc hH 4 (pc' := 203) (lv' := [(6, .int x6), (5, .int (nI k)), (0, .ref 50), (1, .int x1), (2, .int (nI md)), (3, .int (nI p)), (4, .int 1)]) (st' := [.int (nI k), .ref 51, .int (nI k), .ref 51]) (μ' := μ2) (by rfl) ?_
  refine zq_iald hc hH (by rfl) 34 (by decide +kernel) (ink) ?_
  rw [ek, hs.1, r51, if_pos rfl]
  refine z_rcs hc hH 2 (pc' := 206) (lv' := [(6, .int x6), (5, .int (nI k)), (0, .ref 50), (1, .int x1), (2, .int (nI md)), (3, .int (nI p)), (4, .int 1)]) (st' := [.int ((nI (w k - 3)) + 3), .int (nI k), .ref 51]) (μ' := μ2) (by rfl) ?_
  rw [show nI (w k - 3) + 3 = nI (w k) from (nI_add (w k - 3) 3).trans (by rw [show w k - 3 + 3 = w k by omega])]
  refine zq_iast hc hH (by rfl) 34 (by decide +kernel) (ink) ?_
  rw [ek]
  refine K _ ⟨fun j => ?_, fun i hi => ?_, a_Fz_ui (a_Fz_tr (by decide +kernel) f1 hs.2.2.1) (a_mda_md (by decide +kernel) _), a_H_ui hs.2.2.2.1 (bI_top _), ?_⟩
  · rw [z_ui_rd]
    by_cases e : j = k
    · rw [if_pos ⟨rfl, e⟩, e, wk.1]
    · rw [if_neg (fun z => e z.2), hs.1, r51, if_neg e]
  · rw [z_ui_rd, if_neg (by omega), z_ui_rd, if_neg (by omega), (hs.2.1 i (by omega)).1, (hs.2.1 i (by omega)).2]; exact px i hi
  · rw [bq_ui (by decide), ← eb]; exact hs.2.2.2.2
theorem rtR (d' : Nat) (Z : zK) (μ : zM) (B : Q4 → Prop) (md : Nat) (hc : z_clo z_x0 mi_X7_sets (z_C d') Z) (hr : z_ret mi_X7_sets (fun r μ' => r = none ∧ SV md μ μ' B) Z) (κ : zM) (q p : Nat) (O : SL → Q4 → Prop) (eκ : κ.1 50 4 = nI q) (m k : Nat) (x1 x6 : Int32) (hm : md + (m + 1) + q = 4) (hk : k < 34) (ih : ∀ (μ : zM) (w : Nat → Nat) (fr md last : Nat) (pf : SL), a_H μ → a_Fz mdR κ μ → RW μ 51 w → md + m + q = 4 → fr ≤ 34 → (∀ j, j < fr → w j = 0) → (last = 0 ∨ last = fr + 1) → pf.length = md → PX μ pf → PV pf → (∀ k, k < 34 → ((0 < md ∧ μ.1 54 (md - 1) = 0 ∧ μ.1 55 (md - 1) = nI k) ↔ last = k + 1)) → z_C d' mi_X7_sets [.ref 50, .int (nI fr), .int (nI md), .int (nI p), .int 1] μ (fun r μ' => r = none ∧ SV md μ μ' (SS O pf w m last))) (μ0 : zM) (w : Nat → Nat) (pf : SL) (hH0 : a_H μ0) (hF0 : a_Fz mdR κ μ0) (hw : RW μ0 51 w) (hpl : pf.length = md) (hpx : PX μ0 pf) (hpv : PV pf) (hzk : ∀ j, j < k → w j = 0) (hk2 : k + 2 < 34) (h0 : 1 ≤ w k) (h1 : 1 ≤ w (k + 1)) (h2 : 1 ≤ w (k + 2)) (hrs : rs k) (K : ∀ μ3, SV md μ0 μ3 (SS O (pf ++ [(0, k)]) (subr w k) m (k + 1)) → Z 0 340 [(6, .int x6), (5, .int (nI k)), (0, .ref 50), (1, .int x1), (2, .int (nI md)), (3, .int (nI p)), (4, .int 1)] [] μ3) : Z 0 239 [(6, .int x6), (5, .int (nI k)), (0, .ref 50), (1, .int x1), (2, .int (nI md)), (3, .int (nI p)), (4, .int 1)] [] μ0 := by
  have hH := zh_X7_sets
  have ink : vp_in (nI k) 34 := vp_in_nI hk (by decide)
  have inm : vp_in (nI md) 5 := vp_in_nI (by omega) (by decide)
  have in1 : vp_in (nI (k + 1)) 34 := vp_in_nI (by omega) (by decide)
  have in2 : vp_in (nI (k + 2)) 34 := vp_in_nI (by omega) (by decide)
  have ek : (nI k).toNatClampNeg = k := nI_clamp (by omega)
  have em : (nI md).toNatClampNeg = md := nI_clamp (by omega)
  have ek1 : (nI (k + 1)).toNatClampNeg = k + 1 := nI_clamp (by omega)
  have ek2 : (nI (k + 2)).toNatClampNeg = k + 2 := nI_clamp (by omega)
  have a2 : nI k + 2 = nI (k + 2) := nI_add k 2
  have wk := hw k hk
  have wk1 := hw (k + 1) (by omega)
  have wk2 := hw (k + 2) (by omega)
  refine z_rcs hc hH 4 (pc' := 246) (lv' := [(6, .int x6), (5, .int (nI k)), (0, .ref 50), (1, .int x1), (2, .int (nI md)), (3, .int (nI p)), (4, .int 1)]) (st' := [.int (nI k), .ref 51, .int (nI k), .ref 51]) (μ' := μ0) (by rfl) ?_
  refine zq_iald hc hH (by rfl) 34 (by decide +kernel) (ink) ?_
  rw [ek, wk.1]
  refine z_rcs hc hH 2 (pc' := 249) (lv' := [(6, .int x6), (5, .int (nI k)), (0, .ref 50), (1, .int x1), (2, .int (nI md)), (3, .int (nI p)), (4, .int 1)]) (st' := [.int ((nI (w k)) - 1), .int (nI k), .ref 51]) (μ' := μ0) (by rfl) ?_
  rw [s_1 (w (k)) (by omega) h0]
  refine zq_iast hc hH (by rfl) 34 (by decide +kernel) (ink) ?_
  rw [ek]
  have g1 : ∀ j, (z_ui μ0 51 k (nI (w k - 1))).1 51 j = if j = k then nI (w k - 1) else μ0.1 51 j := fun j => by
    rw [z_ui_rd]
    by_cases e : j = k
    · rw [if_pos ⟨rfl, e⟩, if_pos e]
    · rw [if_neg (fun z => e z.2), if_neg e]
  have F1 : a_Fz mdR μ0 (z_ui μ0 51 k (nI (w k - 1))) := a_Fz_ui (a_Fz_rf _ _) (a_mda_md (by decide +kernel) _)
  have H1 : a_H (z_ui μ0 51 k (nI (w k - 1))) := a_H_ui hH0 (bI_top _)
  have E1 : bq (z_ui μ0 51 k (nI (w k - 1))) = bq μ0 := bq_ui (by decide)
  have P1 : ∀ r i, r ≠ 51 → (z_ui μ0 51 k (nI (w k - 1))).1 r i = μ0.1 r i := fun r i h => by rw [z_ui_rd, if_neg (fun z => h z.1)]
  generalize z_ui μ0 51 k (nI (w k - 1)) = ν1 at g1 F1 H1 E1 P1 ⊢
  refine z_rcs hc hH 5 (pc' := 258) (lv' := [(6, .int x6), (5, .int (nI k)), (0, .ref 50), (1, .int x1), (2, .int (nI md)), (3, .int (nI p)), (4, .int 1)]) (st' := [.int ((nI k) + 1), .ref 51]) (μ' := ν1) (by rfl) ?_
  rw [nI_1]
  refine z_rcs hc hH 1 (pc' := 259) (lv' := [(6, .int x6), (5, .int (nI k)), (0, .ref 50), (1, .int x1), (2, .int (nI md)), (3, .int (nI p)), (4, .int 1)]) (st' := [.int (nI (k + 1)), .ref 51, .int (nI (k + 1)), .ref 51]) (μ' := ν1) (by rfl) ?_
  refine zq_iald hc hH (by rfl) 34 (by decide +kernel) (in1) ?_
  rw [ek1, g1, if_neg (by omega), wk1.1]
  refine z_rcs hc hH 2 (pc' := 262) (lv' := [(6, .int x6), (5, .int (nI k)), (0, .ref 50), (1, .int x1), (2, .int (nI md)), (3, .int (nI p)), (4, .int 1)]) (st' := [.int ((nI (w (k + 1))) - 1), .int (nI (k + 1)), .ref 51]) (μ' := ν1) (by rfl) ?_
  rw [s_1 (w (k + 1)) (by omega) h1]
  refine zq_iast hc hH (by rfl) 34 (by decide +kernel) (in1) ?_
  rw [ek1]
  have g2 : ∀ j, (z_ui ν1 51 (k + 1) (nI (w (k + 1) - 1))).1 51 j = if j = k + 1 then nI (w (k + 1) - 1) else ν1.1 51 j := fun j => by
    rw [z_ui_rd]
    by_cases e : j = k + 1
    · rw [if_pos ⟨rfl, e⟩, if_pos e]
    · rw [if_neg (fun z => e z.2), if_neg e]
  have F2 : a_Fz mdR μ0 (z_ui ν1 51 (k + 1) (nI (w (k + 1) - 1))) := a_Fz_ui F1 (a_mda_md (by decide +kernel) _)
  have H2 : a_H (z_ui ν1 51 (k + 1) (nI (w (k + 1) - 1))) := a_H_ui H1 (bI_top _)
  have E2 : bq (z_ui ν1 51 (k + 1) (nI (w (k + 1) - 1))) = bq μ0 := by rw [bq_ui (by decide), E1]
  have P2 : ∀ r i, r ≠ 51 → (z_ui ν1 51 (k + 1) (nI (w (k + 1) - 1))).1 r i = μ0.1 r i := fun r i h => by rw [z_ui_rd, if_neg (fun z => h z.1), P1 r i h]
  generalize z_ui ν1 51 (k + 1) (nI (w (k + 1) - 1)) = ν2 at g2 F2 H2 E2 P2 ⊢
  refine z_rcs hc hH 5 (pc' := 271) (lv' := [(6, .int x6), (5, .int (nI k)), (0, .ref 50), (1, .int x1), (2, .int (nI md)), (3, .int (nI p)), (4, .int 1)]) (st' := [.int ((nI k) + 2), .ref 51]) (μ' := ν2) (by rfl) ?_
  rw [a2]
  refine z_rcs hc hH 1 (pc' := 272) (lv' := [(6, .int x6), (5, .int (nI k)), (0, .ref 50), (1, .int x1), (2, .int (nI md)), (3, .int (nI p)), (4, .int 1)]) (st' := [.int (nI (k + 2)), .ref 51, .int (nI (k + 2)), .ref 51]) (μ' := ν2) (by rfl) ?_
  refine zq_iald hc hH (by rfl) 34 (by decide +kernel) (in2) ?_
  rw [ek2, g2, if_neg (by omega), g1, if_neg (by omega), wk2.1]
  refine z_rcs hc hH 2 (pc' := 275) (lv' := [(6, .int x6), (5, .int (nI k)), (0, .ref 50), (1, .int x1), (2, .int (nI md)), (3, .int (nI p)), (4, .int 1)]) (st' := [.int ((nI (w (k + 2))) - 1), .int (nI (k + 2)), .ref 51]) (μ' := ν2) (by rfl) ?_
  rw [s_1 (w (k + 2)) (by omega) h2]
  refine zq_iast hc hH (by rfl) 34 (by decide +kernel) (in2) ?_
  rw [ek2]
  have g3 : ∀ j, (z_ui ν2 51 (k + 2) (nI (w (k + 2) - 1))).1 51 j = if j = k + 2 then nI (w (k + 2) - 1) else ν2.1 51 j := fun j => by
    rw [z_ui_rd]
    by_cases e : j = k + 2
    · rw [if_pos ⟨rfl, e⟩, if_pos e]
    · rw [if_neg (fun z => e z.2), if_neg e]
  have F3 : a_Fz mdR μ0 (z_ui ν2 51 (k + 2) (nI (w (k + 2) - 1))) := a_Fz_ui F2 (a_mda_md (by decide +kernel) _)
  have H3 : a_H (z_ui ν2 51 (k + 2) (nI (w (k + 2) - 1))) := a_H_ui H2 (bI_top _)
  have E3 : bq (z_ui ν2 51 (k + 2) (nI (w (k + 2) - 1))) = bq μ0 := by rw [bq_ui (by decide), E2]
  have P3 : ∀ r i, r ≠ 51 → (z_ui ν2 51 (k + 2) (nI (w (k + 2) - 1))).1 r i = μ0.1 r i := fun r i h => by rw [z_ui_rd, if_neg (fun z => h z.1), P2 r i h]
  generalize z_ui ν2 51 (k + 2) (nI (w (k + 2) - 1)) = ν3 at g3 F3 H3 E3 P3 ⊢
  refine z_rcs hc hH 4 (pc' := 282) (lv' := [(6, .int x6), (5, .int (nI k)), (0, .ref 50), (1, .int x1), (2, .int (nI md)), (3, .int (nI p)), (4, .int 1)]) (st' := [.int 0, .int (nI md), .ref 54]) (μ' := ν3) (by rfl) ?_
  refine zq_iast hc hH (by rfl) 5 (by decide +kernel) (inm) ?_
  refine z_rcs hc hH 4 (pc' := 290) (lv' := [(6, .int x6), (5, .int (nI k)), (0, .ref 50), (1, .int x1), (2, .int (nI md)), (3, .int (nI p)), (4, .int 1)]) (st' := [.int (nI k), .int (nI md), .ref 55]) (μ' := z_ui (ν3) 54 ((nI md).toNatClampNeg) 0) (by rfl) ?_
  refine zq_iast hc hH (by rfl) 5 (by decide +kernel) (inm) ?_
  rw [em]
  have f1 : a_Fz mdR μ0 (z_ui (z_ui ν3 54 md 0) 55 md (nI k)) := a_Fz_ui (a_Fz_ui F3 (a_mda_md (by decide +kernel) _)) (a_mda_md (by decide +kernel) _)
  have H4 : a_H (z_ui (z_ui ν3 54 md 0) 55 md (nI k)) := a_H_ui (a_H_ui H3 (bI_top _)) (bI_top _)
  have r51 : ∀ j, (z_ui (z_ui ν3 54 md 0) 55 md (nI k)).1 51 j = ν3.1 51 j := fun j => by rw [z_ui_rd, if_neg (by omega), z_ui_rd, if_neg (by omega)]
  have c54 : (z_ui (z_ui ν3 54 md 0) 55 md (nI k)).1 54 md = 0 := by rw [z_ui_rd, if_neg (by omega), z_ui_rd, if_pos ⟨rfl, rfl⟩]
  have c55 : (z_ui (z_ui ν3 54 md 0) 55 md (nI k)).1 55 md = nI k := by rw [z_ui_rd, if_pos ⟨rfl, rfl⟩]
  have px : ∀ i, i < md → (z_ui (z_ui ν3 54 md 0) 55 md (nI k)).1 54 i = μ0.1 54 i ∧ (z_ui (z_ui ν3 54 md 0) 55 md (nI k)).1 55 i = μ0.1 55 i := fun i hi => ⟨by rw [z_ui_rd, if_neg (by omega), z_ui_rd, if_neg (by omega)]; exact P3 54 i (by decide), by rw [z_ui_rd, if_neg (by omega), z_ui_rd, if_neg (by omega)]; exact P3 55 i (by decide)⟩
  have eb : bq (z_ui (z_ui ν3 54 md 0) 55 md (nI k)) = bq μ0 := by rw [bq_ui (by decide), bq_ui (by decide), E3]
  generalize z_ui (z_ui ν3 54 md 0) 55 md (nI k) = μ1 at f1 H4 r51 c54 c55 px eb ⊢
  have w1 : RW μ1 51 (subr w k) := fun j hj => by
    rw [r51, g3, g2, g1]; unfold subr
    by_cases c0 : j = k
    · rw [if_neg (by omega), if_neg (by omega), if_pos c0, if_pos (Or.inl c0), c0]; exact ⟨rfl, by omega⟩
    · by_cases c1 : j = k + 1
      · rw [if_neg (by omega), if_pos c1, if_pos (Or.inr (Or.inl c1)), c1]; exact ⟨rfl, by omega⟩
      · by_cases c2 : j = k + 2
        · rw [if_pos c2, if_pos (Or.inr (Or.inr c2)), c2]; exact ⟨rfl, by omega⟩
        · rw [if_neg c2, if_neg c1, if_neg c0, if_neg (by omega)]; exact hw j hj
  refine z_rcs hc hH 7 (pc' := 300) (lv' := [(6, .int x6), (5, .int (nI k)), (0, .ref 50), (1, .int x1), (2, .int (nI md)), (3, .int (nI p)), (4, .int 1)]) (st' := [.int 1, .int (nI p), .int ((nI md) + 1), .int (nI k), .ref 50]) (μ' := μ1) (by rfl) ?_
  rw [nI_1]
  refine zq_call hc (z_cx_ok hH (by rfl)) (ih μ1 (subr w k) k (md + 1) (k + 1) (pf ++ [(0, k)]) H4 (a_Fz_tr (by decide +kernel) hF0 f1) w1 (by omega) (by omega) (fun j hj => by unfold subr; rw [if_neg (by omega)]; exact hzk j hj) (Or.inr rfl) (by rw [List.length_append, hpl]; rfl) (PX_add hpx (fun i hi => px i (by omega)) (by rw [hpl]; exact c54) (by rw [hpl]; exact c55)) (PV_add hpv (by decide +kernel) hk (fun _ => hrs)) (fun j hj => ⟨fun z => by rw [Nat.add_sub_cancel, c55] at z; have := (nI_eq (by omega) (by omega)).mp z.2.2; omega, fun z => ⟨by omega, by rw [Nat.add_sub_cancel, c54], by rw [Nat.add_sub_cancel, c55, show j = k by omega]⟩⟩)) (by decide +kernel) (fun r2 μ2 hq => ?_)
  obtain ⟨rfl, hs⟩ := hq
  have R2 : ∀ j, μ2.1 51 j = ν3.1 51 j := fun j => (hs.1 j).trans (r51 j)
  show Z 0 303 [(6, .int x6), (5, .int (nI k)), (0, .ref 50), (1, .int x1), (2, .int (nI md)), (3, .int (nI p)), (4, .int 1)] [] μ2
  refine z_rcs hc hH 4 (pc' := 310) (lv' := [(6, .int x6), (5, .int (nI k)), (0, .ref 50), (1, .int x1), (2, .int (nI md)), (3, .int (nI p)), (4, .int 1)]) (st' := [.int (nI k), .ref 51, .int (nI k), .ref 51]) (μ' := μ2) (by rfl) ?_
  refine zq_iald hc hH (by rfl) 34 (by decide +kernel) (ink) ?_
  rw [ek, R2, g3, if_neg (by omega), g2, if_neg (by omega), g1, if_pos rfl]
  refine z_rcs hc hH 2 (pc' := 313) (lv' := [(6, .int x6), (5, .int (nI k)), (0, .ref 50), (1, .int x1), (2, .int (nI md)), (3, .int (nI p)), (4, .int 1)]) (st' := [.int ((nI (w (k) - 1)) + 1), .int (nI k), .ref 51]) (μ' := μ2) (by rfl) ?_
  rw [show nI (w (k) - 1) + 1 = nI (w (k)) from (nI_add (w (k) - 1) 1).trans (by rw [show w (k) - 1 + 1 = w (k) by omega])]
  refine zq_iast hc hH (by rfl) 34 (by decide +kernel) (ink) ?_
  rw [ek]
  have u1 : ∀ j, (z_ui μ2 51 (k) (nI (w (k)))).1 51 j = if j = k then nI (w (k)) else μ2.1 51 j := fun j => by
    rw [z_ui_rd]
    by_cases e : j = k
    · rw [if_pos ⟨rfl, e⟩, if_pos e]
    · rw [if_neg (fun z => e z.2), if_neg e]
  have Fu1 : a_Fz mdR μ0 (z_ui μ2 51 (k) (nI (w (k)))) := a_Fz_ui (a_Fz_tr (by decide +kernel) f1 hs.2.2.1) (a_mda_md (by decide +kernel) _)
  have Hu1 : a_H (z_ui μ2 51 (k) (nI (w (k)))) := a_H_ui hs.2.2.2.1 (bI_top _)
  have Eu1 : bq (z_ui μ2 51 (k) (nI (w (k)))) = bq μ2 := by rw [bq_ui (by decide)]
  have Pu1 : ∀ r i, r ≠ 51 → (z_ui μ2 51 (k) (nI (w (k)))).1 r i = μ2.1 r i := fun r i h => by rw [z_ui_rd, if_neg (fun z => h z.1)]
  generalize z_ui μ2 51 (k) (nI (w (k))) = ν4 at u1 Fu1 Hu1 Eu1 Pu1 ⊢
  refine z_rcs hc hH 5 (pc' := 322) (lv' := [(6, .int x6), (5, .int (nI k)), (0, .ref 50), (1, .int x1), (2, .int (nI md)), (3, .int (nI p)), (4, .int 1)]) (st' := [.int ((nI k) + 1), .ref 51]) (μ' := ν4) (by rfl) ?_
  rw [nI_1]
  refine z_rcs hc hH 1 (pc' := 323) (lv' := [(6, .int x6), (5, .int (nI k)), (0, .ref 50), (1, .int x1), (2, .int (nI md)), (3, .int (nI p)), (4, .int 1)]) (st' := [.int (nI (k + 1)), .ref 51, .int (nI (k + 1)), .ref 51]) (μ' := ν4) (by rfl) ?_
  refine zq_iald hc hH (by rfl) 34 (by decide +kernel) (in1) ?_
  rw [ek1, u1, if_neg (by omega), R2, g3, if_neg (by omega), g2, if_pos rfl]
  refine z_rcs hc hH 2 (pc' := 326) (lv' := [(6, .int x6), (5, .int (nI k)), (0, .ref 50), (1, .int x1), (2, .int (nI md)), (3, .int (nI p)), (4, .int 1)]) (st' := [.int ((nI (w (k + 1) - 1)) + 1), .int (nI (k + 1)), .ref 51]) (μ' := ν4) (by rfl) ?_
  rw [show nI (w (k + 1) - 1) + 1 = nI (w (k + 1)) from (nI_add (w (k + 1) - 1) 1).trans (by rw [show w (k + 1) - 1 + 1 = w (k + 1) by omega])]
  refine zq_iast hc hH (by rfl) 34 (by decide +kernel) (in1) ?_
  rw [ek1]
  have u2 : ∀ j, (z_ui ν4 51 (k + 1) (nI (w (k + 1)))).1 51 j = if j = k + 1 then nI (w (k + 1)) else ν4.1 51 j := fun j => by
    rw [z_ui_rd]
    by_cases e : j = k + 1
    · rw [if_pos ⟨rfl, e⟩, if_pos e]
    · rw [if_neg (fun z => e z.2), if_neg e]
  have Fu2 : a_Fz mdR μ0 (z_ui ν4 51 (k + 1) (nI (w (k + 1)))) := a_Fz_ui Fu1 (a_mda_md (by decide +kernel) _)
  have Hu2 : a_H (z_ui ν4 51 (k + 1) (nI (w (k + 1)))) := a_H_ui Hu1 (bI_top _)
  have Eu2 : bq (z_ui ν4 51 (k + 1) (nI (w (k + 1)))) = bq μ2 := by rw [bq_ui (by decide), Eu1]
  have Pu2 : ∀ r i, r ≠ 51 → (z_ui ν4 51 (k + 1) (nI (w (k + 1)))).1 r i = μ2.1 r i := fun r i h => by rw [z_ui_rd, if_neg (fun z => h z.1), Pu1 r i h]
  generalize z_ui ν4 51 (k + 1) (nI (w (k + 1))) = ν5 at u2 Fu2 Hu2 Eu2 Pu2 ⊢
  refine z_rcs hc hH 5 (pc' := 335) (lv' := [(6, .int x6), (5, .int (nI k)), (0, .ref 50), (1, .int x1), (2, .int (nI md)), (3, .int (nI p)), (4, .int 1)]) (st' := [.int ((nI k) + 2), .ref 51]) (μ' := ν5) (by rfl) ?_
  rw [a2]
  refine z_rcs hc hH 1 (pc' := 336) (lv' := [(6, .int x6), (5, .int (nI k)), (0, .ref 50), (1, .int x1), (2, .int (nI md)), (3, .int (nI p)), (4, .int 1)]) (st' := [.int (nI (k + 2)), .ref 51, .int (nI (k + 2)), .ref 51]) (μ' := ν5) (by rfl) ?_
  refine zq_iald hc hH (by rfl) 34 (by decide +kernel) (in2) ?_
  rw [ek2, u2, if_neg (by omega), u1, if_neg (by omega), R2, g3, if_pos rfl]
  refine z_rcs hc hH 2 (pc' := 339) (lv' := [(6, .int x6), (5, .int (nI k)), (0, .ref 50), (1, .int x1), (2, .int (nI md)), (3, .int (nI p)), (4, .int 1)]) (st' := [.int ((nI (w (k + 2) - 1)) + 1), .int (nI (k + 2)), .ref 51]) (μ' := ν5) (by rfl) ?_
  rw [show nI (w (k + 2) - 1) + 1 = nI (w (k + 2)) from (nI_add (w (k + 2) - 1) 1).trans (by rw [show w (k + 2) - 1 + 1 = w (k + 2) by omega])]
  refine zq_iast hc hH (by rfl) 34 (by decide +kernel) (in2) ?_
  rw [ek2]
  have u3 : ∀ j, (z_ui ν5 51 (k + 2) (nI (w (k + 2)))).1 51 j = if j = k + 2 then nI (w (k + 2)) else ν5.1 51 j := fun j => by
    rw [z_ui_rd]
    by_cases e : j = k + 2
    · rw [if_pos ⟨rfl, e⟩, if_pos e]
    · rw [if_neg (fun z => e z.2), if_neg e]
  have Fu3 : a_Fz mdR μ0 (z_ui ν5 51 (k + 2) (nI (w (k + 2)))) := a_Fz_ui Fu2 (a_mda_md (by decide +kernel) _)
  have Hu3 : a_H (z_ui ν5 51 (k + 2) (nI (w (k + 2)))) := a_H_ui Hu2 (bI_top _)
  have Eu3 : bq (z_ui ν5 51 (k + 2) (nI (w (k + 2)))) = bq μ2 := by rw [bq_ui (by decide), Eu2]
  have Pu3 : ∀ r i, r ≠ 51 → (z_ui ν5 51 (k + 2) (nI (w (k + 2)))).1 r i = μ2.1 r i := fun r i h => by rw [z_ui_rd, if_neg (fun z => h z.1), Pu2 r i h]
  generalize z_ui ν5 51 (k + 2) (nI (w (k + 2))) = ν6 at u3 Fu3 Hu3 Eu3 Pu3 ⊢
  refine K _ ⟨fun j => ?_, fun i hi => ?_, Fu3, Hu3, ?_⟩
  · rw [u3, u2, u1, R2, g3, g2, g1]
    by_cases c0 : j = k
    · rw [if_neg (by omega), if_neg (by omega), if_pos c0, c0, wk.1]
    · by_cases c1 : j = k + 1
      · rw [if_neg (by omega), if_pos c1, c1, wk1.1]
      · by_cases c2 : j = k + 2
        · rw [if_pos c2, c2, wk2.1]
        · rw [if_neg c2, if_neg c1, if_neg c0, if_neg c2, if_neg c1, if_neg c0]
  · rw [Pu3 54 i (by decide), Pu3 55 i (by decide), (hs.2.1 i (by omega)).1, (hs.2.1 i (by omega)).2]; exact px i hi
  · rw [Eu3, ← eb]; exact hs.2.2.2.2
theorem re16 (d' : Nat) (Z : zK) (μ : zM) (B : Q4 → Prop) (md : Nat) (hc : z_clo z_x0 mi_X7_sets (z_C d') Z) (hr : z_ret mi_X7_sets (fun r μ' => r = none ∧ SV md μ μ' B) Z) (κ : zM) (q p : Nat) (O : SL → Q4 → Prop) (eκ : κ.1 50 4 = nI q) (dw : Nat) (hway : HW dw κ q p O) (hdw : dw ≤ d') (x1 : Int32) (w : Nat → Nat) (pf : SL) (hH0 : a_H μ) (hF0 : a_Fz mdR κ μ) (hw : RW μ 51 w) (hpl : pf.length = md) (hm : md + q = 4) (hpx : PX μ pf) (hpv : PV pf) (hB : (∀ k, k < 34 → w k = 0) → ∀ x, B x ↔ O pf x) (hN : (∃ k, k < 34 ∧ w k ≠ 0) → ∀ x, ¬ B x) : ∀ n i, i + n = 34 → ∀ x : Int32, (x = 1 ∧ ∀ j, j < i → w j = 0) ∨ (x = 0 ∧ ∃ j, j < 34 ∧ w j ≠ 0) → Z 0 16 [(6, .int (nI i)), (5, .int x), (0, .ref 50), (1, .int x1), (2, .int (nI md)), (3, .int (nI p)), (4, .int 1)] [] μ := by
  have hH := zh_X7_sets
  intro n
  induction n with
  | zero =>
    intro i hi x hx
    have hi : i = 34 := by omega
    subst hi
    rcases hx with ⟨rfl, hz⟩ | ⟨rfl, j, hj, hz⟩
    · skip
      refine z_rcs hc hH 2 (pc' := 20) (lv' := [(6, .int (nI 34)), (5, .int 1), (0, .ref 50), (1, .int x1), (2, .int (nI md)), (3, .int (nI p)), (4, .int 1)]) (st' := [.int 34, .int (nI 34)]) (μ' := μ) (by rfl) ?_
      refine zq_ic hc hH (by rfl) (tg := 51) (by rfl) (fun _ => ?_) (fun h9 => (zb_t (ge_nIt (n := 34) (i := 34) (by decide) (by decide)) h9).elim)
      refine z_rcs hc hH 9 (pc' := 69) (lv' := [(6, .int (nI 34)), (5, .int 1), (0, .ref 50), (1, .int x1), (2, .int (nI md)), (3, .int (nI p)), (4, .int 1)]) (st' := [.int (nI p), .ref 50]) (μ' := z_ui μ 50 18 1) (by rfl) ?_
      have F1 : a_Fz mdR μ (z_ui μ 50 18 1) := a_Fz_ui (a_Fz_rf _ _) (by decide +kernel)
      have H1 : a_H (z_ui μ 50 18 1) := a_H_ui hH0 ⟨by decide, by decide⟩
      have R1 : ∀ r i, r ≠ 50 → (z_ui μ 50 18 1).1 r i = μ.1 r i := fun r i h => by rw [z_ui_rd, if_neg (fun z => h z.1)]
      have E1 : bq (z_ui μ 50 18 1) = bq μ := bq_18
      generalize z_ui μ 50 18 1 = μ1 at F1 H1 R1 E1 ⊢
      refine zq_call hc (z_cx_ok hH (by rfl)) (hway d' μ1 pf hdw H1 (a_Fz_tr (by decide +kernel) hF0 F1) (by omega) (fun i hi => by rw [R1 54 i (by decide +kernel), R1 55 i (by decide +kernel)]; exact hpx i hi) hpv) (by decide +kernel) (fun r2 μ2 hq => ?_)
      obtain ⟨rfl, y1, y2, y3⟩ := hq
      have hE : SV md μ μ2 B := ⟨fun j => by rw [a_Fz_at y2 51 j (a_md_row (by decide +kernel)), R1 51 j (by decide +kernel)], fun i hi => ⟨by rw [a_Fz_at y2 54 i (a_md_row (by decide +kernel)), R1 54 i (by decide +kernel)], by rw [a_Fz_at y2 55 i (a_md_row (by decide +kernel)), R1 55 i (by decide +kernel)]⟩, a_Fz_tr (by decide +kernel) F1 y2, y1, (by rw [E1] at y3; exact y3.iff (fun x => (hB hz x).symm))⟩
      show Z 0 72 [(6, .int (nI 34)), (5, .int 1), (0, .ref 50), (1, .int x1), (2, .int (nI md)), (3, .int (nI p)), (4, .int 1)] [] μ2
      exact hr 0 72 _ _ _ none (by decide +kernel) (by rfl) (⟨rfl, hE⟩)
    · skip
      refine z_rcs hc hH 2 (pc' := 20) (lv' := [(6, .int (nI 34)), (5, .int 0), (0, .ref 50), (1, .int x1), (2, .int (nI md)), (3, .int (nI p)), (4, .int 1)]) (st' := [.int 34, .int (nI 34)]) (μ' := μ) (by rfl) ?_
      refine zq_ic hc hH (by rfl) (tg := 51) (by rfl) (fun _ => ?_) (fun h9 => (zb_t (ge_nIt (n := 34) (i := 34) (by decide) (by decide)) h9).elim)
      refine z_rcs hc hH 2 (pc' := 56) (lv' := [(6, .int (nI 34)), (5, .int 0), (0, .ref 50), (1, .int x1), (2, .int (nI md)), (3, .int (nI p)), (4, .int 1)]) (st' := []) (μ' := μ) (by rfl) ?_
      exact hr 0 56 _ _ _ none (by decide +kernel) (by rfl) (⟨rfl, SV_rf hH0 (hN ⟨j, hj, hz⟩)⟩)
  | succ n ih =>
    intro i hi x hx
    have hin : vp_in (nI i) 34 := vp_in_nI (by omega) (by decide)
    have b5 := hw i (by omega)
    rcases hx with ⟨rfl, hz⟩ | ⟨rfl, hz⟩
    · skip
      refine z_rcs hc hH 2 (pc' := 20) (lv' := [(6, .int (nI i)), (5, .int 1), (0, .ref 50), (1, .int x1), (2, .int (nI md)), (3, .int (nI p)), (4, .int 1)]) (st' := [.int 34, .int (nI i)]) (μ' := μ) (by rfl) ?_
      refine zq_ic hc hH (by rfl) (tg := 51) (by rfl) (fun h9 => (zb_t h9 (ge_nI (n := 34) (i := i) (by omega) (by decide))).elim) (fun _ => ?_)
      refine z_rcs hc hH 5 (pc' := 34) (lv' := [(6, .int (nI i)), (5, .int 1), (0, .ref 50), (1, .int x1), (2, .int (nI md)), (3, .int (nI p)), (4, .int 1)]) (st' := [.int (nI i), .ref 51]) (μ' := μ) (by rfl) ?_
      refine zq_iald hc hH (by rfl) 34 (by decide +kernel) (hin) ?_
      rw [nI_clamp (n := i) (by omega), b5.1]
      refine zq_if hc hH (by rfl) (tg := 42) (by rfl) (fun h1 => ?_) (fun h1 => ?_)
      · have h1 := cm_ne.mp h1
        refine z_rcs hc hH 4 (pc' := 16) (lv' := [(6, .int ((nI i) + 1)), (5, .int 0), (0, .ref 50), (1, .int x1), (2, .int (nI md)), (3, .int (nI p)), (4, .int 1)]) (st' := []) (μ' := μ) (by rfl) ?_
        rw [nI_1]
        exact ih (i + 1) (by omega) 0 (Or.inr ⟨rfl, i, by omega, fun e => h1 (by rw [e]; rfl)⟩)
      · have h1 := cn_ne.mp h1
        refine z_rcs hc hH 5 (pc' := 16) (lv' := [(6, .int ((nI i) + 1)), (5, .int 1), (0, .ref 50), (1, .int x1), (2, .int (nI md)), (3, .int (nI p)), (4, .int 1)]) (st' := []) (μ' := μ) (by rfl) ?_
        rw [nI_1]
        exact ih (i + 1) (by omega) 1 (Or.inl ⟨rfl, fun j hj => if e : j = i then (by rw [e]; exact (nI_eq (by omega) (by omega)).mp h1) else hz j (by omega)⟩)
    · skip
      refine z_rcs hc hH 2 (pc' := 20) (lv' := [(6, .int (nI i)), (5, .int 0), (0, .ref 50), (1, .int x1), (2, .int (nI md)), (3, .int (nI p)), (4, .int 1)]) (st' := [.int 34, .int (nI i)]) (μ' := μ) (by rfl) ?_
      refine zq_ic hc hH (by rfl) (tg := 51) (by rfl) (fun h9 => (zb_t h9 (ge_nI (n := 34) (i := i) (by omega) (by decide))).elim) (fun _ => ?_)
      refine z_rcs hc hH 6 (pc' := 16) (lv' := [(6, .int ((nI i) + 1)), (5, .int 0), (0, .ref 50), (1, .int x1), (2, .int (nI md)), (3, .int (nI p)), (4, .int 1)]) (st' := []) (μ' := μ) (by rfl) ?_
      rw [nI_1]
      exact ih (i + 1) (by omega) 0 (Or.inr ⟨rfl, hz⟩)
theorem r340 (d' : Nat) (Z : zK) (μ : zM) (B : Q4 → Prop) (md : Nat) (hc : z_clo z_x0 mi_X7_sets (z_C d') Z) (hr : z_ret mi_X7_sets (fun r μ' => r = none ∧ SV md μ μ' B) Z) (p k : Nat) (x1 x6 : Int32) (μ4 : zM) (h : SV md μ μ4 B) : Z 0 340 [(6, .int x6), (5, .int (nI k)), (0, .ref 50), (1, .int x1), (2, .int (nI md)), (3, .int (nI p)), (4, .int 1)] [] μ4 := hr 0 340 _ _ _ none (by decide +kernel) (by rfl) ⟨rfl, h⟩
theorem r207 (d' : Nat) (Z : zK) (μ : zM) (B : Q4 → Prop) (md : Nat) (hc : z_clo z_x0 mi_X7_sets (z_C d') Z) (hr : z_ret mi_X7_sets (fun r μ' => r = none ∧ SV md μ μ' B) Z) (κ : zM) (q p : Nat) (O : SL → Q4 → Prop) (eκ : κ.1 50 4 = nI q) (m k last : Nat) (x1 : Int32) (hd : 1 ≤ d') (hm : md + (m + 1) + q = 4) (hk : k < 34) (ih : ∀ (μ : zM) (w : Nat → Nat) (fr md last : Nat) (pf : SL), a_H μ → a_Fz mdR κ μ → RW μ 51 w → md + m + q = 4 → fr ≤ 34 → (∀ j, j < fr → w j = 0) → (last = 0 ∨ last = fr + 1) → pf.length = md → PX μ pf → PV pf → (∀ k, k < 34 → ((0 < md ∧ μ.1 54 (md - 1) = 0 ∧ μ.1 55 (md - 1) = nI k) ↔ last = k + 1)) → z_C d' mi_X7_sets [.ref 50, .int (nI fr), .int (nI md), .int (nI p), .int 1] μ (fun r μ' => r = none ∧ SV md μ μ' (SS O pf w m last))) (w : Nat → Nat) (pf : SL) (hH0 : a_H μ) (hF0 : a_Fz mdR κ μ) (hw : RW μ 51 w) (hpl : pf.length = md) (hpx : PX μ pf) (hpv : PV pf) (hzk : ∀ j, j < k → w j = 0) (hwk : w k ≠ 0) (hB : ∀ x, B x ↔ ((fun x => (3 ≤ w k ∧ last ≠ k + 1) ∧ SS O (pf ++ [(1, k)]) (sub3 w k) m 0 x) x ∨ (fun x => (rs k ∧ 0 < w (k + 1) ∧ 0 < w (k + 2)) ∧ SS O (pf ++ [(0, k)]) (subr w k) m (k + 1) x) x)) (x6 : Int32) (μ3 : zM) (hS : SV md μ μ3 (fun x => (3 ≤ w k ∧ last ≠ k + 1) ∧ SS O (pf ++ [(1, k)]) (sub3 w k) m 0 x)) : Z 0 207 [(6, .int x6), (5, .int (nI k)), (0, .ref 50), (1, .int x1), (2, .int (nI md)), (3, .int (nI p)), (4, .int 1)] [] μ3 := by
  have hH := zh_X7_sets
  have hw3 := hS.rw hw
  refine z_rcs hc hH 1 (pc' := 209) (lv' := [(6, .int x6), (5, .int (nI k)), (0, .ref 50), (1, .int x1), (2, .int (nI md)), (3, .int (nI p)), (4, .int 1)]) (st' := [.int (nI k)]) (μ' := μ3) (by rfl) ?_
  refine zq_call hc (z_cx_ok hH (by rfl)) (fc_X7_isRun d' (by omega) μ3 (nI k)) (by decide +kernel) (fun r9 μ9 hq => ?_)
  obtain ⟨hμ9, hq⟩ := hq
  rw [hμ9]
  clear hμ9 μ9
  rw [sr_rs k hk] at hq
  obtain ⟨rfl, hk9⟩ | ⟨rfl, hk9⟩ := hq
  · show Z 0 212 [(6, .int x6), (5, .int (nI k)), (0, .ref 50), (1, .int x1), (2, .int (nI md)), (3, .int (nI p)), (4, .int 1)] [.int 1] μ3
    have k27 := hk9.1
    have in1 : vp_in (nI (k + 1)) 34 := vp_in_nI (by omega) (by decide)
    have in2 : vp_in (nI (k + 2)) 34 := vp_in_nI (by omega) (by decide)
    refine z_rcs hc hH 6 (pc' := 223) (lv' := [(6, .int x6), (5, .int (nI k)), (0, .ref 50), (1, .int x1), (2, .int (nI md)), (3, .int (nI p)), (4, .int 1)]) (st' := [.int ((nI k) + 1), .ref 51]) (μ' := μ3) (by rfl) ?_
    rw [nI_1]
    refine zq_iald hc hH (by rfl) 34 (by decide +kernel) (in1) ?_
    rw [nI_clamp (n := k + 1) (by omega), (hw3 (k + 1) (by omega)).1]
    refine zq_if hc hH (by rfl) (tg := 340) (by rfl) (fun h1 => ?_) (fun h1 => ?_)
    · have h1 := cm_le.mp h1
      have b9 := (hw3 (k + 1) (by omega)).2
      have n9 : ¬ 0 < w (k + 1) := fun z9 => by
        have z := h1
        rw [Int32.le_iff_toInt_le, nI_toInt (by omega)] at z
        have z : ((w (k + 1) : Nat) : Int) ≤ 0 := z
        omega
      exact hr 0 340 _ _ _ none (by decide +kernel) (by rfl) (⟨rfl, hS.iff (fun x => ⟨fun z => (hB x).mpr (Or.inl z), fun z => ((hB x).mp z).resolve_right ((fun x z => n9 z.1.2.1) x)⟩)⟩)
    · have h1 := cn_le.mp h1
      refine z_rcs hc hH 5 (pc' := 235) (lv' := [(6, .int x6), (5, .int (nI k)), (0, .ref 50), (1, .int x1), (2, .int (nI md)), (3, .int (nI p)), (4, .int 1)]) (st' := [.int ((nI k) + 2), .ref 51]) (μ' := μ3) (by rfl) ?_
      rw [show nI k + 2 = nI (k + 2) from nI_add k 2]
      refine zq_iald hc hH (by rfl) 34 (by decide +kernel) (in2) ?_
      rw [nI_clamp (n := k + 2) (by omega), (hw3 (k + 2) (by omega)).1]
      refine zq_if hc hH (by rfl) (tg := 340) (by rfl) (fun h2 => ?_) (fun h2 => ?_)
      · have h2 := cm_le.mp h2
        have b9 := (hw3 (k + 2) (by omega)).2
        have n9 : ¬ 0 < w (k + 2) := fun z9 => by
          have z := h2
          rw [Int32.le_iff_toInt_le, nI_toInt (by omega)] at z
          have z : ((w (k + 2) : Nat) : Int) ≤ 0 := z
          omega
        exact hr 0 340 _ _ _ none (by decide +kernel) (by rfl) (⟨rfl, hS.iff (fun x => ⟨fun z => (hB x).mpr (Or.inl z), fun z => ((hB x).mp z).resolve_right ((fun x z => n9 z.1.2.2) x)⟩)⟩)
      · have h2 := cn_le.mp h2
        have b1 := (hw3 (k + 1) (by omega)).2
        have p1 : 0 < w (k + 1) := by
          have z := h1
          rw [Int32.not_le, Int32.lt_iff_toInt_lt, nI_toInt (by omega)] at z
          have z : (0 : Int) < ((w (k + 1) : Nat) : Int) := z
          omega
        have b2 := (hw3 (k + 2) (by omega)).2
        have p2 : 0 < w (k + 2) := by
          have z := h2
          rw [Int32.not_le, Int32.lt_iff_toInt_lt, nI_toInt (by omega)] at z
          have z : (0 : Int) < ((w (k + 2) : Nat) : Int) := z
          omega
        exact rtR d' Z μ B md hc hr κ q p O eκ m k x1 x6 hm hk ih μ3 w pf hS.2.2.2.1 (a_Fz_tr (by decide +kernel) hF0 hS.2.2.1) hw3 hpl (hS.px hpl hpx) hpv hzk (by omega) (by omega) p1 p2 hk9 (fun μ4 h4 => r340 d' Z μ B md hc hr p k x1 x6 μ4 ((hS.tr h4).iff (fun x => ⟨fun z => (hB x).mpr (z.imp id (fun y => ⟨⟨hk9, p1, p2⟩, y⟩)), fun z => ((hB x).mp z).imp id (fun y => y.2)⟩)))
  · show Z 0 212 [(6, .int x6), (5, .int (nI k)), (0, .ref 50), (1, .int x1), (2, .int (nI md)), (3, .int (nI p)), (4, .int 1)] [.int 0] μ3
    have nR : ∀ x, ¬ (fun x => (rs k ∧ 0 < w (k + 1) ∧ 0 < w (k + 2)) ∧ SS O (pf ++ [(0, k)]) (subr w k) m (k + 1) x) x := fun x z => hk9 z.1.1
    refine z_rcs hc hH 1 (pc' := 340) (lv' := [(6, .int x6), (5, .int (nI k)), (0, .ref 50), (1, .int x1), (2, .int (nI md)), (3, .int (nI p)), (4, .int 1)]) (st' := []) (μ' := μ3) (by rfl) ?_
    exact hr 0 340 _ _ _ none (by decide +kernel) (by rfl) (⟨rfl, hS.iff (fun x => ⟨fun z => (hB x).mpr (Or.inl z), fun z => ((hB x).mp z).resolve_right (nR x)⟩)⟩)
theorem r107 (d' : Nat) (Z : zK) (μ : zM) (B : Q4 → Prop) (md : Nat) (hc : z_clo z_x0 mi_X7_sets (z_C d') Z) (hr : z_ret mi_X7_sets (fun r μ' => r = none ∧ SV md μ μ' B) Z) (κ : zM) (q p : Nat) (O : SL → Q4 → Prop) (eκ : κ.1 50 4 = nI q) (m k last : Nat) (x1 : Int32) (hd : 1 ≤ d') (hm : md + (m + 1) + q = 4) (hk : k < 34) (ih : ∀ (μ : zM) (w : Nat → Nat) (fr md last : Nat) (pf : SL), a_H μ → a_Fz mdR κ μ → RW μ 51 w → md + m + q = 4 → fr ≤ 34 → (∀ j, j < fr → w j = 0) → (last = 0 ∨ last = fr + 1) → pf.length = md → PX μ pf → PV pf → (∀ k, k < 34 → ((0 < md ∧ μ.1 54 (md - 1) = 0 ∧ μ.1 55 (md - 1) = nI k) ↔ last = k + 1)) → z_C d' mi_X7_sets [.ref 50, .int (nI fr), .int (nI md), .int (nI p), .int 1] μ (fun r μ' => r = none ∧ SV md μ μ' (SS O pf w m last))) (w : Nat → Nat) (pf : SL) (hH0 : a_H μ) (hF0 : a_Fz mdR κ μ) (hw : RW μ 51 w) (hpl : pf.length = md) (hpx : PX μ pf) (hpv : PV pf) (hzk : ∀ j, j < k → w j = 0) (hwk : w k ≠ 0) (hB : ∀ x, B x ↔ ((fun x => (3 ≤ w k ∧ last ≠ k + 1) ∧ SS O (pf ++ [(1, k)]) (sub3 w k) m 0 x) x ∨ (fun x => (rs k ∧ 0 < w (k + 1) ∧ 0 < w (k + 2)) ∧ SS O (pf ++ [(0, k)]) (subr w k) m (k + 1) x) x)) (hl : (0 < md ∧ μ.1 54 (md - 1) = 0 ∧ μ.1 55 (md - 1) = nI k) ↔ last = k + 1) : Z 0 107 [(5, .int (nI k)), (0, .ref 50), (1, .int x1), (2, .int (nI md)), (3, .int (nI p)), (4, .int 1)] [] μ := by
  have hH := zh_X7_sets
  have ink : vp_in (nI k) 34 := vp_in_nI hk (by decide)
  have t140 : ∀ x : Int32, (x = 1 ∧ last = k + 1) ∨ (x = 0 ∧ ¬ last = k + 1) → Z 0 140 [(5, .int (nI k)), (0, .ref 50), (1, .int x1), (2, .int (nI md)), (3, .int (nI p)), (4, .int 1)] [.int x] μ := by
    rintro x (⟨rfl, hx⟩ | ⟨rfl, hx⟩)
    · skip
      refine z_rcs hc hH 4 (pc' := 148) (lv' := [(6, .int 1), (5, .int (nI k)), (0, .ref 50), (1, .int x1), (2, .int (nI md)), (3, .int (nI p)), (4, .int 1)]) (st' := [.int (nI k), .ref 51]) (μ' := μ) (by rfl) ?_
      refine zq_iald hc hH (by rfl) 34 (by decide +kernel) (ink) ?_
      rw [nI_clamp (n := k) (by omega), (hw k hk).1]
      refine z_rcs hc hH 1 (pc' := 150) (lv' := [(6, .int 1), (5, .int (nI k)), (0, .ref 50), (1, .int x1), (2, .int (nI md)), (3, .int (nI p)), (4, .int 1)]) (st' := [.int 3, .int (nI (w k))]) (μ' := μ) (by rfl) ?_
      refine zq_ic hc hH (by rfl) (tg := 207) (by rfl) (fun h1 => ?_) (fun h1 => ?_)
      · have h1 := cm_lt.mp h1
        exact r207 d' Z μ B md hc hr κ q p O eκ m k last x1 hd hm hk ih w pf hH0 hF0 hw hpl hpx hpv hzk hwk hB 1 μ (SV_rf hH0 (fun x z => z.1.2 hx))
      · have h1 := cn_lt.mp h1
        refine z_rcs hc hH 2 (pc' := 207) (lv' := [(6, .int 1), (5, .int (nI k)), (0, .ref 50), (1, .int x1), (2, .int (nI md)), (3, .int (nI p)), (4, .int 1)]) (st' := []) (μ' := μ) (by rfl) ?_
        exact r207 d' Z μ B md hc hr κ q p O eκ m k last x1 hd hm hk ih w pf hH0 hF0 hw hpl hpx hpv hzk hwk hB 1 μ (SV_rf hH0 (fun x z => z.1.2 hx))
    · skip
      refine z_rcs hc hH 4 (pc' := 148) (lv' := [(6, .int 0), (5, .int (nI k)), (0, .ref 50), (1, .int x1), (2, .int (nI md)), (3, .int (nI p)), (4, .int 1)]) (st' := [.int (nI k), .ref 51]) (μ' := μ) (by rfl) ?_
      refine zq_iald hc hH (by rfl) 34 (by decide +kernel) (ink) ?_
      rw [nI_clamp (n := k) (by omega), (hw k hk).1]
      refine z_rcs hc hH 1 (pc' := 150) (lv' := [(6, .int 0), (5, .int (nI k)), (0, .ref 50), (1, .int x1), (2, .int (nI md)), (3, .int (nI p)), (4, .int 1)]) (st' := [.int 3, .int (nI (w k))]) (μ' := μ) (by rfl) ?_
      refine zq_ic hc hH (by rfl) (tg := 207) (by rfl) (fun h1 => ?_) (fun h1 => ?_)
      · have h1 := cm_lt.mp h1
        have n9 : ¬ 3 ≤ w k := fun z9 => by
          have z := h1
          rw [Int32.lt_iff_toInt_lt, nI_toInt (by have := (hw k hk).2; omega)] at z
          have z : ((w k : Nat) : Int) < 3 := z
          omega
        exact r207 d' Z μ B md hc hr κ q p O eκ m k last x1 hd hm hk ih w pf hH0 hF0 hw hpl hpx hpv hzk hwk hB 0 μ (SV_rf hH0 (fun x z => n9 z.1.1))
      · have h1 := cn_lt.mp h1
        refine z_rcs hc hH 2 (pc' := 158) (lv' := [(6, .int 0), (5, .int (nI k)), (0, .ref 50), (1, .int x1), (2, .int (nI md)), (3, .int (nI p)), (4, .int 1)]) (st' := []) (μ' := μ) (by rfl) ?_
        have h3 : 3 ≤ w k := by
          have z := h1
          rw [Int32.not_lt, Int32.le_iff_toInt_le, nI_toInt (by have := (hw k hk).2; omega)] at z
          have z : (3 : Int) ≤ ((w k : Nat) : Int) := z
          omega
        exact rt3 d' Z μ B md hc hr κ q p O eκ m k x1 0 hm hk ih μ w pf hH0 hF0 hw hpl hpx hpv hzk h3 (fun μ3 h9 => r207 d' Z μ B md hc hr κ q p O eκ m k last x1 hd hm hk ih w pf hH0 hF0 hw hpl hpx hpv hzk hwk hB 0 μ3 (h9.iff (fun x => ⟨fun z => ⟨⟨h3, hx⟩, z⟩, fun z => z.2⟩)))
  refine z_rcs hc hH 1 (pc' := 108) (lv' := [(5, .int (nI k)), (0, .ref 50), (1, .int x1), (2, .int (nI md)), (3, .int (nI p)), (4, .int 1)]) (st' := [.int (nI md)]) (μ' := μ) (by rfl) ?_
  refine zq_if hc hH (by rfl) (tg := 139) (by rfl) (fun h1 => ?_) (fun h1 => ?_)
  · have h1 := cm_le.mp h1
    have n0 : ¬ 0 < md := fun z9 => by
      have z := h1
      rw [Int32.le_iff_toInt_le, nI_toInt (by omega)] at z
      have z : ((md : Nat) : Int) ≤ 0 := z
      omega
    refine z_rcs hc hH 1 (pc' := 140) (lv' := [(5, .int (nI k)), (0, .ref 50), (1, .int x1), (2, .int (nI md)), (3, .int (nI p)), (4, .int 1)]) (st' := [.int 0]) (μ' := μ) (by rfl) ?_
    exact t140 0 (Or.inr ⟨rfl, fun z => n0 (hl.mpr z).1⟩)
  · have h1 := cn_le.mp h1
    have g0 : 0 < md := by
      have z := h1
      rw [Int32.not_le, Int32.lt_iff_toInt_lt, nI_toInt (by omega)] at z
      have z : (0 : Int) < ((md : Nat) : Int) := z
      omega
    have em : nI md - 1 = nI (md - 1) := s_1 md (by omega) (by omega)
    have inm : vp_in (nI (md - 1)) 5 := vp_in_nI (by omega) (by decide)
    refine z_rcs hc hH 5 (pc' := 118) (lv' := [(5, .int (nI k)), (0, .ref 50), (1, .int x1), (2, .int (nI md)), (3, .int (nI p)), (4, .int 1)]) (st' := [.int ((nI md) - 1), .ref 54]) (μ' := μ) (by rfl) ?_
    rw [em]
    refine zq_iald hc hH (by rfl) 5 (by decide +kernel) (inm) ?_
    rw [nI_clamp (n := md - 1) (by omega)]
    refine zq_if hc hH (by rfl) (tg := 139) (by rfl) (fun h2 => ?_) (fun h2 => ?_)
    · have h2 := cm_ne.mp h2
      have n1 := h2
      refine z_rcs hc hH 1 (pc' := 140) (lv' := [(5, .int (nI k)), (0, .ref 50), (1, .int x1), (2, .int (nI md)), (3, .int (nI p)), (4, .int 1)]) (st' := [.int 0]) (μ' := μ) (by rfl) ?_
      exact t140 0 (Or.inr ⟨rfl, fun z => n1 (hl.mpr z).2.1⟩)
    · have h2 := cn_ne.mp h2
      have g1 := h2
      refine z_rcs hc hH 5 (pc' := 129) (lv' := [(5, .int (nI k)), (0, .ref 50), (1, .int x1), (2, .int (nI md)), (3, .int (nI p)), (4, .int 1)]) (st' := [.int ((nI md) - 1), .ref 55]) (μ' := μ) (by rfl) ?_
      rw [em]
      refine zq_iald hc hH (by rfl) 5 (by decide +kernel) (inm) ?_
      rw [nI_clamp (n := md - 1) (by omega)]
      refine z_rcs hc hH 1 (pc' := 132) (lv' := [(5, .int (nI k)), (0, .ref 50), (1, .int x1), (2, .int (nI md)), (3, .int (nI p)), (4, .int 1)]) (st' := [.int (nI k), .int (μ.1 55 (md - 1))]) (μ' := μ) (by rfl) ?_
      refine zq_ic hc hH (by rfl) (tg := 139) (by rfl) (fun h3 => ?_) (fun h3 => ?_)
      · have h3 := cm_ne.mp h3
        have n2 := h3
        refine z_rcs hc hH 1 (pc' := 140) (lv' := [(5, .int (nI k)), (0, .ref 50), (1, .int x1), (2, .int (nI md)), (3, .int (nI p)), (4, .int 1)]) (st' := [.int 0]) (μ' := μ) (by rfl) ?_
        exact t140 0 (Or.inr ⟨rfl, fun z => n2 (hl.mpr z).2.2⟩)
      · have h3 := cn_ne.mp h3
        have g2 := h3
        refine z_rcs hc hH 2 (pc' := 140) (lv' := [(5, .int (nI k)), (0, .ref 50), (1, .int x1), (2, .int (nI md)), (3, .int (nI p)), (4, .int 1)]) (st' := [.int 1]) (μ' := μ) (by rfl) ?_
        exact t140 1 (Or.inl ⟨rfl, hl.mp ⟨g0, g1, g2⟩⟩)
theorem r76 (d' : Nat) (Z : zK) (μ : zM) (B : Q4 → Prop) (md : Nat) (hc : z_clo z_x0 mi_X7_sets (z_C d') Z) (hr : z_ret mi_X7_sets (fun r μ' => r = none ∧ SV md μ μ' B) Z) (κ : zM) (q p : Nat) (O : SL → Q4 → Prop) (eκ : κ.1 50 4 = nI q) (m fr last : Nat) (x1 : Int32) (hd : 1 ≤ d') (hm : md + (m + 1) + q = 4) (ih : ∀ (μ : zM) (w : Nat → Nat) (fr md last : Nat) (pf : SL), a_H μ → a_Fz mdR κ μ → RW μ 51 w → md + m + q = 4 → fr ≤ 34 → (∀ j, j < fr → w j = 0) → (last = 0 ∨ last = fr + 1) → pf.length = md → PX μ pf → PV pf → (∀ k, k < 34 → ((0 < md ∧ μ.1 54 (md - 1) = 0 ∧ μ.1 55 (md - 1) = nI k) ↔ last = k + 1)) → z_C d' mi_X7_sets [.ref 50, .int (nI fr), .int (nI md), .int (nI p), .int 1] μ (fun r μ' => r = none ∧ SV md μ μ' (SS O pf w m last))) (w : Nat → Nat) (pf : SL) (hH0 : a_H μ) (hF0 : a_Fz mdR κ μ) (hw : RW μ 51 w) (hpl : pf.length = md) (hpx : PX μ pf) (hpv : PV pf) (hzf : ∀ j, j < fr → w j = 0) (hla : last = 0 ∨ last = fr + 1) (hB : ∀ x, B x ↔ SS O pf w (m + 1) last x) (hl : ∀ k, k < 34 → ((0 < md ∧ μ.1 54 (md - 1) = 0 ∧ μ.1 55 (md - 1) = nI k) ↔ last = k + 1)) : ∀ n i, i + n = 34 → fr ≤ i → (∀ j, j < i → w j = 0) → Z 0 76 [(5, .int (nI i)), (0, .ref 50), (1, .int x1), (2, .int (nI md)), (3, .int (nI p)), (4, .int 1)] [] μ := by
  have hH := zh_X7_sets
  intro n
  induction n with
  | zero =>
    intro i hi hfi hz
    have hi : i = 34 := by omega
    subst hi
    refine z_rcs hc hH 2 (pc' := 80) (lv' := [(5, .int (nI 34)), (0, .ref 50), (1, .int x1), (2, .int (nI md)), (3, .int (nI p)), (4, .int 1)]) (st' := [.int 34, .int (nI 34)]) (μ' := μ) (by rfl) ?_
    refine zq_ic hc hH (by rfl) (tg := 99) (by rfl) (fun _ => ?_) (fun h9 => (zb_t (ge_nIt (n := 34) (i := 34) (by decide) (by decide)) h9).elim)
    refine z_rcs hc hH 2 (pc' := 103) (lv' := [(5, .int (nI 34)), (0, .ref 50), (1, .int x1), (2, .int (nI md)), (3, .int (nI p)), (4, .int 1)]) (st' := [.int 34, .int (nI 34)]) (μ' := μ) (by rfl) ?_
    refine zq_ic hc hH (by rfl) (tg := 107) (by rfl) (fun h9 => (zb_t h9 (cn_ne.mpr rfl)).elim) (fun _ => ?_)
    exact hr 0 106 _ _ _ none (by decide +kernel) (by rfl) (⟨rfl, SV_rf hH0 (fun x z => SS_e hz ((hB x).mp z))⟩)
  | succ n ihn =>
    intro i hi hfi hz
    have hin : vp_in (nI i) 34 := vp_in_nI (by omega) (by decide)
    refine z_rcs hc hH 2 (pc' := 80) (lv' := [(5, .int (nI i)), (0, .ref 50), (1, .int x1), (2, .int (nI md)), (3, .int (nI p)), (4, .int 1)]) (st' := [.int 34, .int (nI i)]) (μ' := μ) (by rfl) ?_
    refine zq_ic hc hH (by rfl) (tg := 99) (by rfl) (fun h9 => (zb_t h9 (ge_nI (n := 34) (i := i) (by omega) (by decide))).elim) (fun _ => ?_)
    refine z_rcs hc hH 3 (pc' := 89) (lv' := [(5, .int (nI i)), (0, .ref 50), (1, .int x1), (2, .int (nI md)), (3, .int (nI p)), (4, .int 1)]) (st' := [.int (nI i), .ref 51]) (μ' := μ) (by rfl) ?_
    refine zq_iald hc hH (by rfl) 34 (by decide +kernel) (hin) ?_
    rw [nI_clamp (n := i) (by omega), (hw i (by omega)).1]
    refine zq_if hc hH (by rfl) (tg := 99) (by rfl) (fun h1 => ?_) (fun h1 => ?_)
    · have h1 := cm_ne.mp h1
      have wi : w i ≠ 0 := fun e => h1 (by rw [e]; rfl)
      refine z_rcs hc hH 2 (pc' := 103) (lv' := [(5, .int (nI i)), (0, .ref 50), (1, .int x1), (2, .int (nI md)), (3, .int (nI p)), (4, .int 1)]) (st' := [.int 34, .int (nI i)]) (μ' := μ) (by rfl) ?_
      refine zq_ic hc hH (by rfl) (tg := 107) (by rfl) (fun _ => ?_) (fun h9 => (zb_t (cm_ne.mpr (fun z => by have := (nI_eq (a := i) (b := 34) (by omega) (by omega)).mp z; omega)) h9).elim)
      exact r107 d' Z μ B md hc hr κ q p O eκ m i last x1 hd hm (by omega) ih w pf hH0 hF0 hw hpl hpx hpv hz wi (fun x => (hB x).trans (SS_s (by omega) wi hz (by omega))) (hl i (by omega))
    · have h1 := cn_ne.mp h1
      refine z_rcs hc hH 2 (pc' := 76) (lv' := [(5, .int ((nI i) + 1)), (0, .ref 50), (1, .int x1), (2, .int (nI md)), (3, .int (nI p)), (4, .int 1)]) (st' := []) (μ' := μ) (by rfl) ?_
      have wi : w i = 0 := (nI_eq (by have := (hw i (by omega)).2; omega) (by omega)).mp h1
      rw [nI_1]
      exact ihn (i + 1) (by omega) (by omega) (fun j hj => if e : j = i then (by rw [e]; exact wi) else hz j (by omega))
theorem fr_X7_sets (κ : zM) (q p : Nat) (O : SL → Q4 → Prop) (eκ : κ.1 50 4 = nI q) (hq : q ≤ 4) (dw : Nat) (hdw : 1 ≤ dw) (hway : HW dw κ q p O) : ∀ (m d : Nat), m + 1 + dw ≤ d → ∀ (μ : zM) (w : Nat → Nat) (fr md last : Nat) (pf : SL), a_H μ → a_Fz mdR κ μ → RW μ 51 w → md + m + q = 4 → fr ≤ 34 → (∀ j, j < fr → w j = 0) → (last = 0 ∨ last = fr + 1) → pf.length = md → PX μ pf → PV pf → (∀ k, k < 34 → ((0 < md ∧ μ.1 54 (md - 1) = 0 ∧ μ.1 55 (md - 1) = nI k) ↔ last = k + 1)) → z_C d mi_X7_sets [.ref 50, .int (nI fr), .int (nI md), .int (nI p), .int 1] μ (fun r μ' => r = none ∧ SV md μ μ' (SS O pf w m last)) := by
  intro m
  induction m with
  | zero =>
    intro d hd μ w fr md last pf hH0 hF0 hw hm hf hzf hla hpl hpx hpv hl
    have e4 : μ.1 50 4 = nI q := (a_Fz_at hF0 50 4 (by decide +kernel)).trans eκ
    refine z_C_in (by decide) (by omega) (fun d' Z ed hc hr => ?_)
    have hH := zh_X7_sets
    refine z_rcs hc hH 5 (pc' := 7) (lv' := [(0, .ref 50), (1, .int (nI fr)), (2, .int (nI md)), (3, .int (nI p)), (4, .int 1)]) (st' := [.int (4 - (μ.1 50 4)), .int (nI md)]) (μ' := μ) (by rfl) ?_
    refine zq_ic hc hH (by rfl) (tg := 73) (by rfl) (fun h9 => (zb_t h9 (cn_ne.mpr (by rw [e4, s_4 q (by omega), show 4 - q = md by omega]))).elim) (fun _ => ?_)
    refine z_rcs hc hH 4 (pc' := 16) (lv' := [(6, .int 0), (5, .int 1), (0, .ref 50), (1, .int (nI fr)), (2, .int (nI md)), (3, .int (nI p)), (4, .int 1)]) (st' := []) (μ' := μ) (by rfl) ?_
    exact re16 d' Z μ _ md hc hr κ q p O eκ dw hway (by omega) _ w pf hH0 hF0 hw hpl (by omega) hpx hpv (fun h x => SS_0 h) (fun h x => SS_n h) 34 0 (by omega) 1 (Or.inl ⟨rfl, fun j hj => absurd hj (by omega)⟩)
  | succ m ih =>
    intro d hd μ w fr md last pf hH0 hF0 hw hm hf hzf hla hpl hpx hpv hl
    have e4 : μ.1 50 4 = nI q := (a_Fz_at hF0 50 4 (by decide +kernel)).trans eκ
    refine z_C_in (by decide) (by omega) (fun d' Z ed hc hr => ?_)
    have hH := zh_X7_sets
    refine z_rcs hc hH 5 (pc' := 7) (lv' := [(0, .ref 50), (1, .int (nI fr)), (2, .int (nI md)), (3, .int (nI p)), (4, .int 1)]) (st' := [.int (4 - (μ.1 50 4)), .int (nI md)]) (μ' := μ) (by rfl) ?_
    refine zq_ic hc hH (by rfl) (tg := 73) (by rfl) (fun _ => ?_) (fun h9 => (zb_t (cm_ne.mpr (fun z => by rw [e4, s_4 q (by omega)] at z; have := (nI_eq (by omega) (by omega)).mp z; omega)) h9).elim)
    refine z_rcs hc hH 2 (pc' := 76) (lv' := [(5, .int (nI fr)), (0, .ref 50), (1, .int (nI fr)), (2, .int (nI md)), (3, .int (nI p)), (4, .int 1)]) (st' := []) (μ' := μ) (by rfl) ?_
    exact r76 d' Z μ _ md hc hr κ q p O eκ m fr last _ (by omega) hm (fun μ w fr md last pf a b c e f g h i j k l => ih d' (by omega) μ w fr md last pf a b c e f g h i j k l) w pf hH0 hF0 hw hpl hpx hpv hzf hla (fun x => Iff.rfl) hl (34 - fr) fr (by omega) (Nat.le_refl _) hzf
/-! the reference's reckoning: its leaves -/
/-- a way's SETS as the reference has them -/
noncomputable def AY (μ : zM) (s l : Nat → Nat) : Prop := ∀ i, i < 4 → μ.1 56 i = nI (s i) ∧ s i ≤ 3 ∧ μ.1 57 i = nI (l i) ∧ l i < 34
noncomputable def t4 (s l : Nat → Nat) (c : Nat) : Prop := ∃ j, j < 4 ∧ s j ≠ 0 ∧ l j = c
noncomputable def r4 (s l : Nat → Nat) (c : Nat) : Prop := ∃ j, j < 4 ∧ s j = 0 ∧ l j = c
theorem zh_X7_isDragon : zH mi_X7_isDragon zt_X7_isDragon 79 7 1 := hh_X7_isDragon
theorem fc_X7_isDragon (d : Nat) (hd : 1 ≤ d) (μ : zM) (k : Int32) : z_C d mi_X7_isDragon [.int k] μ (zB μ (¬ k ≤ 30)) := by
  refine z_C_in (by decide) (by omega) (fun d' Z ed hc hr => ?_)
  have hH := zh_X7_isDragon
  refine z_rcs hc hH 2 (pc' := 3) (lv' := [(0, .int k)]) (st' := [.int 30, .int k]) (μ' := μ) (by rfl) ?_
  refine zq_ic hc hH (by rfl) (tg := 10) (by rfl) (fun h1 => ?_) (fun h1 => ?_)
  · have h1 := cm_le.mp h1
    refine z_rcs hc hH 1 (pc' := 11) (lv' := [(0, .int k)]) (st' := [.int 0]) (μ' := μ) (by rfl) ?_
    exact hr 0 11 _ _ _ (some (.int 0)) (by decide +kernel) (z_rx_ok hH (by rfl)) (⟨rfl, Or.inr ⟨rfl, fun q => q h1⟩⟩)
  · have h1 := cn_le.mp h1
    refine z_rcs hc hH 2 (pc' := 11) (lv' := [(0, .int k)]) (st' := [.int 1]) (μ' := μ) (by rfl) ?_
    exact hr 0 11 _ _ _ (some (.int 1)) (by decide +kernel) (z_rx_ok hH (by rfl)) (⟨rfl, Or.inl ⟨rfl, h1⟩⟩)
theorem zh_X7_bit : zH mi_X7_bit zt_X7_bit 79 7 1 := hh_X7_bit
theorem fc_X7_bit (d : Nat) (hd : 1 ≤ d) (μ : zM) (k : Int32) : z_C d mi_X7_bit [.int k] μ (zR μ (.long ((1 : Int64) <<< (k.toInt64 &&& 63)))) := by
  refine z_C_in (by decide) (by omega) (fun d' Z ed hc hr => ?_)
  have hH := zh_X7_bit
  refine z_rcs hc hH 3 (pc' := 3) (lv' := [(0, .int k)]) (st' := [.long (1 <<< (k.toInt64 &&& 63))]) (μ' := μ) (by rfl) ?_
  exact hr 0 3 _ _ _ (some (.long (1 <<< (k.toInt64 &&& 63)))) (by decide +kernel) (z_rx_ok hH (by rfl)) (⟨rfl, rfl⟩)
theorem zh_X7_hasThree : zH mi_X7_hasThree zt_X7_hasThree 79 7 4 := hh_X7_hasThree
theorem fc_X7_hasThree (d : Nat) (hd : 1 ≤ d) (μ : zM) (s l : Nat → Nat) (hA : AY μ s l) (c : Nat) (hcc : c < 100) : z_C d mi_X7_hasThree [.ref 50, .int (nI c)] μ (zB μ (t4 s l c)) := by
  refine z_C_in (by decide) (by omega) (fun d' Z ed hc hr => ?_)
  have hH := zh_X7_hasThree
  have lp : ∀ (n i : Nat), i + n = 4 → ∀ x : Int32, (x = 1 ∧ ∃ j, j < i ∧ (s j ≠ 0 ∧ l j = c)) ∨ (x = 0 ∧ ¬ ∃ j, j < i ∧ (s j ≠ 0 ∧ l j = c)) → Z 0 4 [(3, .int (nI i)), (2, .int x), (0, .ref 50), (1, .int (nI c))] [] μ := by
    intro n
    induction n with
    | zero =>
      intro i hi x hx
      have hi : i = 4 := by omega
      subst hi
      rcases hx with ⟨rfl, hz⟩ | ⟨rfl, hz⟩
      · skip
        refine z_rcs hc hH 2 (pc' := 6) (lv' := [(3, .int (nI 4)), (2, .int 1), (0, .ref 50), (1, .int (nI c))]) (st' := [.int 4, .int (nI 4)]) (μ' := μ) (by rfl) ?_
        refine zq_ic hc hH (by rfl) (tg := 44) (by rfl) (fun _ => ?_) (fun h9 => (zb_t (ge_nIt (n := 4) (i := 4) (by decide) (by decide)) h9).elim)
        refine z_rcs hc hH 1 (pc' := 45) (lv' := [(3, .int (nI 4)), (2, .int 1), (0, .ref 50), (1, .int (nI c))]) (st' := [.int 1]) (μ' := μ) (by rfl) ?_
        exact hr 0 45 _ _ _ (some (.int 1)) (by decide +kernel) (z_rx_ok hH (by rfl)) (⟨rfl, Or.inl ⟨rfl, hz⟩⟩)
      · skip
        refine z_rcs hc hH 2 (pc' := 6) (lv' := [(3, .int (nI 4)), (2, .int 0), (0, .ref 50), (1, .int (nI c))]) (st' := [.int 4, .int (nI 4)]) (μ' := μ) (by rfl) ?_
        refine zq_ic hc hH (by rfl) (tg := 44) (by rfl) (fun _ => ?_) (fun h9 => (zb_t (ge_nIt (n := 4) (i := 4) (by decide) (by decide)) h9).elim)
        refine z_rcs hc hH 1 (pc' := 45) (lv' := [(3, .int (nI 4)), (2, .int 0), (0, .ref 50), (1, .int (nI c))]) (st' := [.int 0]) (μ' := μ) (by rfl) ?_
        exact hr 0 45 _ _ _ (some (.int 0)) (by decide +kernel) (z_rx_ok hH (by rfl)) (⟨rfl, Or.inr ⟨rfl, hz⟩⟩)
    | succ n ih =>
      intro i hi x hx
      have hin : vp_in (nI i) 4 := vp_in_nI (by omega) (by decide)
      have a := hA i (by omega)
      rcases hx with ⟨rfl, hz⟩ | ⟨rfl, hz⟩
      · skip
        refine z_rcs hc hH 2 (pc' := 6) (lv' := [(3, .int (nI i)), (2, .int 1), (0, .ref 50), (1, .int (nI c))]) (st' := [.int 4, .int (nI i)]) (μ' := μ) (by rfl) ?_
        refine zq_ic hc hH (by rfl) (tg := 44) (by rfl) (fun h9 => (zb_t h9 (ge_nI (n := 4) (i := i) (by omega) (by decide))).elim) (fun _ => ?_)
        refine z_rcs hc hH 7 (pc' := 4) (lv' := [(3, .int ((nI i) + 1)), (2, .int 1), (0, .ref 50), (1, .int (nI c))]) (st' := []) (μ' := μ) (by rfl) ?_
        rw [nI_1]
        exact ih (i + 1) (by omega) 1 (Or.inl ⟨rfl, hz.elim fun j hj => ⟨j, by omega, hj.2⟩⟩)
      · skip
        refine z_rcs hc hH 2 (pc' := 6) (lv' := [(3, .int (nI i)), (2, .int 0), (0, .ref 50), (1, .int (nI c))]) (st' := [.int 4, .int (nI i)]) (μ' := μ) (by rfl) ?_
        refine zq_ic hc hH (by rfl) (tg := 44) (by rfl) (fun h9 => (zb_t h9 (ge_nI (n := 4) (i := i) (by omega) (by decide))).elim) (fun _ => ?_)
        refine z_rcs hc hH 5 (pc' := 18) (lv' := [(3, .int (nI i)), (2, .int 0), (0, .ref 50), (1, .int (nI c))]) (st' := [.int (nI i), .ref 56]) (μ' := μ) (by rfl) ?_
        refine zq_iald hc hH (by rfl) 4 (by decide +kernel) (hin) ?_
        rw [nI_clamp (n := i) (by omega), a.1]
        refine zq_if hc hH (by rfl) (tg := 36) (by rfl) (fun h1 => ?_) (fun h1 => ?_)
        · have h1 := cm_eq9.mp h1
          refine z_rcs hc hH 4 (pc' := 4) (lv' := [(3, .int ((nI i) + 1)), (2, .int 0), (0, .ref 50), (1, .int (nI c))]) (st' := []) (μ' := μ) (by rfl) ?_
          rw [nI_1]
          have g : s i = 0 := (nI_eq (by omega) (by decide)).mp h1
          exact ih (i + 1) (by omega) 0 (Or.inr ⟨rfl, fun ⟨j, hj, hp⟩ => if e : j = i then (by rw [e] at hp; exact hp.1 g) else hz ⟨j, by omega, hp⟩⟩)
        · have h1 := cn_eq.mp h1
          refine z_rcs hc hH 3 (pc' := 27) (lv' := [(3, .int (nI i)), (2, .int 0), (0, .ref 50), (1, .int (nI c))]) (st' := [.int (nI i), .ref 57]) (μ' := μ) (by rfl) ?_
          refine zq_iald hc hH (by rfl) 4 (by decide +kernel) (hin) ?_
          rw [nI_clamp (n := i) (by omega), a.2.2.1]
          refine z_rcs hc hH 1 (pc' := 29) (lv' := [(3, .int (nI i)), (2, .int 0), (0, .ref 50), (1, .int (nI c))]) (st' := [.int (nI c), .int (nI (l i))]) (μ' := μ) (by rfl) ?_
          refine zq_ic hc hH (by rfl) (tg := 36) (by rfl) (fun h2 => ?_) (fun h2 => ?_)
          · have h2 := cm_ne.mp h2
            refine z_rcs hc hH 4 (pc' := 4) (lv' := [(3, .int ((nI i) + 1)), (2, .int 0), (0, .ref 50), (1, .int (nI c))]) (st' := []) (μ' := μ) (by rfl) ?_
            rw [nI_1]
            have g : s i ≠ 0 := fun e => h1 (by rw [e]; rfl)
            exact ih (i + 1) (by omega) 0 (Or.inr ⟨rfl, fun ⟨j, hj, hp⟩ => if e : j = i then (by rw [e] at hp; exact h2 (by rw [hp.2])) else hz ⟨j, by omega, hp⟩⟩)
          · have h2 := cn_ne.mp h2
            refine z_rcs hc hH 5 (pc' := 4) (lv' := [(3, .int ((nI i) + 1)), (2, .int 1), (0, .ref 50), (1, .int (nI c))]) (st' := []) (μ' := μ) (by rfl) ?_
            rw [nI_1]
            have g : s i ≠ 0 := fun e => h1 (by rw [e]; rfl)
            exact ih (i + 1) (by omega) 1 (Or.inl ⟨rfl, i, by omega, g, (nI_eq (by omega) (by omega)).mp h2⟩)
  refine z_rcs hc hH 4 (pc' := 4) (lv' := [(3, .int 0), (2, .int 0), (0, .ref 50), (1, .int (nI c))]) (st' := []) (μ' := μ) (by rfl) ?_
  exact lp 4 0 rfl 0 (Or.inr ⟨rfl, fun ⟨j, hj, _⟩ => absurd hj (by omega)⟩)
theorem zh_X7_hasRun : zH mi_X7_hasRun zt_X7_hasRun 79 7 4 := hh_X7_hasRun
theorem fc_X7_hasRun (d : Nat) (hd : 1 ≤ d) (μ : zM) (s l : Nat → Nat) (hA : AY μ s l) (c : Nat) (hcc : c < 100) : z_C d mi_X7_hasRun [.ref 50, .int (nI c)] μ (zB μ (r4 s l c)) := by
  refine z_C_in (by decide) (by omega) (fun d' Z ed hc hr => ?_)
  have hH := zh_X7_hasRun
  have lp : ∀ (n i : Nat), i + n = 4 → ∀ x : Int32, (x = 1 ∧ ∃ j, j < i ∧ (s j = 0 ∧ l j = c)) ∨ (x = 0 ∧ ¬ ∃ j, j < i ∧ (s j = 0 ∧ l j = c)) → Z 0 4 [(3, .int (nI i)), (2, .int x), (0, .ref 50), (1, .int (nI c))] [] μ := by
    intro n
    induction n with
    | zero =>
      intro i hi x hx
      have hi : i = 4 := by omega
      subst hi
      rcases hx with ⟨rfl, hz⟩ | ⟨rfl, hz⟩
      · skip
        refine z_rcs hc hH 2 (pc' := 6) (lv' := [(3, .int (nI 4)), (2, .int 1), (0, .ref 50), (1, .int (nI c))]) (st' := [.int 4, .int (nI 4)]) (μ' := μ) (by rfl) ?_
        refine zq_ic hc hH (by rfl) (tg := 44) (by rfl) (fun _ => ?_) (fun h9 => (zb_t (ge_nIt (n := 4) (i := 4) (by decide) (by decide)) h9).elim)
        refine z_rcs hc hH 1 (pc' := 45) (lv' := [(3, .int (nI 4)), (2, .int 1), (0, .ref 50), (1, .int (nI c))]) (st' := [.int 1]) (μ' := μ) (by rfl) ?_
        exact hr 0 45 _ _ _ (some (.int 1)) (by decide +kernel) (z_rx_ok hH (by rfl)) (⟨rfl, Or.inl ⟨rfl, hz⟩⟩)
      · skip
        refine z_rcs hc hH 2 (pc' := 6) (lv' := [(3, .int (nI 4)), (2, .int 0), (0, .ref 50), (1, .int (nI c))]) (st' := [.int 4, .int (nI 4)]) (μ' := μ) (by rfl) ?_
        refine zq_ic hc hH (by rfl) (tg := 44) (by rfl) (fun _ => ?_) (fun h9 => (zb_t (ge_nIt (n := 4) (i := 4) (by decide) (by decide)) h9).elim)
        refine z_rcs hc hH 1 (pc' := 45) (lv' := [(3, .int (nI 4)), (2, .int 0), (0, .ref 50), (1, .int (nI c))]) (st' := [.int 0]) (μ' := μ) (by rfl) ?_
        exact hr 0 45 _ _ _ (some (.int 0)) (by decide +kernel) (z_rx_ok hH (by rfl)) (⟨rfl, Or.inr ⟨rfl, hz⟩⟩)
    | succ n ih =>
      intro i hi x hx
      have hin : vp_in (nI i) 4 := vp_in_nI (by omega) (by decide)
      have a := hA i (by omega)
      rcases hx with ⟨rfl, hz⟩ | ⟨rfl, hz⟩
      · skip
        refine z_rcs hc hH 2 (pc' := 6) (lv' := [(3, .int (nI i)), (2, .int 1), (0, .ref 50), (1, .int (nI c))]) (st' := [.int 4, .int (nI i)]) (μ' := μ) (by rfl) ?_
        refine zq_ic hc hH (by rfl) (tg := 44) (by rfl) (fun h9 => (zb_t h9 (ge_nI (n := 4) (i := i) (by omega) (by decide))).elim) (fun _ => ?_)
        refine z_rcs hc hH 7 (pc' := 4) (lv' := [(3, .int ((nI i) + 1)), (2, .int 1), (0, .ref 50), (1, .int (nI c))]) (st' := []) (μ' := μ) (by rfl) ?_
        rw [nI_1]
        exact ih (i + 1) (by omega) 1 (Or.inl ⟨rfl, hz.elim fun j hj => ⟨j, by omega, hj.2⟩⟩)
      · skip
        refine z_rcs hc hH 2 (pc' := 6) (lv' := [(3, .int (nI i)), (2, .int 0), (0, .ref 50), (1, .int (nI c))]) (st' := [.int 4, .int (nI i)]) (μ' := μ) (by rfl) ?_
        refine zq_ic hc hH (by rfl) (tg := 44) (by rfl) (fun h9 => (zb_t h9 (ge_nI (n := 4) (i := i) (by omega) (by decide))).elim) (fun _ => ?_)
        refine z_rcs hc hH 5 (pc' := 18) (lv' := [(3, .int (nI i)), (2, .int 0), (0, .ref 50), (1, .int (nI c))]) (st' := [.int (nI i), .ref 56]) (μ' := μ) (by rfl) ?_
        refine zq_iald hc hH (by rfl) 4 (by decide +kernel) (hin) ?_
        rw [nI_clamp (n := i) (by omega), a.1]
        refine zq_if hc hH (by rfl) (tg := 36) (by rfl) (fun h1 => ?_) (fun h1 => ?_)
        · have h1 := cm_ne.mp h1
          refine z_rcs hc hH 4 (pc' := 4) (lv' := [(3, .int ((nI i) + 1)), (2, .int 0), (0, .ref 50), (1, .int (nI c))]) (st' := []) (μ' := μ) (by rfl) ?_
          rw [nI_1]
          have g : s i ≠ 0 := fun e => h1 (by rw [e]; rfl)
          exact ih (i + 1) (by omega) 0 (Or.inr ⟨rfl, fun ⟨j, hj, hp⟩ => if e : j = i then (by rw [e] at hp; exact g hp.1) else hz ⟨j, by omega, hp⟩⟩)
        · have h1 := cn_ne.mp h1
          refine z_rcs hc hH 3 (pc' := 27) (lv' := [(3, .int (nI i)), (2, .int 0), (0, .ref 50), (1, .int (nI c))]) (st' := [.int (nI i), .ref 57]) (μ' := μ) (by rfl) ?_
          refine zq_iald hc hH (by rfl) 4 (by decide +kernel) (hin) ?_
          rw [nI_clamp (n := i) (by omega), a.2.2.1]
          refine z_rcs hc hH 1 (pc' := 29) (lv' := [(3, .int (nI i)), (2, .int 0), (0, .ref 50), (1, .int (nI c))]) (st' := [.int (nI c), .int (nI (l i))]) (μ' := μ) (by rfl) ?_
          refine zq_ic hc hH (by rfl) (tg := 36) (by rfl) (fun h2 => ?_) (fun h2 => ?_)
          · have h2 := cm_ne.mp h2
            refine z_rcs hc hH 4 (pc' := 4) (lv' := [(3, .int ((nI i) + 1)), (2, .int 0), (0, .ref 50), (1, .int (nI c))]) (st' := []) (μ' := μ) (by rfl) ?_
            rw [nI_1]
            have g : s i = 0 := (nI_eq (by omega) (by decide)).mp h1
            exact ih (i + 1) (by omega) 0 (Or.inr ⟨rfl, fun ⟨j, hj, hp⟩ => if e : j = i then (by rw [e] at hp; exact h2 (by rw [hp.2])) else hz ⟨j, by omega, hp⟩⟩)
          · have h2 := cn_ne.mp h2
            refine z_rcs hc hH 5 (pc' := 4) (lv' := [(3, .int ((nI i) + 1)), (2, .int 1), (0, .ref 50), (1, .int (nI c))]) (st' := []) (μ' := μ) (by rfl) ?_
            rw [nI_1]
            have g : s i = 0 := (nI_eq (by omega) (by decide)).mp h1
            exact ih (i + 1) (by omega) 1 (Or.inl ⟨rfl, i, by omega, g, (nI_eq (by omega) (by omega)).mp h2⟩)
  refine z_rcs hc hH 4 (pc' := 4) (lv' := [(3, .int 0), (2, .int 0), (0, .ref 50), (1, .int (nI c))]) (st' := []) (μ' := μ) (by rfl) ?_
  exact lp 4 0 rfl 0 (Or.inr ⟨rfl, fun ⟨j, hj, _⟩ => absurd hj (by omega)⟩)
noncomputable def hid (s : Nat → Nat) (q co : Nat) (dr : Prop) (i : Nat) : Prop := s i = 3 ∨ (q ≤ i ∧ s i = 1 ∧ (dr ∨ co ≠ i))
theorem zh_X7_isHidden : zH mi_X7_isHidden zt_X7_isHidden 79 7 2 := hh_X7_isHidden
theorem fc_X7_isHidden (d : Nat) (hd : 1 ≤ d) (μ : zM) (s l : Nat → Nat) (hA : AY μ s l) (q co i : Nat) (hq : q ≤ 4) (hco : co ≤ 4) (hi : i < 4) (e4 : μ.1 50 4 = nI q) (ec : μ.1 50 22 = nI co) : z_C d mi_X7_isHidden [.ref 50, .int (nI i)] μ (zB μ (hid s q co (¬ μ.1 50 11 = 0) i)) := by
  refine z_C_in (by decide) (by omega) (fun d' Z ed hc hr => ?_)
  have hH := zh_X7_isHidden
  have hin : vp_in (nI i) 4 := vp_in_nI hi (by decide)
  have a := hA i hi
  refine z_rcs hc hH 3 (pc' := 5) (lv' := [(0, .ref 50), (1, .int (nI i))]) (st' := [.int (nI i), .ref 56]) (μ' := μ) (by rfl) ?_
  refine zq_iald hc hH (by rfl) 4 (by decide +kernel) (hin) ?_
  rw [nI_clamp (n := i) (by omega), a.1]
  refine z_rcs hc hH 1 (pc' := 7) (lv' := [(0, .ref 50), (1, .int (nI i))]) (st' := [.int 3, .int (nI (s i))]) (μ' := μ) (by rfl) ?_
  refine zq_ic hc hH (by rfl) (tg := 12) (by rfl) (fun h1 => ?_) (fun h1 => ?_)
  · have h1 := cm_ne.mp h1
    refine z_rcs hc hH 3 (pc' := 17) (lv' := [(0, .ref 50), (1, .int (nI i))]) (st' := [.int (μ.1 50 4), .int (nI i)]) (μ' := μ) (by rfl) ?_
    refine zq_ic hc hH (by rfl) (tg := 49) (by rfl) (fun h2 => ?_) (fun h2 => ?_)
    · have h2 := cm_lt.mp h2
      refine z_rcs hc hH 1 (pc' := 50) (lv' := [(0, .ref 50), (1, .int (nI i))]) (st' := [.int 0]) (μ' := μ) (by rfl) ?_
      have lt : i < q := by
        have z := h2
        rw [e4, Int32.lt_iff_toInt_lt, nI_toInt (by omega), nI_toInt (by omega)] at z
        omega
      exact hr 0 50 _ _ _ (some (.int 0)) (by decide +kernel) (z_rx_ok hH (by rfl)) (⟨rfl, Or.inr ⟨rfl, fun z => z.elim (fun e => h1 (by rw [e]; rfl)) (fun y => absurd y.1 (by omega))⟩⟩)
    · have h2 := cn_lt.mp h2
      refine z_rcs hc hH 3 (pc' := 25) (lv' := [(0, .ref 50), (1, .int (nI i))]) (st' := [.int (nI i), .ref 56]) (μ' := μ) (by rfl) ?_
      refine zq_iald hc hH (by rfl) 4 (by decide +kernel) (hin) ?_
      rw [nI_clamp (n := i) (by omega), a.1]
      refine z_rcs hc hH 1 (pc' := 27) (lv' := [(0, .ref 50), (1, .int (nI i))]) (st' := [.int 1, .int (nI (s i))]) (μ' := μ) (by rfl) ?_
      refine zq_ic hc hH (by rfl) (tg := 49) (by rfl) (fun h3 => ?_) (fun h3 => ?_)
      · have h3 := cm_ne.mp h3
        refine z_rcs hc hH 1 (pc' := 50) (lv' := [(0, .ref 50), (1, .int (nI i))]) (st' := [.int 0]) (μ' := μ) (by rfl) ?_
        have le : q ≤ i := by
          have z := h2
          rw [e4, Int32.not_lt, Int32.le_iff_toInt_le, nI_toInt (by omega), nI_toInt (by omega)] at z
          omega
        exact hr 0 50 _ _ _ (some (.int 0)) (by decide +kernel) (z_rx_ok hH (by rfl)) (⟨rfl, Or.inr ⟨rfl, fun z => z.elim (fun e => h1 (by rw [e]; rfl)) (fun y => h3 (by rw [y.2.1]; rfl))⟩⟩)
      · have h3 := cn_ne.mp h3
        refine z_rcs hc hH 2 (pc' := 34) (lv' := [(0, .ref 50), (1, .int (nI i))]) (st' := [.int (μ.1 50 11)]) (μ' := μ) (by rfl) ?_
        refine zq_if hc hH (by rfl) (tg := 45) (by rfl) (fun h4 => ?_) (fun h4 => ?_)
        · have h4 := cm_ne.mp h4
          refine z_rcs hc hH 2 (pc' := 50) (lv' := [(0, .ref 50), (1, .int (nI i))]) (st' := [.int 1]) (μ' := μ) (by rfl) ?_
          have le : q ≤ i := by
            have z := h2
            rw [e4, Int32.not_lt, Int32.le_iff_toInt_le, nI_toInt (by omega), nI_toInt (by omega)] at z
            omega
          exact hr 0 50 _ _ _ (some (.int 1)) (by decide +kernel) (z_rx_ok hH (by rfl)) (⟨rfl, Or.inl ⟨rfl, Or.inr ⟨le, (nI_eq (by omega) (by decide)).mp h3, Or.inl h4⟩⟩⟩)
        · have h4 := cn_ne.mp h4
          refine z_rcs hc hH 3 (pc' := 42) (lv' := [(0, .ref 50), (1, .int (nI i))]) (st' := [.int (nI i), .int (μ.1 50 22)]) (μ' := μ) (by rfl) ?_
          refine zq_ic hc hH (by rfl) (tg := 49) (by rfl) (fun h5 => ?_) (fun h5 => ?_)
          · have h5 := cm_eq9.mp h5
            refine z_rcs hc hH 1 (pc' := 50) (lv' := [(0, .ref 50), (1, .int (nI i))]) (st' := [.int 0]) (μ' := μ) (by rfl) ?_
            have le : q ≤ i := by
              have z := h2
              rw [e4, Int32.not_lt, Int32.le_iff_toInt_le, nI_toInt (by omega), nI_toInt (by omega)] at z
              omega
            exact hr 0 50 _ _ _ (some (.int 0)) (by decide +kernel) (z_rx_ok hH (by rfl)) (⟨rfl, Or.inr ⟨rfl, fun z => z.elim (fun e => h1 (by rw [e]; rfl)) (fun y => y.2.2.elim (fun u => u h4) (fun u => u ((nI_eq (by omega) (by omega)).mp (ec.symm.trans h5))))⟩⟩)
          · have h5 := cn_eq.mp h5
            refine z_rcs hc hH 2 (pc' := 50) (lv' := [(0, .ref 50), (1, .int (nI i))]) (st' := [.int 1]) (μ' := μ) (by rfl) ?_
            have le : q ≤ i := by
              have z := h2
              rw [e4, Int32.not_lt, Int32.le_iff_toInt_le, nI_toInt (by omega), nI_toInt (by omega)] at z
              omega
            exact hr 0 50 _ _ _ (some (.int 1)) (by decide +kernel) (z_rx_ok hH (by rfl)) (⟨rfl, Or.inl ⟨rfl, Or.inr ⟨le, (nI_eq (by omega) (by decide)).mp h3, Or.inr (fun e => h5 (by rw [ec, e]))⟩⟩⟩)
  · have h1 := cn_ne.mp h1
    refine z_rcs hc hH 1 (pc' := 11) (lv' := [(0, .ref 50), (1, .int (nI i))]) (st' := [.int 1]) (μ' := μ) (by rfl) ?_
    exact hr 0 11 _ _ _ (some (.int 1)) (by decide +kernel) (z_rx_ok hH (by rfl)) (⟨rfl, Or.inl ⟨rfl, Or.inl ((nI_eq (by omega) (by decide)).mp h1)⟩⟩)
theorem zh_X7_isOpen : zH mi_X7_isOpen zt_X7_isOpen 79 7 3 := hh_X7_isOpen
theorem fc_X7_isOpen (d : Nat) (hd : 1 ≤ d) (μ : zM) (q : Nat) (hq : q ≤ 4) (e4 : μ.1 50 4 = nI q) : z_C d mi_X7_isOpen [.ref 50] μ (zB μ (∃ j, j < q ∧ ¬ μ.1 52 j = 3)) := by
  refine z_C_in (by decide) (by omega) (fun d' Z ed hc hr => ?_)
  have hH := zh_X7_isOpen
  have lp : ∀ (n i : Nat), i + n = q → ∀ x : Int32, (x = 1 ∧ ∃ j, j < i ∧ ¬ μ.1 52 j = 3) ∨ (x = 0 ∧ ¬ ∃ j, j < i ∧ ¬ μ.1 52 j = 3) → Z 0 4 [(2, .int (nI i)), (1, .int x), (0, .ref 50)] [] μ := by
    intro n
    induction n with
    | zero =>
      intro i hi x hx
      have hi : i = q := by omega
      subst hi
      rcases hx with ⟨rfl, hz⟩ | ⟨rfl, hz⟩
      · skip
        refine z_rcs hc hH 3 (pc' := 9) (lv' := [(2, .int (nI i)), (1, .int 1), (0, .ref 50)]) (st' := [.int (μ.1 50 4), .int (nI i)]) (μ' := μ) (by rfl) ?_
        refine zq_ic hc hH (by rfl) (tg := 38) (by rfl) (fun _ => ?_) (fun h9 => (zb_t (by rw [e4]; exact ge_nIt (Nat.le_refl _) (by omega)) h9).elim)
        refine z_rcs hc hH 1 (pc' := 39) (lv' := [(2, .int (nI i)), (1, .int 1), (0, .ref 50)]) (st' := [.int 1]) (μ' := μ) (by rfl) ?_
        exact hr 0 39 _ _ _ (some (.int 1)) (by decide +kernel) (z_rx_ok hH (by rfl)) (⟨rfl, Or.inl ⟨rfl, hz⟩⟩)
      · skip
        refine z_rcs hc hH 3 (pc' := 9) (lv' := [(2, .int (nI i)), (1, .int 0), (0, .ref 50)]) (st' := [.int (μ.1 50 4), .int (nI i)]) (μ' := μ) (by rfl) ?_
        refine zq_ic hc hH (by rfl) (tg := 38) (by rfl) (fun _ => ?_) (fun h9 => (zb_t (by rw [e4]; exact ge_nIt (Nat.le_refl _) (by omega)) h9).elim)
        refine z_rcs hc hH 1 (pc' := 39) (lv' := [(2, .int (nI i)), (1, .int 0), (0, .ref 50)]) (st' := [.int 0]) (μ' := μ) (by rfl) ?_
        exact hr 0 39 _ _ _ (some (.int 0)) (by decide +kernel) (z_rx_ok hH (by rfl)) (⟨rfl, Or.inr ⟨rfl, hz⟩⟩)
    | succ n ih =>
      intro i hi x hx
      have hin : vp_in (nI i) 8 := vp_in_nI (by omega) (by decide)
      rcases hx with ⟨rfl, hz⟩ | ⟨rfl, hz⟩
      · skip
        refine z_rcs hc hH 3 (pc' := 9) (lv' := [(2, .int (nI i)), (1, .int 1), (0, .ref 50)]) (st' := [.int (μ.1 50 4), .int (nI i)]) (μ' := μ) (by rfl) ?_
        refine zq_ic hc hH (by rfl) (tg := 38) (by rfl) (fun h9 => (zb_t h9 (by rw [e4]; exact ge_nI (by omega) (by omega))).elim) (fun _ => ?_)
        refine z_rcs hc hH 7 (pc' := 4) (lv' := [(2, .int ((nI i) + 1)), (1, .int 1), (0, .ref 50)]) (st' := []) (μ' := μ) (by rfl) ?_
        rw [nI_1]
        exact ih (i + 1) (by omega) 1 (Or.inl ⟨rfl, hz.elim fun j hj => ⟨j, by omega, hj.2⟩⟩)
      · skip
        refine z_rcs hc hH 3 (pc' := 9) (lv' := [(2, .int (nI i)), (1, .int 0), (0, .ref 50)]) (st' := [.int (μ.1 50 4), .int (nI i)]) (μ' := μ) (by rfl) ?_
        refine zq_ic hc hH (by rfl) (tg := 38) (by rfl) (fun h9 => (zb_t h9 (by rw [e4]; exact ge_nI (by omega) (by omega))).elim) (fun _ => ?_)
        refine z_rcs hc hH 5 (pc' := 21) (lv' := [(2, .int (nI i)), (1, .int 0), (0, .ref 50)]) (st' := [.int (nI i), .ref 52]) (μ' := μ) (by rfl) ?_
        refine zq_iald hc hH (by rfl) 8 (by decide +kernel) (hin) ?_
        rw [nI_clamp (n := i) (by omega)]
        refine z_rcs hc hH 1 (pc' := 23) (lv' := [(2, .int (nI i)), (1, .int 0), (0, .ref 50)]) (st' := [.int 3, .int (μ.1 52 i)]) (μ' := μ) (by rfl) ?_
        refine zq_ic hc hH (by rfl) (tg := 30) (by rfl) (fun h1 => ?_) (fun h1 => ?_)
        · have h1 := cm_eq9.mp h1
          refine z_rcs hc hH 4 (pc' := 4) (lv' := [(2, .int ((nI i) + 1)), (1, .int 0), (0, .ref 50)]) (st' := []) (μ' := μ) (by rfl) ?_
          rw [nI_1]
          exact ih (i + 1) (by omega) 0 (Or.inr ⟨rfl, fun ⟨j, hj, hp⟩ => if e : j = i then (by rw [e] at hp; exact hp h1) else hz ⟨j, by omega, hp⟩⟩)
        · have h1 := cn_eq.mp h1
          refine z_rcs hc hH 5 (pc' := 4) (lv' := [(2, .int ((nI i) + 1)), (1, .int 1), (0, .ref 50)]) (st' := []) (μ' := μ) (by rfl) ?_
          rw [nI_1]
          exact ih (i + 1) (by omega) 1 (Or.inl ⟨rfl, i, by omega, h1⟩)
  refine z_rcs hc hH 4 (pc' := 4) (lv' := [(2, .int 0), (1, .int 0), (0, .ref 50)]) (st' := []) (μ' := μ) (by rfl) ?_
  exact lp q 0 (by omega) 0 (Or.inr ⟨rfl, fun ⟨j, hj, _⟩ => absurd hj (by omega)⟩)
/-! like RUNS, ends in each SET: as the reference has them -/
/-- a form's bit -/
noncomputable abbrev fbt (f : Nat) : Int64 := (1 : Int64) <<< ((nI f).toInt64 &&& 63)
noncomputable def orb (x : Int64) (c : Prop) (f : Nat) : Int64 := @ite Int64 c (Classical.propDecidable c) (x ||| fbt f) x
theorem orb_t {x : Int64} {c : Prop} {f : Nat} (h : c) : orb x c f = x ||| fbt f := by unfold orb; rw [if_pos h]
theorem orb_f {x : Int64} {c : Prop} {f : Nat} (h : ¬ c) : orb x c f = x := by unfold orb; rw [if_neg h]
/-- only GREAT and plain forms change -/
noncomputable def LG (μ μ' : zM) (g pl : Int64) : Prop := μ'.1 = μ.1 ∧ μ'.2.1 50 24 = g ∧ μ'.2.1 50 25 = pl ∧ a_Fz [(50, 24), (50, 25)] μ μ'
theorem z_uj_1 (μ : zM) (r k : Nat) (x : Int64) : (z_uj μ r k x).1 = μ.1 := rfl
theorem z_uj_rd (μ : zM) (r k : Nat) (x : Int64) (r' k' : Nat) : (z_uj μ r k x).2.1 r' k' = if r' = r ∧ k' = k then x else μ.2.1 r' k' := by
  by_cases h : r' = r ∧ k' = k
  · rw [if_pos h, h.1, h.2, z_uj_at]
    exact if_pos rfl
  · rw [if_neg h]
    by_cases hr : r' = r
    · subst hr
      rw [z_uj_at, if_neg (fun e => h ⟨rfl, e⟩)]
    · rw [z_uj_ne hr]
theorem LG_rf (μ : zM) : LG μ μ (μ.2.1 50 24) (μ.2.1 50 25) := ⟨rfl, rfl, rfl, a_Fz_rf _ _⟩
theorem LG.pl {μ μ' : zM} {g pl x : Int64} (h : LG μ μ' g pl) : LG μ (z_uj μ' 50 25 x) g x := ⟨(z_uj_1 _ _ _ _).trans h.1, by rw [z_uj_rd, if_neg (by omega)]; exact h.2.1, by rw [z_uj_rd, if_pos ⟨rfl, rfl⟩], a_Fz_uj h.2.2.2 (by decide +kernel)⟩
theorem LG.gr {μ μ' : zM} {g pl x : Int64} (h : LG μ μ' g pl) : LG μ (z_uj μ' 50 24 x) x pl := ⟨(z_uj_1 _ _ _ _).trans h.1, by rw [z_uj_rd, if_pos ⟨rfl, rfl⟩], by rw [z_uj_rd, if_neg (by omega)]; exact h.2.2.1, a_Fz_uj h.2.2.2 (by decide +kernel)⟩
theorem AY.k {μ μ' : zM} {s l : Nat → Nat} (h : AY μ s l) (e : μ'.1 = μ.1) : AY μ' s l := fun i hi => by rw [e]; exact h i hi
/-- like RUNS -/
noncomputable def nr4 (s l : Nat → Nat) (c n : Nat) : Nat := cn (fun i => decide (s i = 0 ∧ l i = c)) n
noncomputable def twn (s l : Nat → Nat) (n : Nat) : Nat := sn (fun c => nr4 s l c 4 / 2) n
theorem cn_ub (b : Nat → Bool) : ∀ n, cn b n ≤ n := by
  intro n
  induction n with
  | zero => exact Nat.le_refl _
  | succ n ih => show cn b n + (if b n = true then 1 else 0) ≤ n + 1; split <;> omega
theorem d_2 : ∀ a, a < 5 → nI a / 2 = nI (a / 2) := by decide +kernel
theorem zh_X7_twins : zH mi_X7_twins zt_X7_twins 79 7 5 := hh_X7_twins
theorem tw15 (d' : Nat) (Z : zK) (hd : 1 ≤ d') (μ : zM) (s l : Nat → Nat) (hA : AY μ s l) (hc : z_clo z_x0 mi_X7_twins (z_C d') Z) (c : Nat) (hcc : c < 27) (x1 : Int32) (K : Z 0 56 [(4, .int (nI 4)), (3, .int (nI (nr4 s l c 4))), (2, .int (nI c)), (1, .int x1), (0, .ref 50)] [] μ) : ∀ n i, i + n = 4 → Z 0 15 [(4, .int (nI i)), (3, .int (nI (nr4 s l c i))), (2, .int (nI c)), (1, .int x1), (0, .ref 50)] [] μ := by
  have hH := zh_X7_twins
  intro n
  induction n with
  | zero =>
    intro i hi
    have hi : i = 4 := by omega
    subst hi
    refine z_rcs hc hH 2 (pc' := 18) (lv' := [(4, .int (nI 4)), (3, .int (nI (nr4 s l c 4))), (2, .int (nI c)), (1, .int x1), (0, .ref 50)]) (st' := [.int 4, .int (nI 4)]) (μ' := μ) (by rfl) ?_
    refine zq_ic hc hH (by rfl) (tg := 56) (by rfl) (fun _ => ?_) (fun h9 => (zb_t (ge_nIt (n := 4) (i := 4) (by decide) (by decide)) h9).elim)
    exact K
  | succ n ih =>
    intro i hi
    have hin : vp_in (nI i) 4 := vp_in_nI (by omega) (by decide)
    have a := hA i (by omega)
    have e : nr4 s l c (i + 1) = nr4 s l c i + (if decide (s i = 0 ∧ l i = c) = true then 1 else 0) := rfl
    refine z_rcs hc hH 2 (pc' := 18) (lv' := [(4, .int (nI i)), (3, .int (nI (nr4 s l c i))), (2, .int (nI c)), (1, .int x1), (0, .ref 50)]) (st' := [.int 4, .int (nI i)]) (μ' := μ) (by rfl) ?_
    refine zq_ic hc hH (by rfl) (tg := 56) (by rfl) (fun h9 => (zb_t h9 (ge_nI (n := 4) (i := i) (by omega) (by decide))).elim) (fun _ => ?_)
    refine z_rcs hc hH 4 (pc' := 28) (lv' := [(4, .int (nI i)), (3, .int (nI (nr4 s l c i))), (2, .int (nI c)), (1, .int x1), (0, .ref 50)]) (st' := [.int (nI i), .ref 56, .int (nI (nr4 s l c i))]) (μ' := μ) (by rfl) ?_
    refine zq_iald hc hH (by rfl) 4 (by decide +kernel) (hin) ?_
    rw [nI_clamp (n := i) (by omega), a.1]
    refine zq_if hc hH (by rfl) (tg := 47) (by rfl) (fun h1 => ?_) (fun h1 => ?_)
    · have h1 := cm_ne.mp h1
      refine z_rcs hc hH 2 (pc' := 49) (lv' := [(4, .int (nI i)), (3, .int (nI (nr4 s l c i))), (2, .int (nI c)), (1, .int x1), (0, .ref 50)]) (st' := [.int ((nI (nr4 s l c i)) + 0)]) (μ' := μ) (by rfl) ?_
      rw [if_neg (by rw [decide_eq_true_iff]; exact fun z => h1 (by rw [z.1]; rfl))] at e
      rw [Int32.add_zero, ← show nr4 s l c (i + 1) = nr4 s l c i from e]
      refine z_rcs hc hH 3 (pc' := 15) (lv' := [(4, .int ((nI i) + 1)), (3, .int (nI (nr4 s l c (i + 1)))), (2, .int (nI c)), (1, .int x1), (0, .ref 50)]) (st' := []) (μ' := μ) (by rfl) ?_
      rw [nI_1]
      exact ih (i + 1) (by omega)
    · have h1 := cn_ne.mp h1
      refine z_rcs hc hH 3 (pc' := 38) (lv' := [(4, .int (nI i)), (3, .int (nI (nr4 s l c i))), (2, .int (nI c)), (1, .int x1), (0, .ref 50)]) (st' := [.int (nI i), .ref 57, .int (nI (nr4 s l c i))]) (μ' := μ) (by rfl) ?_
      refine zq_iald hc hH (by rfl) 4 (by decide +kernel) (hin) ?_
      rw [nI_clamp (n := i) (by omega), a.2.2.1]
      refine z_rcs hc hH 1 (pc' := 40) (lv' := [(4, .int (nI i)), (3, .int (nI (nr4 s l c i))), (2, .int (nI c)), (1, .int x1), (0, .ref 50)]) (st' := [.int (nI c), .int (nI (l i)), .int (nI (nr4 s l c i))]) (μ' := μ) (by rfl) ?_
      refine zq_ic hc hH (by rfl) (tg := 47) (by rfl) (fun h2 => ?_) (fun h2 => ?_)
      · have h2 := cm_ne.mp h2
        refine z_rcs hc hH 2 (pc' := 49) (lv' := [(4, .int (nI i)), (3, .int (nI (nr4 s l c i))), (2, .int (nI c)), (1, .int x1), (0, .ref 50)]) (st' := [.int ((nI (nr4 s l c i)) + 0)]) (μ' := μ) (by rfl) ?_
        rw [if_neg (by rw [decide_eq_true_iff]; exact fun z => h2 (by rw [z.2]))] at e
        rw [Int32.add_zero, ← show nr4 s l c (i + 1) = nr4 s l c i from e]
        refine z_rcs hc hH 3 (pc' := 15) (lv' := [(4, .int ((nI i) + 1)), (3, .int (nI (nr4 s l c (i + 1)))), (2, .int (nI c)), (1, .int x1), (0, .ref 50)]) (st' := []) (μ' := μ) (by rfl) ?_
        rw [nI_1]
        exact ih (i + 1) (by omega)
      · have h2 := cn_ne.mp h2
        refine z_rcs hc hH 3 (pc' := 49) (lv' := [(4, .int (nI i)), (3, .int (nI (nr4 s l c i))), (2, .int (nI c)), (1, .int x1), (0, .ref 50)]) (st' := [.int ((nI (nr4 s l c i)) + 1)]) (μ' := μ) (by rfl) ?_
        rw [if_pos (decide_eq_true ⟨(nI_eq (show s i < 2 ^ 31 by omega) (show 0 < 2 ^ 31 by decide)).mp h1, (nI_eq (by omega) (by omega)).mp h2⟩)] at e
        rw [nI_1, ← e]
        refine z_rcs hc hH 3 (pc' := 15) (lv' := [(4, .int ((nI i) + 1)), (3, .int (nI (nr4 s l c (i + 1)))), (2, .int (nI c)), (1, .int x1), (0, .ref 50)]) (st' := []) (μ' := μ) (by rfl) ?_
        rw [nI_1]
        exact ih (i + 1) (by omega)
theorem tw4 (d' : Nat) (Z : zK) (hd : 1 ≤ d') (μ : zM) (s l : Nat → Nat) (hA : AY μ s l) (hc : z_clo z_x0 mi_X7_twins (z_C d') Z) (K : ∀ x3, Z 0 68 [(2, .int (nI 27)), (1, .int (nI (twn s l 27))), (4, .int (nI 4)), (3, .int x3), (0, .ref 50)] [] μ) : ∀ n c, c + n = 27 → (0 < c → ∀ x3, Z 0 4 [(2, .int (nI c)), (1, .int (nI (twn s l c))), (4, .int (nI 4)), (3, .int x3), (0, .ref 50)] [] μ) ∧ (c = 0 → Z 0 4 [(2, .int (nI 0)), (1, .int (nI 0)), (0, .ref 50)] [] μ) := by
  have hH := zh_X7_twins
  intro n
  induction n with
  | zero =>
    intro c hc0
    have hc0 : c = 27 := by omega
    subst hc0
    refine ⟨fun _ x3 => ?_, fun e => absurd e (by decide)⟩
    refine z_rcs hc hH 2 (pc' := 7) (lv' := [(2, .int (nI 27)), (1, .int (nI (twn s l 27))), (4, .int (nI 4)), (3, .int x3), (0, .ref 50)]) (st' := [.int 27, .int (nI 27)]) (μ' := μ) (by rfl) ?_
    refine zq_ic hc hH (by rfl) (tg := 68) (by rfl) (fun _ => ?_) (fun h9 => (zb_t (ge_nIt (n := 27) (i := 27) (by decide) (by decide)) h9).elim)
    exact K x3
  | succ n ih =>
    intro c hc0
    have ub := cn_ub (fun i => decide (s i = 0 ∧ l i = c)) 4
    have bd : Z 0 15 [(4, .int (nI 0)), (3, .int (nI 0)), (2, .int (nI c)), (1, .int (nI (twn s l c))), (0, .ref 50)] [] μ := by
      refine tw15 d' Z hd μ s l hA hc c (by omega) (nI (twn s l c)) ?_ 4 0 (by omega)
      refine z_rcs hc hH 4 (pc' := 60) (lv' := [(4, .int (nI 4)), (3, .int (nI (nr4 s l c 4))), (2, .int (nI c)), (1, .int (nI (twn s l c))), (0, .ref 50)]) (st' := [.int ((nI (nr4 s l c 4)) / 2), .int (nI (twn s l c))]) (μ' := μ) (by rfl) ?_
      rw [d_2 (nr4 s l c 4) (by show cn _ 4 < 5; omega)]
      refine z_rcs hc hH 1 (pc' := 61) (lv' := [(4, .int (nI 4)), (3, .int (nI (nr4 s l c 4))), (2, .int (nI c)), (1, .int (nI (twn s l c))), (0, .ref 50)]) (st' := [.int ((nI (twn s l c)) + (nI (nr4 s l c 4 / 2)))]) (μ' := μ) (by rfl) ?_
      rw [nI_add]
      refine z_rcs hc hH 3 (pc' := 4) (lv' := [(2, .int ((nI c) + 1)), (1, .int (nI (twn s l c + nr4 s l c 4 / 2))), (4, .int (nI 4)), (3, .int (nI (nr4 s l c 4))), (0, .ref 50)]) (st' := []) (μ' := μ) (by rfl) ?_
      rw [nI_1]
      exact (ih (c + 1) (by omega)).1 (by omega) _
    refine ⟨fun _ x3 => ?_, fun e => ?_⟩
    · skip
      refine z_rcs hc hH 2 (pc' := 7) (lv' := [(2, .int (nI c)), (1, .int (nI (twn s l c))), (4, .int (nI 4)), (3, .int x3), (0, .ref 50)]) (st' := [.int 27, .int (nI c)]) (μ' := μ) (by rfl) ?_
      refine zq_ic hc hH (by rfl) (tg := 68) (by rfl) (fun h9 => (zb_t h9 (ge_nI (n := 27) (i := c) (by omega) (by decide))).elim) (fun _ => ?_)
      refine z_rcs hc hH 4 (pc' := 15) (lv' := [(4, .int 0), (3, .int 0), (2, .int (nI c)), (1, .int (nI (twn s l c))), (0, .ref 50)]) (st' := []) (μ' := μ) (by rfl) ?_
      exact bd
    · subst e
      refine z_rcs hc hH 2 (pc' := 7) (lv' := [(2, .int (nI 0)), (1, .int (nI 0)), (0, .ref 50)]) (st' := [.int 27, .int (nI 0)]) (μ' := μ) (by rfl) ?_
      refine zq_ic hc hH (by rfl) (tg := 68) (by rfl) (fun h9 => (zb_t h9 (ge_nI (n := 27) (i := 0) (by omega) (by decide))).elim) (fun _ => ?_)
      refine z_rcs hc hH 4 (pc' := 15) (lv' := [(4, .int 0), (3, .int 0), (2, .int (nI 0)), (1, .int (nI 0)), (0, .ref 50)]) (st' := []) (μ' := μ) (by rfl) ?_
      exact bd
theorem tw_ub (s l : Nat → Nat) : twn s l 27 < 1000 := by
  have := sn_ub (w := fun c => nr4 s l c 4 / 2) (c := 4) 27 (fun k _ => by have := cn_ub (fun i => decide (s i = 0 ∧ l i = k)) 4; show cn _ 4 / 2 ≤ 4; omega)
  unfold twn
  omega
theorem fc_X7_twins (d : Nat) (hd : 2 ≤ d) (μ : zM) (s l : Nat → Nat) (hA : AY μ s l) : z_C d mi_X7_twins [.ref 50] μ (fun r μ' => r = none ∧ LG μ μ' (μ.2.1 50 24) (orb (orb (μ.2.1 50 25) (twn s l 27 = 1) 10) (twn s l 27 = 2) 28)) := by
  refine z_C_in (by decide) (by omega) (fun d' Z ed hc hr => ?_)
  have hH := zh_X7_twins
  have ub := tw_ub s l
  refine z_rcs hc hH 4 (pc' := 4) (lv' := [(2, .int 0), (1, .int 0), (0, .ref 50)]) (st' := []) (μ' := μ) (by rfl) ?_
  refine (tw4 d' Z (by omega) μ s l hA hc (fun x3 => ?_) 27 0 (by omega)).2 rfl
  have t87 : ∀ μ1, LG μ μ1 (μ.2.1 50 24) (orb (μ.2.1 50 25) (twn s l 27 = 1) 10) → Z 0 87 [(2, .int (nI 27)), (1, .int (nI (twn s l 27))), (4, .int (nI 4)), (3, .int x3), (0, .ref 50)] [] μ1 := by
    intro μ1 g1
    refine z_rcs hc hH 2 (pc' := 89) (lv' := [(2, .int (nI 27)), (1, .int (nI (twn s l 27))), (4, .int (nI 4)), (3, .int x3), (0, .ref 50)]) (st' := [.int 2, .int (nI (twn s l 27))]) (μ' := μ1) (by rfl) ?_
    refine zq_ic hc hH (by rfl) (tg := 106) (by rfl) (fun h1 => ?_) (fun h1 => ?_)
    · have h1 := cm_ne.mp h1
      exact hr 0 106 _ _ _ none (by decide +kernel) (by rfl) (⟨rfl, by rw [orb_f (fun e => h1 (by rw [e]; rfl))]; exact g1⟩)
    · have h1 := cn_ne.mp h1
      refine z_rcs hc hH 3 (pc' := 97) (lv' := [(2, .int (nI 27)), (1, .int (nI (twn s l 27))), (4, .int (nI 4)), (3, .int x3), (0, .ref 50)]) (st' := [.long (μ1.2.1 50 25), .ref 50]) (μ' := μ1) (by rfl) ?_
      rw [g1.2.2.1]
      refine z_rcs hc hH 1 (pc' := 99) (lv' := [(2, .int (nI 27)), (1, .int (nI (twn s l 27))), (4, .int (nI 4)), (3, .int x3), (0, .ref 50)]) (st' := [.int 28, .long (orb (μ.2.1 50 25) (twn s l 27 = 1) 10), .ref 50]) (μ' := μ1) (by rfl) ?_
      refine zq_call hc (z_cx_ok hH (by rfl)) (fc_X7_bit d' (by omega) μ1 28) (by decide +kernel) (fun r9 μ9 hq => ?_)
      obtain ⟨hμ9, rfl⟩ := hq
      rw [hμ9]
      clear hμ9 μ9
      show Z 0 102 [(2, .int (nI 27)), (1, .int (nI (twn s l 27))), (4, .int (nI 4)), (3, .int x3), (0, .ref 50)] [.long (fbt 28), .long (orb (μ.2.1 50 25) (twn s l 27 = 1) 10), .ref 50] μ1
      refine z_rcs hc hH 2 (pc' := 106) (lv' := [(2, .int (nI 27)), (1, .int (nI (twn s l 27))), (4, .int (nI 4)), (3, .int x3), (0, .ref 50)]) (st' := []) (μ' := z_uj μ1 50 25 ((orb (μ.2.1 50 25) (twn s l 27 = 1) 10) ||| (fbt 28))) (by rfl) ?_
      have e2 : twn s l 27 = 2 := (nI_eq (by omega) (by decide)).mp h1
      exact hr 0 106 _ _ _ none (by decide +kernel) (by rfl) (⟨rfl, by rw [orb_t e2]; exact g1.pl⟩)
  refine z_rcs hc hH 2 (pc' := 70) (lv' := [(2, .int (nI 27)), (1, .int (nI (twn s l 27))), (4, .int (nI 4)), (3, .int x3), (0, .ref 50)]) (st' := [.int 1, .int (nI (twn s l 27))]) (μ' := μ) (by rfl) ?_
  refine zq_ic hc hH (by rfl) (tg := 87) (by rfl) (fun h1 => ?_) (fun h1 => ?_)
  · have h1 := cm_ne.mp h1
    exact t87 _ (by rw [orb_f (fun e => h1 (by rw [e]; rfl))]; exact LG_rf μ)
  · have h1 := cn_ne.mp h1
    refine z_rcs hc hH 4 (pc' := 80) (lv' := [(2, .int (nI 27)), (1, .int (nI (twn s l 27))), (4, .int (nI 4)), (3, .int x3), (0, .ref 50)]) (st' := [.int 10, .long (μ.2.1 50 25), .ref 50]) (μ' := μ) (by rfl) ?_
    refine zq_call hc (z_cx_ok hH (by rfl)) (fc_X7_bit d' (by omega) μ 10) (by decide +kernel) (fun r9 μ9 hq => ?_)
    obtain ⟨hμ9, rfl⟩ := hq
    rw [hμ9]
    clear hμ9 μ9
    show Z 0 83 [(2, .int (nI 27)), (1, .int (nI (twn s l 27))), (4, .int (nI 4)), (3, .int x3), (0, .ref 50)] [.long (fbt 10), .long (μ.2.1 50 25), .ref 50] μ
    refine z_rcs hc hH 2 (pc' := 87) (lv' := [(2, .int (nI 27)), (1, .int (nI (twn s l 27))), (4, .int (nI 4)), (3, .int x3), (0, .ref 50)]) (st' := []) (μ' := z_uj μ 50 25 ((μ.2.1 50 25) ||| (fbt 10))) (by rfl) ?_
    have e1 : twn s l 27 = 1 := (nI_eq (by omega) (by decide)).mp h1
    exact t87 _ (by rw [orb_t e1]; exact (LG_rf μ).pl)
/-! the reference's reckoning: its leaves as expressions -/
set_option maxRecDepth 8000
noncomputable def nB (b : Bool) : Int32 := bif b then 1 else 0
theorem nB_z {b : Bool} : nB b = 0 ↔ b = false := by cases b <;> decide
theorem nB_n {b : Bool} : ¬ nB b = 0 ↔ b = true := by cases b <;> decide
theorem nB_t : nB true = 1 := rfl
theorem nB_f : nB false = 0 := rfl
noncomputable def lb (b : Bool) (k : Int32) : Int64 := bif b then (1 : Int64) <<< (k.toInt64 &&& 63) else 0
theorem lb_f {k : Int32} : lb false k = 0 := rfl
theorem zJ {Z : zK} {b pc : Nat} {lv lv' : zL} {st st' : List Value} {μ μ' : zM} (h : Z b pc lv st μ) (e1 : lv = lv') (e2 : st = st') (e3 : μ = μ') : Z b pc lv' st' μ' := by subst e1; subst e2; subst e3; exact h
/-- GREAT, plain forms and FU -/
noncomputable def mGP (μ : zM) (g p : Int64) (f : Int32) : zM := (fun r k => bif Nat.beq r 50 && Nat.beq k 23 then f else μ.1 r k, fun r k => bif Nat.beq r 50 && Nat.beq k 24 then g else (bif Nat.beq r 50 && Nat.beq k 25 then p else μ.2.1 r k), μ.2.2)
theorem bq_t {a b : Nat} : Nat.beq a b = true ↔ a = b := ⟨Nat.eq_of_beq_eq_true, fun h => by rw [h]; exact Nat.beq_refl b⟩
theorem mGP_rf (μ : zM) : mGP μ (μ.2.1 50 24) (μ.2.1 50 25) (μ.1 50 23) = μ := by
  unfold mGP
  refine Prod.ext ?_ (Prod.ext ?_ rfl)
  · funext r k
    show (bif Nat.beq r 50 && Nat.beq k 23 then μ.1 50 23 else μ.1 r k) = μ.1 r k
    cases h : Nat.beq r 50 && Nat.beq k 23
    · rfl
    · rw [Bool.and_eq_true, bq_t, bq_t] at h
      rw [h.1, h.2]; rfl
  · funext r k
    show (bif Nat.beq r 50 && Nat.beq k 24 then μ.2.1 50 24 else (bif Nat.beq r 50 && Nat.beq k 25 then μ.2.1 50 25 else μ.2.1 r k)) = μ.2.1 r k
    cases h : Nat.beq r 50 && Nat.beq k 24
    · cases h2 : Nat.beq r 50 && Nat.beq k 25
      · rfl
      · rw [Bool.and_eq_true, bq_t, bq_t] at h2
        rw [h2.1, h2.2]; rfl
    · rw [Bool.and_eq_true, bq_t, bq_t] at h
      rw [h.1, h.2]; rfl
theorem mGP_g {μ : zM} {g p x : Int64} {f : Int32} : z_uj (mGP μ g p f) 50 24 x = mGP μ x p f := by
  unfold mGP z_uj
  refine Prod.ext rfl (Prod.ext ?_ rfl)
  funext r k
  show (bif Nat.beq r 50 && Nat.beq k 24 then x else (bif Nat.beq r 50 && Nat.beq k 24 then g else _)) = bif Nat.beq r 50 && Nat.beq k 24 then x else _
  cases Nat.beq r 50 && Nat.beq k 24 <;> rfl
theorem mGP_p {μ : zM} {g p x : Int64} {f : Int32} : z_uj (mGP μ g p f) 50 25 x = mGP μ g x f := by
  unfold mGP z_uj
  refine Prod.ext rfl (Prod.ext ?_ rfl)
  funext r k
  show (bif Nat.beq r 50 && Nat.beq k 25 then x else (bif Nat.beq r 50 && Nat.beq k 24 then g else (bif Nat.beq r 50 && Nat.beq k 25 then p else μ.2.1 r k))) = bif Nat.beq r 50 && Nat.beq k 24 then g else (bif Nat.beq r 50 && Nat.beq k 25 then x else μ.2.1 r k)
  cases h : Nat.beq r 50 && Nat.beq k 25
  · cases Nat.beq r 50 && Nat.beq k 24 <;> rfl
  · rw [Bool.and_eq_true, bq_t, bq_t] at h
    rw [h.2, show (Nat.beq 25 24) = false from rfl, Bool.and_false]; rfl
theorem mGP_f {μ : zM} {g p : Int64} {f x : Int32} : z_ui (mGP μ g p f) 50 23 x = mGP μ g p x := by
  unfold mGP z_ui
  refine Prod.ext ?_ rfl
  funext r k
  show (bif Nat.beq r 50 && Nat.beq k 23 then x else (bif Nat.beq r 50 && Nat.beq k 23 then f else μ.1 r k)) = bif Nat.beq r 50 && Nat.beq k 23 then x else μ.1 r k
  cases Nat.beq r 50 && Nat.beq k 23 <;> rfl
noncomputable def xDr (k : Int32) : Bool := !(decide (k ≤ 30))
theorem fb_X7_isDragon (d : Nat) (hd : 1 ≤ d) (μ : zM) (k : Int32) : z_C d mi_X7_isDragon [.int k] μ (zR μ (.int (nB (xDr k)))) := by
  refine z_C_in (by decide) (by omega) (fun d' Z ed hc hr => ?_)
  have hH : zH mi_X7_isDragon zt_X7_isDragon 79 7 1 := hh_X7_isDragon
  refine z_rcs hc hH 2 (pc' := 3) (lv' := [(0, .int k)]) (st' := [.int 30, .int k]) (μ' := μ) (by rfl) ?_
  have hJ1 : Z 0 11 [(0, .int k)] [.int (nB (!(decide (k ≤ 30))))] μ := by
    exact hr 0 11 _ _ _ (some (.int (nB (!(decide (k ≤ 30)))))) (by decide +kernel) ((fun b : Bool => (by cases b <;> rfl : z_rn mi_X7_isDragon 11 [.int (nB b)] = some (some (.int (nB b))))) (!(decide (k ≤ 30)))) (⟨rfl, (by rfl)⟩)
  refine zq_ic hc hH (by rfl) (tg := 10) (by rfl) (fun h2 => ?_) (fun h2 => ?_)
  · have h2 : (decide (k ≤ 30)) = true := decide_eq_true (cm_le.mp h2)
    refine z_rcs hc hH 1 (pc' := 11) (lv' := [(0, .int k)]) (st' := [.int 0]) (μ' := μ) (by rfl) ?_
    exact zJ hJ1 rfl (by simp only [h2, lb_f, Int64.or_zero, nB_t, nB_f, Bool.not_true, Bool.not_false, Bool.and_true, Bool.true_and, Bool.false_and, Bool.and_false, Bool.or_true, Bool.true_or, Bool.false_or, Bool.or_false, cond_true, cond_false]) rfl
  · have h2 : (decide (k ≤ 30)) = false := decide_eq_false (cn_le.mp h2)
    refine z_rcs hc hH 2 (pc' := 11) (lv' := [(0, .int k)]) (st' := [.int 1]) (μ' := μ) (by rfl) ?_
    exact zJ hJ1 rfl (by simp only [h2, lb_f, Int64.or_zero, nB_t, nB_f, Bool.not_true, Bool.not_false, Bool.and_true, Bool.true_and, Bool.false_and, Bool.and_false, Bool.or_true, Bool.true_or, Bool.false_or, Bool.or_false, cond_true, cond_false]) rfl
noncomputable def xHo (k : Int32) : Bool := !(decide (k ≤ 26))
theorem fb_X7_isHonour (d : Nat) (hd : 1 ≤ d) (μ : zM) (k : Int32) : z_C d mi_X7_isHonour [.int k] μ (zR μ (.int (nB (xHo k)))) := by
  refine z_C_in (by decide) (by omega) (fun d' Z ed hc hr => ?_)
  have hH : zH mi_X7_isHonour zt_X7_isHonour 79 7 1 := hh_X7_isHonour
  refine z_rcs hc hH 2 (pc' := 3) (lv' := [(0, .int k)]) (st' := [.int 26, .int k]) (μ' := μ) (by rfl) ?_
  have hJ1 : Z 0 11 [(0, .int k)] [.int (nB (!(decide (k ≤ 26))))] μ := by
    exact hr 0 11 _ _ _ (some (.int (nB (!(decide (k ≤ 26)))))) (by decide +kernel) ((fun b : Bool => (by cases b <;> rfl : z_rn mi_X7_isHonour 11 [.int (nB b)] = some (some (.int (nB b))))) (!(decide (k ≤ 26)))) (⟨rfl, (by rfl)⟩)
  refine zq_ic hc hH (by rfl) (tg := 10) (by rfl) (fun h2 => ?_) (fun h2 => ?_)
  · have h2 : (decide (k ≤ 26)) = true := decide_eq_true (cm_le.mp h2)
    refine z_rcs hc hH 1 (pc' := 11) (lv' := [(0, .int k)]) (st' := [.int 0]) (μ' := μ) (by rfl) ?_
    exact zJ hJ1 rfl (by simp only [h2, lb_f, Int64.or_zero, nB_t, nB_f, Bool.not_true, Bool.not_false, Bool.and_true, Bool.true_and, Bool.false_and, Bool.and_false, Bool.or_true, Bool.true_or, Bool.false_or, Bool.or_false, cond_true, cond_false]) rfl
  · have h2 : (decide (k ≤ 26)) = false := decide_eq_false (cn_le.mp h2)
    refine z_rcs hc hH 2 (pc' := 11) (lv' := [(0, .int k)]) (st' := [.int 1]) (μ' := μ) (by rfl) ?_
    exact zJ hJ1 rfl (by simp only [h2, lb_f, Int64.or_zero, nB_t, nB_f, Bool.not_true, Bool.not_false, Bool.and_true, Bool.true_and, Bool.false_and, Bool.and_false, Bool.or_true, Bool.true_or, Bool.false_or, Bool.or_false, cond_true, cond_false]) rfl
noncomputable def xTe (k : Int32) : Bool := !(decide (27 ≤ k)) && ((decide ((k - k / 9 * 9) = 0)) || (decide ((k - k / 9 * 9) = 8)))
theorem fb_X7_isTerminal (d : Nat) (hd : 1 ≤ d) (μ : zM) (k : Int32) : z_C d mi_X7_isTerminal [.int k] μ (zR μ (.int (nB (xTe k)))) := by
  refine z_C_in (by decide) (by omega) (fun d' Z ed hc hr => ?_)
  have hH : zH mi_X7_isTerminal zt_X7_isTerminal 79 7 1 := hh_X7_isTerminal
  refine z_rcs hc hH 2 (pc' := 3) (lv' := [(0, .int k)]) (st' := [.int 27, .int k]) (μ' := μ) (by rfl) ?_
  have hJ1 : Z 0 27 [(0, .int k)] [.int (nB (!(decide (27 ≤ k)) && ((decide ((k - k / 9 * 9) = 0)) || (decide ((k - k / 9 * 9) = 8)))))] μ := by
    generalize he2 : (!(decide (27 ≤ k)) && ((decide ((k - k / 9 * 9) = 0)) || (decide ((k - k / 9 * 9) = 8)))) = e2
    exact hr 0 27 _ _ _ (some (.int (nB e2))) (by decide +kernel) ((fun b : Bool => (by cases b <;> rfl : z_rn mi_X7_isTerminal 27 [.int (nB b)] = some (some (.int (nB b))))) e2) (⟨rfl, (by subst he2; rfl)⟩)
  refine zq_ic hc hH (by rfl) (tg := 26) (by rfl) (fun h3 => ?_) (fun h3 => ?_)
  · have h3 : (decide (27 ≤ k)) = true := decide_eq_true (cm_ge.mp h3)
    refine z_rcs hc hH 1 (pc' := 27) (lv' := [(0, .int k)]) (st' := [.int 0]) (μ' := μ) (by rfl) ?_
    exact zJ hJ1 rfl (by simp only [h3, lb_f, Int64.or_zero, nB_t, nB_f, Bool.not_true, Bool.not_false, Bool.and_true, Bool.true_and, Bool.false_and, Bool.and_false, Bool.or_true, Bool.true_or, Bool.false_or, Bool.or_false, cond_true, cond_false]) rfl
  · have h3 : (decide (27 ≤ k)) = false := decide_eq_false (cn_ge.mp h3)
    refine z_rcs hc hH 3 (pc' := 10) (lv' := [(0, .int k)]) (st' := [.int (k - k / 9 * 9)]) (μ' := μ) (by rfl) ?_
    refine zq_if hc hH (by rfl) (tg := 22) (by rfl) (fun h4 => ?_) (fun h4 => ?_)
    · have h4 : (decide ((k - k / 9 * 9) = 0)) = true := decide_eq_true (cm_eq9.mp h4)
      refine z_rcs hc hH 2 (pc' := 27) (lv' := [(0, .int k)]) (st' := [.int 1]) (μ' := μ) (by rfl) ?_
      exact zJ hJ1 rfl (by simp only [h3, h4, lb_f, Int64.or_zero, nB_t, nB_f, Bool.not_true, Bool.not_false, Bool.and_true, Bool.true_and, Bool.false_and, Bool.and_false, Bool.or_true, Bool.true_or, Bool.false_or, Bool.or_false, cond_true, cond_false]) rfl
    · have h4 : (decide ((k - k / 9 * 9) = 0)) = false := decide_eq_false (cn_eq.mp h4)
      refine z_rcs hc hH 4 (pc' := 19) (lv' := [(0, .int k)]) (st' := [.int 8, .int (k - k / 9 * 9)]) (μ' := μ) (by rfl) ?_
      refine zq_ic hc hH (by rfl) (tg := 26) (by rfl) (fun h5 => ?_) (fun h5 => ?_)
      · have h5 : (decide ((k - k / 9 * 9) = 8)) = false := decide_eq_false (cm_ne.mp h5)
        refine z_rcs hc hH 1 (pc' := 27) (lv' := [(0, .int k)]) (st' := [.int 0]) (μ' := μ) (by rfl) ?_
        exact zJ hJ1 rfl (by simp only [h3, h4, h5, lb_f, Int64.or_zero, nB_t, nB_f, Bool.not_true, Bool.not_false, Bool.and_true, Bool.true_and, Bool.false_and, Bool.and_false, Bool.or_true, Bool.true_or, Bool.false_or, Bool.or_false, cond_true, cond_false]) rfl
      · have h5 : (decide ((k - k / 9 * 9) = 8)) = true := decide_eq_true (cn_ne.mp h5)
        refine z_rcs hc hH 2 (pc' := 27) (lv' := [(0, .int k)]) (st' := [.int 1]) (μ' := μ) (by rfl) ?_
        exact zJ hJ1 rfl (by simp only [h3, h4, h5, lb_f, Int64.or_zero, nB_t, nB_f, Bool.not_true, Bool.not_false, Bool.and_true, Bool.true_and, Bool.false_and, Bool.and_false, Bool.or_true, Bool.true_or, Bool.false_or, Bool.or_false, cond_true, cond_false]) rfl
noncomputable def xEn (k : Int32) : Bool := (xHo k) || (xTe k)
theorem fb_X7_isEnd (d : Nat) (hd : 2 ≤ d) (μ : zM) (k : Int32) : z_C d mi_X7_isEnd [.int k] μ (zR μ (.int (nB (xEn k)))) := by
  refine z_C_in (by decide) (by omega) (fun d' Z ed hc hr => ?_)
  have hH : zH mi_X7_isEnd zt_X7_isEnd 79 7 1 := hh_X7_isEnd
  refine z_rcs hc hH 1 (pc' := 1) (lv' := [(0, .int k)]) (st' := [.int k]) (μ' := μ) (by rfl) ?_
  refine zq_call hc (z_cx_ok hH (by rfl)) (fb_X7_isHonour d' (by omega) μ k) (by decide +kernel) (fun r9 μ9 hq => ?_)
  obtain ⟨hμ9, rfl⟩ := hq
  rw [hμ9]
  clear hμ9 μ9
  show Z 0 4 [(0, .int k)] [.int (nB (xHo k))] μ
  have hJ1 : Z 0 19 [(0, .int k)] [.int (nB ((xHo k) || (xTe k)))] μ := by
    exact hr 0 19 _ _ _ (some (.int (nB ((xHo k) || (xTe k))))) (by decide +kernel) ((fun b : Bool => (by cases b <;> rfl : z_rn mi_X7_isEnd 19 [.int (nB b)] = some (some (.int (nB b))))) ((xHo k) || (xTe k))) (⟨rfl, (by rfl)⟩)
  refine zq_if hc hH (by rfl) (tg := 14) (by rfl) (fun h2 => ?_) (fun h2 => ?_)
  · have h2 : (xHo k) = true := nB_n.mp (cm_ne.mp h2)
    refine z_rcs hc hH 2 (pc' := 19) (lv' := [(0, .int k)]) (st' := [.int 1]) (μ' := μ) (by rfl) ?_
    exact zJ hJ1 rfl (by simp only [h2, lb_f, Int64.or_zero, nB_t, nB_f, Bool.not_true, Bool.not_false, Bool.and_true, Bool.true_and, Bool.false_and, Bool.and_false, Bool.or_true, Bool.true_or, Bool.false_or, Bool.or_false, cond_true, cond_false]) rfl
  · have h2 : (xHo k) = false := nB_z.mp (cn_ne.mp h2)
    refine z_rcs hc hH 1 (pc' := 8) (lv' := [(0, .int k)]) (st' := [.int k]) (μ' := μ) (by rfl) ?_
    refine zq_call hc (z_cx_ok hH (by rfl)) (fb_X7_isTerminal d' (by omega) μ k) (by decide +kernel) (fun r9 μ9 hq => ?_)
    obtain ⟨hμ9, rfl⟩ := hq
    rw [hμ9]
    clear hμ9 μ9
    show Z 0 11 [(0, .int k)] [.int (nB (xTe k))] μ
    refine zq_if hc hH (by rfl) (tg := 18) (by rfl) (fun h3 => ?_) (fun h3 => ?_)
    · have h3 : (xTe k) = false := nB_z.mp (cm_eq9.mp h3)
      refine z_rcs hc hH 1 (pc' := 19) (lv' := [(0, .int k)]) (st' := [.int 0]) (μ' := μ) (by rfl) ?_
      exact zJ hJ1 rfl (by simp only [h2, h3, lb_f, Int64.or_zero, nB_t, nB_f, Bool.not_true, Bool.not_false, Bool.and_true, Bool.true_and, Bool.false_and, Bool.and_false, Bool.or_true, Bool.true_or, Bool.false_or, Bool.or_false, cond_true, cond_false]) rfl
    · have h3 : (xTe k) = true := nB_n.mp (cn_eq.mp h3)
      refine z_rcs hc hH 2 (pc' := 19) (lv' := [(0, .int k)]) (st' := [.int 1]) (μ' := μ) (by rfl) ?_
      exact zJ hJ1 rfl (by simp only [h2, h3, lb_f, Int64.or_zero, nB_t, nB_f, Bool.not_true, Bool.not_false, Bool.and_true, Bool.true_and, Bool.false_and, Bool.and_false, Bool.or_true, Bool.true_or, Bool.false_or, Bool.or_false, cond_true, cond_false]) rfl
noncomputable def xT (μ : zM) (k : Int32) : Bool := (((!(decide ((μ.1 56 0) = 0)) && (decide ((μ.1 57 0) = k))) || (!(decide ((μ.1 56 1) = 0)) && (decide ((μ.1 57 1) = k)))) || (!(decide ((μ.1 56 2) = 0)) && (decide ((μ.1 57 2) = k)))) || (!(decide ((μ.1 56 3) = 0)) && (decide ((μ.1 57 3) = k)))
theorem fb_X7_hasThree (d : Nat) (hd : 1 ≤ d) (μ : zM) (k : Int32) : z_C d mi_X7_hasThree [.ref 50, .int k] μ (zR μ (.int (nB (xT μ k)))) := by
  refine z_C_in (by decide) (by omega) (fun d' Z ed hc hr => ?_)
  have hH : zH mi_X7_hasThree zt_X7_hasThree 79 7 4 := hh_X7_hasThree
  refine z_rcs hc hH 12 (pc' := 18) (lv' := [(3, .int 0), (2, .int 0), (0, .ref 50), (1, .int k)]) (st' := [.int 0, .ref 56]) (μ' := μ) (by rfl) ?_
  refine zq_iald hc hH (by rfl) 4 (by decide +kernel) (show vp_in (nI 0) 4 from vp_in_nI (by decide) (by decide)) ?_
  show Z 0 19 [(3, .int 0), (2, .int 0), (0, .ref 50), (1, .int k)] [.int (μ.1 56 0)] μ
  have hJ1 : Z 0 37 [(3, .int 0), (2, .int 0), (0, .ref 50), (1, .int k)] [.int (nB (!(decide ((μ.1 56 0) = 0)) && (decide ((μ.1 57 0) = k))))] μ := by
    refine z_rcs hc hH 7 (pc' := 10) (lv' := [(3, .int 1), (2, .int (nB (!(decide ((μ.1 56 0) = 0)) && (decide ((μ.1 57 0) = k))))), (0, .ref 50), (1, .int k)]) (st' := [.int (nB (!(decide ((μ.1 56 0) = 0)) && (decide ((μ.1 57 0) = k))))]) (μ' := μ) (by rfl) ?_
    have hJ2 : Z 0 37 [(3, .int 1), (2, .int (nB (!(decide ((μ.1 56 0) = 0)) && (decide ((μ.1 57 0) = k))))), (0, .ref 50), (1, .int k)] [.int (nB ((!(decide ((μ.1 56 0) = 0)) && (decide ((μ.1 57 0) = k))) || (!(decide ((μ.1 56 1) = 0)) && (decide ((μ.1 57 1) = k)))))] μ := by
      generalize he3 : ((!(decide ((μ.1 56 0) = 0)) && (decide ((μ.1 57 0) = k))) || (!(decide ((μ.1 56 1) = 0)) && (decide ((μ.1 57 1) = k)))) = e3
      refine z_rcs hc hH 7 (pc' := 10) (lv' := [(3, .int 2), (2, .int (nB e3)), (0, .ref 50), (1, .int k)]) (st' := [.int (nB e3)]) (μ' := μ) (by rfl) ?_
      have hJ4 : Z 0 37 [(3, .int 2), (2, .int (nB e3)), (0, .ref 50), (1, .int k)] [.int (nB (e3 || (!(decide ((μ.1 56 2) = 0)) && (decide ((μ.1 57 2) = k)))))] μ := by
        refine z_rcs hc hH 7 (pc' := 10) (lv' := [(3, .int 3), (2, .int (nB (e3 || (!(decide ((μ.1 56 2) = 0)) && (decide ((μ.1 57 2) = k)))))), (0, .ref 50), (1, .int k)]) (st' := [.int (nB (e3 || (!(decide ((μ.1 56 2) = 0)) && (decide ((μ.1 57 2) = k)))))]) (μ' := μ) (by rfl) ?_
        have hJ5 : Z 0 37 [(3, .int 3), (2, .int (nB (e3 || (!(decide ((μ.1 56 2) = 0)) && (decide ((μ.1 57 2) = k)))))), (0, .ref 50), (1, .int k)] [.int (nB ((e3 || (!(decide ((μ.1 56 2) = 0)) && (decide ((μ.1 57 2) = k)))) || (!(decide ((μ.1 56 3) = 0)) && (decide ((μ.1 57 3) = k)))))] μ := by
          generalize he6 : ((e3 || (!(decide ((μ.1 56 2) = 0)) && (decide ((μ.1 57 2) = k)))) || (!(decide ((μ.1 56 3) = 0)) && (decide ((μ.1 57 3) = k)))) = e6
          refine z_rcs hc hH 7 (pc' := 45) (lv' := [(3, .int 4), (2, .int (nB e6)), (0, .ref 50), (1, .int k)]) (st' := [.int (nB e6)]) (μ' := μ) (by rfl) ?_
          exact hr 0 45 _ _ _ (some (.int (nB e6))) (by decide +kernel) ((fun b : Bool => (by cases b <;> rfl : z_rn mi_X7_hasThree 45 [.int (nB b)] = some (some (.int (nB b))))) e6) (⟨rfl, (by subst he6; subst he3; rfl)⟩)
        refine zq_if hc hH (by rfl) (tg := 32) (by rfl) (fun h7 => ?_) (fun h7 => ?_)
        · have h7 : (e3 || (!(decide ((μ.1 56 2) = 0)) && (decide ((μ.1 57 2) = k)))) = true := nB_n.mp (cm_ne.mp h7)
          refine z_rcs hc hH 2 (pc' := 37) (lv' := [(3, .int 3), (2, .int (nB (e3 || (!(decide ((μ.1 56 2) = 0)) && (decide ((μ.1 57 2) = k)))))), (0, .ref 50), (1, .int k)]) (st' := [.int 1]) (μ' := μ) (by rfl) ?_
          exact zJ hJ5 rfl (by simp only [h7, lb_f, Int64.or_zero, nB_t, nB_f, Bool.not_true, Bool.not_false, Bool.and_true, Bool.true_and, Bool.false_and, Bool.and_false, Bool.or_true, Bool.true_or, Bool.false_or, Bool.or_false, cond_true, cond_false]) rfl
        · have h7 : (e3 || (!(decide ((μ.1 56 2) = 0)) && (decide ((μ.1 57 2) = k)))) = false := nB_z.mp (cn_ne.mp h7)
          refine z_rcs hc hH 3 (pc' := 18) (lv' := [(3, .int 3), (2, .int (nB (e3 || (!(decide ((μ.1 56 2) = 0)) && (decide ((μ.1 57 2) = k)))))), (0, .ref 50), (1, .int k)]) (st' := [.int 3, .ref 56]) (μ' := μ) (by rfl) ?_
          refine zq_iald hc hH (by rfl) 4 (by decide +kernel) (show vp_in (nI 3) 4 from vp_in_nI (by decide) (by decide)) ?_
          show Z 0 19 [(3, .int 3), (2, .int (nB (e3 || (!(decide ((μ.1 56 2) = 0)) && (decide ((μ.1 57 2) = k)))))), (0, .ref 50), (1, .int k)] [.int (μ.1 56 3)] μ
          refine zq_if hc hH (by rfl) (tg := 36) (by rfl) (fun h8 => ?_) (fun h8 => ?_)
          · have h8 : (decide ((μ.1 56 3) = 0)) = true := decide_eq_true (cm_eq9.mp h8)
            refine z_rcs hc hH 1 (pc' := 37) (lv' := [(3, .int 3), (2, .int (nB (e3 || (!(decide ((μ.1 56 2) = 0)) && (decide ((μ.1 57 2) = k)))))), (0, .ref 50), (1, .int k)]) (st' := [.int 0]) (μ' := μ) (by rfl) ?_
            exact zJ hJ5 rfl (by simp only [h7, h8, lb_f, Int64.or_zero, nB_t, nB_f, Bool.not_true, Bool.not_false, Bool.and_true, Bool.true_and, Bool.false_and, Bool.and_false, Bool.or_true, Bool.true_or, Bool.false_or, Bool.or_false, cond_true, cond_false]) rfl
          · have h8 : (decide ((μ.1 56 3) = 0)) = false := decide_eq_false (cn_eq.mp h8)
            refine z_rcs hc hH 3 (pc' := 27) (lv' := [(3, .int 3), (2, .int (nB (e3 || (!(decide ((μ.1 56 2) = 0)) && (decide ((μ.1 57 2) = k)))))), (0, .ref 50), (1, .int k)]) (st' := [.int 3, .ref 57]) (μ' := μ) (by rfl) ?_
            refine zq_iald hc hH (by rfl) 4 (by decide +kernel) (show vp_in (nI 3) 4 from vp_in_nI (by decide) (by decide)) ?_
            show Z 0 28 [(3, .int 3), (2, .int (nB (e3 || (!(decide ((μ.1 56 2) = 0)) && (decide ((μ.1 57 2) = k)))))), (0, .ref 50), (1, .int k)] [.int (μ.1 57 3)] μ
            refine z_rcs hc hH 1 (pc' := 29) (lv' := [(3, .int 3), (2, .int (nB (e3 || (!(decide ((μ.1 56 2) = 0)) && (decide ((μ.1 57 2) = k)))))), (0, .ref 50), (1, .int k)]) (st' := [.int k, .int (μ.1 57 3)]) (μ' := μ) (by rfl) ?_
            refine zq_ic hc hH (by rfl) (tg := 36) (by rfl) (fun h9 => ?_) (fun h9 => ?_)
            · have h9 : (decide ((μ.1 57 3) = k)) = false := decide_eq_false (cm_ne.mp h9)
              refine z_rcs hc hH 1 (pc' := 37) (lv' := [(3, .int 3), (2, .int (nB (e3 || (!(decide ((μ.1 56 2) = 0)) && (decide ((μ.1 57 2) = k)))))), (0, .ref 50), (1, .int k)]) (st' := [.int 0]) (μ' := μ) (by rfl) ?_
              exact zJ hJ5 rfl (by simp only [h7, h8, h9, lb_f, Int64.or_zero, nB_t, nB_f, Bool.not_true, Bool.not_false, Bool.and_true, Bool.true_and, Bool.false_and, Bool.and_false, Bool.or_true, Bool.true_or, Bool.false_or, Bool.or_false, cond_true, cond_false]) rfl
            · have h9 : (decide ((μ.1 57 3) = k)) = true := decide_eq_true (cn_ne.mp h9)
              refine z_rcs hc hH 2 (pc' := 37) (lv' := [(3, .int 3), (2, .int (nB (e3 || (!(decide ((μ.1 56 2) = 0)) && (decide ((μ.1 57 2) = k)))))), (0, .ref 50), (1, .int k)]) (st' := [.int 1]) (μ' := μ) (by rfl) ?_
              exact zJ hJ5 rfl (by simp only [h7, h8, h9, lb_f, Int64.or_zero, nB_t, nB_f, Bool.not_true, Bool.not_false, Bool.and_true, Bool.true_and, Bool.false_and, Bool.and_false, Bool.or_true, Bool.true_or, Bool.false_or, Bool.or_false, cond_true, cond_false]) rfl
      refine zq_if hc hH (by rfl) (tg := 32) (by rfl) (fun h10 => ?_) (fun h10 => ?_)
      · have h10 : (e3) = true := nB_n.mp (cm_ne.mp h10)
        refine z_rcs hc hH 2 (pc' := 37) (lv' := [(3, .int 2), (2, .int (nB e3)), (0, .ref 50), (1, .int k)]) (st' := [.int 1]) (μ' := μ) (by rfl) ?_
        exact zJ hJ4 rfl (by simp only [h10, lb_f, Int64.or_zero, nB_t, nB_f, Bool.not_true, Bool.not_false, Bool.and_true, Bool.true_and, Bool.false_and, Bool.and_false, Bool.or_true, Bool.true_or, Bool.false_or, Bool.or_false, cond_true, cond_false]) rfl
      · have h10 : (e3) = false := nB_z.mp (cn_ne.mp h10)
        refine z_rcs hc hH 3 (pc' := 18) (lv' := [(3, .int 2), (2, .int (nB e3)), (0, .ref 50), (1, .int k)]) (st' := [.int 2, .ref 56]) (μ' := μ) (by rfl) ?_
        refine zq_iald hc hH (by rfl) 4 (by decide +kernel) (show vp_in (nI 2) 4 from vp_in_nI (by decide) (by decide)) ?_
        show Z 0 19 [(3, .int 2), (2, .int (nB e3)), (0, .ref 50), (1, .int k)] [.int (μ.1 56 2)] μ
        refine zq_if hc hH (by rfl) (tg := 36) (by rfl) (fun h11 => ?_) (fun h11 => ?_)
        · have h11 : (decide ((μ.1 56 2) = 0)) = true := decide_eq_true (cm_eq9.mp h11)
          refine z_rcs hc hH 1 (pc' := 37) (lv' := [(3, .int 2), (2, .int (nB e3)), (0, .ref 50), (1, .int k)]) (st' := [.int 0]) (μ' := μ) (by rfl) ?_
          exact zJ hJ4 rfl (by simp only [h10, h11, lb_f, Int64.or_zero, nB_t, nB_f, Bool.not_true, Bool.not_false, Bool.and_true, Bool.true_and, Bool.false_and, Bool.and_false, Bool.or_true, Bool.true_or, Bool.false_or, Bool.or_false, cond_true, cond_false]) rfl
        · have h11 : (decide ((μ.1 56 2) = 0)) = false := decide_eq_false (cn_eq.mp h11)
          refine z_rcs hc hH 3 (pc' := 27) (lv' := [(3, .int 2), (2, .int (nB e3)), (0, .ref 50), (1, .int k)]) (st' := [.int 2, .ref 57]) (μ' := μ) (by rfl) ?_
          refine zq_iald hc hH (by rfl) 4 (by decide +kernel) (show vp_in (nI 2) 4 from vp_in_nI (by decide) (by decide)) ?_
          show Z 0 28 [(3, .int 2), (2, .int (nB e3)), (0, .ref 50), (1, .int k)] [.int (μ.1 57 2)] μ
          refine z_rcs hc hH 1 (pc' := 29) (lv' := [(3, .int 2), (2, .int (nB e3)), (0, .ref 50), (1, .int k)]) (st' := [.int k, .int (μ.1 57 2)]) (μ' := μ) (by rfl) ?_
          refine zq_ic hc hH (by rfl) (tg := 36) (by rfl) (fun h12 => ?_) (fun h12 => ?_)
          · have h12 : (decide ((μ.1 57 2) = k)) = false := decide_eq_false (cm_ne.mp h12)
            refine z_rcs hc hH 1 (pc' := 37) (lv' := [(3, .int 2), (2, .int (nB e3)), (0, .ref 50), (1, .int k)]) (st' := [.int 0]) (μ' := μ) (by rfl) ?_
            exact zJ hJ4 rfl (by simp only [h10, h11, h12, lb_f, Int64.or_zero, nB_t, nB_f, Bool.not_true, Bool.not_false, Bool.and_true, Bool.true_and, Bool.false_and, Bool.and_false, Bool.or_true, Bool.true_or, Bool.false_or, Bool.or_false, cond_true, cond_false]) rfl
          · have h12 : (decide ((μ.1 57 2) = k)) = true := decide_eq_true (cn_ne.mp h12)
            refine z_rcs hc hH 2 (pc' := 37) (lv' := [(3, .int 2), (2, .int (nB e3)), (0, .ref 50), (1, .int k)]) (st' := [.int 1]) (μ' := μ) (by rfl) ?_
            exact zJ hJ4 rfl (by simp only [h10, h11, h12, lb_f, Int64.or_zero, nB_t, nB_f, Bool.not_true, Bool.not_false, Bool.and_true, Bool.true_and, Bool.false_and, Bool.and_false, Bool.or_true, Bool.true_or, Bool.false_or, Bool.or_false, cond_true, cond_false]) rfl
    refine zq_if hc hH (by rfl) (tg := 32) (by rfl) (fun h13 => ?_) (fun h13 => ?_)
    · have h13 : (!(decide ((μ.1 56 0) = 0)) && (decide ((μ.1 57 0) = k))) = true := nB_n.mp (cm_ne.mp h13)
      refine z_rcs hc hH 2 (pc' := 37) (lv' := [(3, .int 1), (2, .int (nB (!(decide ((μ.1 56 0) = 0)) && (decide ((μ.1 57 0) = k))))), (0, .ref 50), (1, .int k)]) (st' := [.int 1]) (μ' := μ) (by rfl) ?_
      exact zJ hJ2 rfl (by simp only [h13, lb_f, Int64.or_zero, nB_t, nB_f, Bool.not_true, Bool.not_false, Bool.and_true, Bool.true_and, Bool.false_and, Bool.and_false, Bool.or_true, Bool.true_or, Bool.false_or, Bool.or_false, cond_true, cond_false]) rfl
    · have h13 : (!(decide ((μ.1 56 0) = 0)) && (decide ((μ.1 57 0) = k))) = false := nB_z.mp (cn_ne.mp h13)
      refine z_rcs hc hH 3 (pc' := 18) (lv' := [(3, .int 1), (2, .int (nB (!(decide ((μ.1 56 0) = 0)) && (decide ((μ.1 57 0) = k))))), (0, .ref 50), (1, .int k)]) (st' := [.int 1, .ref 56]) (μ' := μ) (by rfl) ?_
      refine zq_iald hc hH (by rfl) 4 (by decide +kernel) (show vp_in (nI 1) 4 from vp_in_nI (by decide) (by decide)) ?_
      show Z 0 19 [(3, .int 1), (2, .int (nB (!(decide ((μ.1 56 0) = 0)) && (decide ((μ.1 57 0) = k))))), (0, .ref 50), (1, .int k)] [.int (μ.1 56 1)] μ
      refine zq_if hc hH (by rfl) (tg := 36) (by rfl) (fun h14 => ?_) (fun h14 => ?_)
      · have h14 : (decide ((μ.1 56 1) = 0)) = true := decide_eq_true (cm_eq9.mp h14)
        refine z_rcs hc hH 1 (pc' := 37) (lv' := [(3, .int 1), (2, .int (nB (!(decide ((μ.1 56 0) = 0)) && (decide ((μ.1 57 0) = k))))), (0, .ref 50), (1, .int k)]) (st' := [.int 0]) (μ' := μ) (by rfl) ?_
        exact zJ hJ2 rfl (by simp only [h13, h14, lb_f, Int64.or_zero, nB_t, nB_f, Bool.not_true, Bool.not_false, Bool.and_true, Bool.true_and, Bool.false_and, Bool.and_false, Bool.or_true, Bool.true_or, Bool.false_or, Bool.or_false, cond_true, cond_false]) rfl
      · have h14 : (decide ((μ.1 56 1) = 0)) = false := decide_eq_false (cn_eq.mp h14)
        refine z_rcs hc hH 3 (pc' := 27) (lv' := [(3, .int 1), (2, .int (nB (!(decide ((μ.1 56 0) = 0)) && (decide ((μ.1 57 0) = k))))), (0, .ref 50), (1, .int k)]) (st' := [.int 1, .ref 57]) (μ' := μ) (by rfl) ?_
        refine zq_iald hc hH (by rfl) 4 (by decide +kernel) (show vp_in (nI 1) 4 from vp_in_nI (by decide) (by decide)) ?_
        show Z 0 28 [(3, .int 1), (2, .int (nB (!(decide ((μ.1 56 0) = 0)) && (decide ((μ.1 57 0) = k))))), (0, .ref 50), (1, .int k)] [.int (μ.1 57 1)] μ
        refine z_rcs hc hH 1 (pc' := 29) (lv' := [(3, .int 1), (2, .int (nB (!(decide ((μ.1 56 0) = 0)) && (decide ((μ.1 57 0) = k))))), (0, .ref 50), (1, .int k)]) (st' := [.int k, .int (μ.1 57 1)]) (μ' := μ) (by rfl) ?_
        refine zq_ic hc hH (by rfl) (tg := 36) (by rfl) (fun h15 => ?_) (fun h15 => ?_)
        · have h15 : (decide ((μ.1 57 1) = k)) = false := decide_eq_false (cm_ne.mp h15)
          refine z_rcs hc hH 1 (pc' := 37) (lv' := [(3, .int 1), (2, .int (nB (!(decide ((μ.1 56 0) = 0)) && (decide ((μ.1 57 0) = k))))), (0, .ref 50), (1, .int k)]) (st' := [.int 0]) (μ' := μ) (by rfl) ?_
          exact zJ hJ2 rfl (by simp only [h13, h14, h15, lb_f, Int64.or_zero, nB_t, nB_f, Bool.not_true, Bool.not_false, Bool.and_true, Bool.true_and, Bool.false_and, Bool.and_false, Bool.or_true, Bool.true_or, Bool.false_or, Bool.or_false, cond_true, cond_false]) rfl
        · have h15 : (decide ((μ.1 57 1) = k)) = true := decide_eq_true (cn_ne.mp h15)
          refine z_rcs hc hH 2 (pc' := 37) (lv' := [(3, .int 1), (2, .int (nB (!(decide ((μ.1 56 0) = 0)) && (decide ((μ.1 57 0) = k))))), (0, .ref 50), (1, .int k)]) (st' := [.int 1]) (μ' := μ) (by rfl) ?_
          exact zJ hJ2 rfl (by simp only [h13, h14, h15, lb_f, Int64.or_zero, nB_t, nB_f, Bool.not_true, Bool.not_false, Bool.and_true, Bool.true_and, Bool.false_and, Bool.and_false, Bool.or_true, Bool.true_or, Bool.false_or, Bool.or_false, cond_true, cond_false]) rfl
  refine zq_if hc hH (by rfl) (tg := 36) (by rfl) (fun h16 => ?_) (fun h16 => ?_)
  · have h16 : (decide ((μ.1 56 0) = 0)) = true := decide_eq_true (cm_eq9.mp h16)
    refine z_rcs hc hH 1 (pc' := 37) (lv' := [(3, .int 0), (2, .int 0), (0, .ref 50), (1, .int k)]) (st' := [.int 0]) (μ' := μ) (by rfl) ?_
    exact zJ hJ1 rfl (by simp only [h16, lb_f, Int64.or_zero, nB_t, nB_f, Bool.not_true, Bool.not_false, Bool.and_true, Bool.true_and, Bool.false_and, Bool.and_false, Bool.or_true, Bool.true_or, Bool.false_or, Bool.or_false, cond_true, cond_false]) rfl
  · have h16 : (decide ((μ.1 56 0) = 0)) = false := decide_eq_false (cn_eq.mp h16)
    refine z_rcs hc hH 3 (pc' := 27) (lv' := [(3, .int 0), (2, .int 0), (0, .ref 50), (1, .int k)]) (st' := [.int 0, .ref 57]) (μ' := μ) (by rfl) ?_
    refine zq_iald hc hH (by rfl) 4 (by decide +kernel) (show vp_in (nI 0) 4 from vp_in_nI (by decide) (by decide)) ?_
    show Z 0 28 [(3, .int 0), (2, .int 0), (0, .ref 50), (1, .int k)] [.int (μ.1 57 0)] μ
    refine z_rcs hc hH 1 (pc' := 29) (lv' := [(3, .int 0), (2, .int 0), (0, .ref 50), (1, .int k)]) (st' := [.int k, .int (μ.1 57 0)]) (μ' := μ) (by rfl) ?_
    refine zq_ic hc hH (by rfl) (tg := 36) (by rfl) (fun h17 => ?_) (fun h17 => ?_)
    · have h17 : (decide ((μ.1 57 0) = k)) = false := decide_eq_false (cm_ne.mp h17)
      refine z_rcs hc hH 1 (pc' := 37) (lv' := [(3, .int 0), (2, .int 0), (0, .ref 50), (1, .int k)]) (st' := [.int 0]) (μ' := μ) (by rfl) ?_
      exact zJ hJ1 rfl (by simp only [h16, h17, lb_f, Int64.or_zero, nB_t, nB_f, Bool.not_true, Bool.not_false, Bool.and_true, Bool.true_and, Bool.false_and, Bool.and_false, Bool.or_true, Bool.true_or, Bool.false_or, Bool.or_false, cond_true, cond_false]) rfl
    · have h17 : (decide ((μ.1 57 0) = k)) = true := decide_eq_true (cn_ne.mp h17)
      refine z_rcs hc hH 2 (pc' := 37) (lv' := [(3, .int 0), (2, .int 0), (0, .ref 50), (1, .int k)]) (st' := [.int 1]) (μ' := μ) (by rfl) ?_
      exact zJ hJ1 rfl (by simp only [h16, h17, lb_f, Int64.or_zero, nB_t, nB_f, Bool.not_true, Bool.not_false, Bool.and_true, Bool.true_and, Bool.false_and, Bool.and_false, Bool.or_true, Bool.true_or, Bool.false_or, Bool.or_false, cond_true, cond_false]) rfl
noncomputable def xR (μ : zM) (k : Int32) : Bool := ((((decide ((μ.1 56 0) = 0)) && (decide ((μ.1 57 0) = k))) || ((decide ((μ.1 56 1) = 0)) && (decide ((μ.1 57 1) = k)))) || ((decide ((μ.1 56 2) = 0)) && (decide ((μ.1 57 2) = k)))) || ((decide ((μ.1 56 3) = 0)) && (decide ((μ.1 57 3) = k)))
theorem fb_X7_hasRun (d : Nat) (hd : 1 ≤ d) (μ : zM) (k : Int32) : z_C d mi_X7_hasRun [.ref 50, .int k] μ (zR μ (.int (nB (xR μ k)))) := by
  refine z_C_in (by decide) (by omega) (fun d' Z ed hc hr => ?_)
  have hH : zH mi_X7_hasRun zt_X7_hasRun 79 7 4 := hh_X7_hasRun
  refine z_rcs hc hH 12 (pc' := 18) (lv' := [(3, .int 0), (2, .int 0), (0, .ref 50), (1, .int k)]) (st' := [.int 0, .ref 56]) (μ' := μ) (by rfl) ?_
  refine zq_iald hc hH (by rfl) 4 (by decide +kernel) (show vp_in (nI 0) 4 from vp_in_nI (by decide) (by decide)) ?_
  show Z 0 19 [(3, .int 0), (2, .int 0), (0, .ref 50), (1, .int k)] [.int (μ.1 56 0)] μ
  have hJ1 : Z 0 37 [(3, .int 0), (2, .int 0), (0, .ref 50), (1, .int k)] [.int (nB ((decide ((μ.1 56 0) = 0)) && (decide ((μ.1 57 0) = k))))] μ := by
    refine z_rcs hc hH 7 (pc' := 10) (lv' := [(3, .int 1), (2, .int (nB ((decide ((μ.1 56 0) = 0)) && (decide ((μ.1 57 0) = k))))), (0, .ref 50), (1, .int k)]) (st' := [.int (nB ((decide ((μ.1 56 0) = 0)) && (decide ((μ.1 57 0) = k))))]) (μ' := μ) (by rfl) ?_
    have hJ2 : Z 0 37 [(3, .int 1), (2, .int (nB ((decide ((μ.1 56 0) = 0)) && (decide ((μ.1 57 0) = k))))), (0, .ref 50), (1, .int k)] [.int (nB (((decide ((μ.1 56 0) = 0)) && (decide ((μ.1 57 0) = k))) || ((decide ((μ.1 56 1) = 0)) && (decide ((μ.1 57 1) = k)))))] μ := by
      generalize he3 : (((decide ((μ.1 56 0) = 0)) && (decide ((μ.1 57 0) = k))) || ((decide ((μ.1 56 1) = 0)) && (decide ((μ.1 57 1) = k)))) = e3
      refine z_rcs hc hH 7 (pc' := 10) (lv' := [(3, .int 2), (2, .int (nB e3)), (0, .ref 50), (1, .int k)]) (st' := [.int (nB e3)]) (μ' := μ) (by rfl) ?_
      have hJ4 : Z 0 37 [(3, .int 2), (2, .int (nB e3)), (0, .ref 50), (1, .int k)] [.int (nB (e3 || ((decide ((μ.1 56 2) = 0)) && (decide ((μ.1 57 2) = k)))))] μ := by
        refine z_rcs hc hH 7 (pc' := 10) (lv' := [(3, .int 3), (2, .int (nB (e3 || ((decide ((μ.1 56 2) = 0)) && (decide ((μ.1 57 2) = k)))))), (0, .ref 50), (1, .int k)]) (st' := [.int (nB (e3 || ((decide ((μ.1 56 2) = 0)) && (decide ((μ.1 57 2) = k)))))]) (μ' := μ) (by rfl) ?_
        have hJ5 : Z 0 37 [(3, .int 3), (2, .int (nB (e3 || ((decide ((μ.1 56 2) = 0)) && (decide ((μ.1 57 2) = k)))))), (0, .ref 50), (1, .int k)] [.int (nB ((e3 || ((decide ((μ.1 56 2) = 0)) && (decide ((μ.1 57 2) = k)))) || ((decide ((μ.1 56 3) = 0)) && (decide ((μ.1 57 3) = k)))))] μ := by
          generalize he6 : ((e3 || ((decide ((μ.1 56 2) = 0)) && (decide ((μ.1 57 2) = k)))) || ((decide ((μ.1 56 3) = 0)) && (decide ((μ.1 57 3) = k)))) = e6
          refine z_rcs hc hH 7 (pc' := 45) (lv' := [(3, .int 4), (2, .int (nB e6)), (0, .ref 50), (1, .int k)]) (st' := [.int (nB e6)]) (μ' := μ) (by rfl) ?_
          exact hr 0 45 _ _ _ (some (.int (nB e6))) (by decide +kernel) ((fun b : Bool => (by cases b <;> rfl : z_rn mi_X7_hasRun 45 [.int (nB b)] = some (some (.int (nB b))))) e6) (⟨rfl, (by subst he6; subst he3; rfl)⟩)
        refine zq_if hc hH (by rfl) (tg := 32) (by rfl) (fun h7 => ?_) (fun h7 => ?_)
        · have h7 : (e3 || ((decide ((μ.1 56 2) = 0)) && (decide ((μ.1 57 2) = k)))) = true := nB_n.mp (cm_ne.mp h7)
          refine z_rcs hc hH 2 (pc' := 37) (lv' := [(3, .int 3), (2, .int (nB (e3 || ((decide ((μ.1 56 2) = 0)) && (decide ((μ.1 57 2) = k)))))), (0, .ref 50), (1, .int k)]) (st' := [.int 1]) (μ' := μ) (by rfl) ?_
          exact zJ hJ5 rfl (by simp only [h7, lb_f, Int64.or_zero, nB_t, nB_f, Bool.not_true, Bool.not_false, Bool.and_true, Bool.true_and, Bool.false_and, Bool.and_false, Bool.or_true, Bool.true_or, Bool.false_or, Bool.or_false, cond_true, cond_false]) rfl
        · have h7 : (e3 || ((decide ((μ.1 56 2) = 0)) && (decide ((μ.1 57 2) = k)))) = false := nB_z.mp (cn_ne.mp h7)
          refine z_rcs hc hH 3 (pc' := 18) (lv' := [(3, .int 3), (2, .int (nB (e3 || ((decide ((μ.1 56 2) = 0)) && (decide ((μ.1 57 2) = k)))))), (0, .ref 50), (1, .int k)]) (st' := [.int 3, .ref 56]) (μ' := μ) (by rfl) ?_
          refine zq_iald hc hH (by rfl) 4 (by decide +kernel) (show vp_in (nI 3) 4 from vp_in_nI (by decide) (by decide)) ?_
          show Z 0 19 [(3, .int 3), (2, .int (nB (e3 || ((decide ((μ.1 56 2) = 0)) && (decide ((μ.1 57 2) = k)))))), (0, .ref 50), (1, .int k)] [.int (μ.1 56 3)] μ
          refine zq_if hc hH (by rfl) (tg := 36) (by rfl) (fun h8 => ?_) (fun h8 => ?_)
          · have h8 : (decide ((μ.1 56 3) = 0)) = false := decide_eq_false (cm_ne.mp h8)
            refine z_rcs hc hH 1 (pc' := 37) (lv' := [(3, .int 3), (2, .int (nB (e3 || ((decide ((μ.1 56 2) = 0)) && (decide ((μ.1 57 2) = k)))))), (0, .ref 50), (1, .int k)]) (st' := [.int 0]) (μ' := μ) (by rfl) ?_
            exact zJ hJ5 rfl (by simp only [h7, h8, lb_f, Int64.or_zero, nB_t, nB_f, Bool.not_true, Bool.not_false, Bool.and_true, Bool.true_and, Bool.false_and, Bool.and_false, Bool.or_true, Bool.true_or, Bool.false_or, Bool.or_false, cond_true, cond_false]) rfl
          · have h8 : (decide ((μ.1 56 3) = 0)) = true := decide_eq_true (cn_ne.mp h8)
            refine z_rcs hc hH 3 (pc' := 27) (lv' := [(3, .int 3), (2, .int (nB (e3 || ((decide ((μ.1 56 2) = 0)) && (decide ((μ.1 57 2) = k)))))), (0, .ref 50), (1, .int k)]) (st' := [.int 3, .ref 57]) (μ' := μ) (by rfl) ?_
            refine zq_iald hc hH (by rfl) 4 (by decide +kernel) (show vp_in (nI 3) 4 from vp_in_nI (by decide) (by decide)) ?_
            show Z 0 28 [(3, .int 3), (2, .int (nB (e3 || ((decide ((μ.1 56 2) = 0)) && (decide ((μ.1 57 2) = k)))))), (0, .ref 50), (1, .int k)] [.int (μ.1 57 3)] μ
            refine z_rcs hc hH 1 (pc' := 29) (lv' := [(3, .int 3), (2, .int (nB (e3 || ((decide ((μ.1 56 2) = 0)) && (decide ((μ.1 57 2) = k)))))), (0, .ref 50), (1, .int k)]) (st' := [.int k, .int (μ.1 57 3)]) (μ' := μ) (by rfl) ?_
            refine zq_ic hc hH (by rfl) (tg := 36) (by rfl) (fun h9 => ?_) (fun h9 => ?_)
            · have h9 : (decide ((μ.1 57 3) = k)) = false := decide_eq_false (cm_ne.mp h9)
              refine z_rcs hc hH 1 (pc' := 37) (lv' := [(3, .int 3), (2, .int (nB (e3 || ((decide ((μ.1 56 2) = 0)) && (decide ((μ.1 57 2) = k)))))), (0, .ref 50), (1, .int k)]) (st' := [.int 0]) (μ' := μ) (by rfl) ?_
              exact zJ hJ5 rfl (by simp only [h7, h8, h9, lb_f, Int64.or_zero, nB_t, nB_f, Bool.not_true, Bool.not_false, Bool.and_true, Bool.true_and, Bool.false_and, Bool.and_false, Bool.or_true, Bool.true_or, Bool.false_or, Bool.or_false, cond_true, cond_false]) rfl
            · have h9 : (decide ((μ.1 57 3) = k)) = true := decide_eq_true (cn_ne.mp h9)
              refine z_rcs hc hH 2 (pc' := 37) (lv' := [(3, .int 3), (2, .int (nB (e3 || ((decide ((μ.1 56 2) = 0)) && (decide ((μ.1 57 2) = k)))))), (0, .ref 50), (1, .int k)]) (st' := [.int 1]) (μ' := μ) (by rfl) ?_
              exact zJ hJ5 rfl (by simp only [h7, h8, h9, lb_f, Int64.or_zero, nB_t, nB_f, Bool.not_true, Bool.not_false, Bool.and_true, Bool.true_and, Bool.false_and, Bool.and_false, Bool.or_true, Bool.true_or, Bool.false_or, Bool.or_false, cond_true, cond_false]) rfl
      refine zq_if hc hH (by rfl) (tg := 32) (by rfl) (fun h10 => ?_) (fun h10 => ?_)
      · have h10 : (e3) = true := nB_n.mp (cm_ne.mp h10)
        refine z_rcs hc hH 2 (pc' := 37) (lv' := [(3, .int 2), (2, .int (nB e3)), (0, .ref 50), (1, .int k)]) (st' := [.int 1]) (μ' := μ) (by rfl) ?_
        exact zJ hJ4 rfl (by simp only [h10, lb_f, Int64.or_zero, nB_t, nB_f, Bool.not_true, Bool.not_false, Bool.and_true, Bool.true_and, Bool.false_and, Bool.and_false, Bool.or_true, Bool.true_or, Bool.false_or, Bool.or_false, cond_true, cond_false]) rfl
      · have h10 : (e3) = false := nB_z.mp (cn_ne.mp h10)
        refine z_rcs hc hH 3 (pc' := 18) (lv' := [(3, .int 2), (2, .int (nB e3)), (0, .ref 50), (1, .int k)]) (st' := [.int 2, .ref 56]) (μ' := μ) (by rfl) ?_
        refine zq_iald hc hH (by rfl) 4 (by decide +kernel) (show vp_in (nI 2) 4 from vp_in_nI (by decide) (by decide)) ?_
        show Z 0 19 [(3, .int 2), (2, .int (nB e3)), (0, .ref 50), (1, .int k)] [.int (μ.1 56 2)] μ
        refine zq_if hc hH (by rfl) (tg := 36) (by rfl) (fun h11 => ?_) (fun h11 => ?_)
        · have h11 : (decide ((μ.1 56 2) = 0)) = false := decide_eq_false (cm_ne.mp h11)
          refine z_rcs hc hH 1 (pc' := 37) (lv' := [(3, .int 2), (2, .int (nB e3)), (0, .ref 50), (1, .int k)]) (st' := [.int 0]) (μ' := μ) (by rfl) ?_
          exact zJ hJ4 rfl (by simp only [h10, h11, lb_f, Int64.or_zero, nB_t, nB_f, Bool.not_true, Bool.not_false, Bool.and_true, Bool.true_and, Bool.false_and, Bool.and_false, Bool.or_true, Bool.true_or, Bool.false_or, Bool.or_false, cond_true, cond_false]) rfl
        · have h11 : (decide ((μ.1 56 2) = 0)) = true := decide_eq_true (cn_ne.mp h11)
          refine z_rcs hc hH 3 (pc' := 27) (lv' := [(3, .int 2), (2, .int (nB e3)), (0, .ref 50), (1, .int k)]) (st' := [.int 2, .ref 57]) (μ' := μ) (by rfl) ?_
          refine zq_iald hc hH (by rfl) 4 (by decide +kernel) (show vp_in (nI 2) 4 from vp_in_nI (by decide) (by decide)) ?_
          show Z 0 28 [(3, .int 2), (2, .int (nB e3)), (0, .ref 50), (1, .int k)] [.int (μ.1 57 2)] μ
          refine z_rcs hc hH 1 (pc' := 29) (lv' := [(3, .int 2), (2, .int (nB e3)), (0, .ref 50), (1, .int k)]) (st' := [.int k, .int (μ.1 57 2)]) (μ' := μ) (by rfl) ?_
          refine zq_ic hc hH (by rfl) (tg := 36) (by rfl) (fun h12 => ?_) (fun h12 => ?_)
          · have h12 : (decide ((μ.1 57 2) = k)) = false := decide_eq_false (cm_ne.mp h12)
            refine z_rcs hc hH 1 (pc' := 37) (lv' := [(3, .int 2), (2, .int (nB e3)), (0, .ref 50), (1, .int k)]) (st' := [.int 0]) (μ' := μ) (by rfl) ?_
            exact zJ hJ4 rfl (by simp only [h10, h11, h12, lb_f, Int64.or_zero, nB_t, nB_f, Bool.not_true, Bool.not_false, Bool.and_true, Bool.true_and, Bool.false_and, Bool.and_false, Bool.or_true, Bool.true_or, Bool.false_or, Bool.or_false, cond_true, cond_false]) rfl
          · have h12 : (decide ((μ.1 57 2) = k)) = true := decide_eq_true (cn_ne.mp h12)
            refine z_rcs hc hH 2 (pc' := 37) (lv' := [(3, .int 2), (2, .int (nB e3)), (0, .ref 50), (1, .int k)]) (st' := [.int 1]) (μ' := μ) (by rfl) ?_
            exact zJ hJ4 rfl (by simp only [h10, h11, h12, lb_f, Int64.or_zero, nB_t, nB_f, Bool.not_true, Bool.not_false, Bool.and_true, Bool.true_and, Bool.false_and, Bool.and_false, Bool.or_true, Bool.true_or, Bool.false_or, Bool.or_false, cond_true, cond_false]) rfl
    refine zq_if hc hH (by rfl) (tg := 32) (by rfl) (fun h13 => ?_) (fun h13 => ?_)
    · have h13 : ((decide ((μ.1 56 0) = 0)) && (decide ((μ.1 57 0) = k))) = true := nB_n.mp (cm_ne.mp h13)
      refine z_rcs hc hH 2 (pc' := 37) (lv' := [(3, .int 1), (2, .int (nB ((decide ((μ.1 56 0) = 0)) && (decide ((μ.1 57 0) = k))))), (0, .ref 50), (1, .int k)]) (st' := [.int 1]) (μ' := μ) (by rfl) ?_
      exact zJ hJ2 rfl (by simp only [h13, lb_f, Int64.or_zero, nB_t, nB_f, Bool.not_true, Bool.not_false, Bool.and_true, Bool.true_and, Bool.false_and, Bool.and_false, Bool.or_true, Bool.true_or, Bool.false_or, Bool.or_false, cond_true, cond_false]) rfl
    · have h13 : ((decide ((μ.1 56 0) = 0)) && (decide ((μ.1 57 0) = k))) = false := nB_z.mp (cn_ne.mp h13)
      refine z_rcs hc hH 3 (pc' := 18) (lv' := [(3, .int 1), (2, .int (nB ((decide ((μ.1 56 0) = 0)) && (decide ((μ.1 57 0) = k))))), (0, .ref 50), (1, .int k)]) (st' := [.int 1, .ref 56]) (μ' := μ) (by rfl) ?_
      refine zq_iald hc hH (by rfl) 4 (by decide +kernel) (show vp_in (nI 1) 4 from vp_in_nI (by decide) (by decide)) ?_
      show Z 0 19 [(3, .int 1), (2, .int (nB ((decide ((μ.1 56 0) = 0)) && (decide ((μ.1 57 0) = k))))), (0, .ref 50), (1, .int k)] [.int (μ.1 56 1)] μ
      refine zq_if hc hH (by rfl) (tg := 36) (by rfl) (fun h14 => ?_) (fun h14 => ?_)
      · have h14 : (decide ((μ.1 56 1) = 0)) = false := decide_eq_false (cm_ne.mp h14)
        refine z_rcs hc hH 1 (pc' := 37) (lv' := [(3, .int 1), (2, .int (nB ((decide ((μ.1 56 0) = 0)) && (decide ((μ.1 57 0) = k))))), (0, .ref 50), (1, .int k)]) (st' := [.int 0]) (μ' := μ) (by rfl) ?_
        exact zJ hJ2 rfl (by simp only [h13, h14, lb_f, Int64.or_zero, nB_t, nB_f, Bool.not_true, Bool.not_false, Bool.and_true, Bool.true_and, Bool.false_and, Bool.and_false, Bool.or_true, Bool.true_or, Bool.false_or, Bool.or_false, cond_true, cond_false]) rfl
      · have h14 : (decide ((μ.1 56 1) = 0)) = true := decide_eq_true (cn_ne.mp h14)
        refine z_rcs hc hH 3 (pc' := 27) (lv' := [(3, .int 1), (2, .int (nB ((decide ((μ.1 56 0) = 0)) && (decide ((μ.1 57 0) = k))))), (0, .ref 50), (1, .int k)]) (st' := [.int 1, .ref 57]) (μ' := μ) (by rfl) ?_
        refine zq_iald hc hH (by rfl) 4 (by decide +kernel) (show vp_in (nI 1) 4 from vp_in_nI (by decide) (by decide)) ?_
        show Z 0 28 [(3, .int 1), (2, .int (nB ((decide ((μ.1 56 0) = 0)) && (decide ((μ.1 57 0) = k))))), (0, .ref 50), (1, .int k)] [.int (μ.1 57 1)] μ
        refine z_rcs hc hH 1 (pc' := 29) (lv' := [(3, .int 1), (2, .int (nB ((decide ((μ.1 56 0) = 0)) && (decide ((μ.1 57 0) = k))))), (0, .ref 50), (1, .int k)]) (st' := [.int k, .int (μ.1 57 1)]) (μ' := μ) (by rfl) ?_
        refine zq_ic hc hH (by rfl) (tg := 36) (by rfl) (fun h15 => ?_) (fun h15 => ?_)
        · have h15 : (decide ((μ.1 57 1) = k)) = false := decide_eq_false (cm_ne.mp h15)
          refine z_rcs hc hH 1 (pc' := 37) (lv' := [(3, .int 1), (2, .int (nB ((decide ((μ.1 56 0) = 0)) && (decide ((μ.1 57 0) = k))))), (0, .ref 50), (1, .int k)]) (st' := [.int 0]) (μ' := μ) (by rfl) ?_
          exact zJ hJ2 rfl (by simp only [h13, h14, h15, lb_f, Int64.or_zero, nB_t, nB_f, Bool.not_true, Bool.not_false, Bool.and_true, Bool.true_and, Bool.false_and, Bool.and_false, Bool.or_true, Bool.true_or, Bool.false_or, Bool.or_false, cond_true, cond_false]) rfl
        · have h15 : (decide ((μ.1 57 1) = k)) = true := decide_eq_true (cn_ne.mp h15)
          refine z_rcs hc hH 2 (pc' := 37) (lv' := [(3, .int 1), (2, .int (nB ((decide ((μ.1 56 0) = 0)) && (decide ((μ.1 57 0) = k))))), (0, .ref 50), (1, .int k)]) (st' := [.int 1]) (μ' := μ) (by rfl) ?_
          exact zJ hJ2 rfl (by simp only [h13, h14, h15, lb_f, Int64.or_zero, nB_t, nB_f, Bool.not_true, Bool.not_false, Bool.and_true, Bool.true_and, Bool.false_and, Bool.and_false, Bool.or_true, Bool.true_or, Bool.false_or, Bool.or_false, cond_true, cond_false]) rfl
  refine zq_if hc hH (by rfl) (tg := 36) (by rfl) (fun h16 => ?_) (fun h16 => ?_)
  · have h16 : (decide ((μ.1 56 0) = 0)) = false := decide_eq_false (cm_ne.mp h16)
    refine z_rcs hc hH 1 (pc' := 37) (lv' := [(3, .int 0), (2, .int 0), (0, .ref 50), (1, .int k)]) (st' := [.int 0]) (μ' := μ) (by rfl) ?_
    exact zJ hJ1 rfl (by simp only [h16, lb_f, Int64.or_zero, nB_t, nB_f, Bool.not_true, Bool.not_false, Bool.and_true, Bool.true_and, Bool.false_and, Bool.and_false, Bool.or_true, Bool.true_or, Bool.false_or, Bool.or_false, cond_true, cond_false]) rfl
  · have h16 : (decide ((μ.1 56 0) = 0)) = true := decide_eq_true (cn_ne.mp h16)
    refine z_rcs hc hH 3 (pc' := 27) (lv' := [(3, .int 0), (2, .int 0), (0, .ref 50), (1, .int k)]) (st' := [.int 0, .ref 57]) (μ' := μ) (by rfl) ?_
    refine zq_iald hc hH (by rfl) 4 (by decide +kernel) (show vp_in (nI 0) 4 from vp_in_nI (by decide) (by decide)) ?_
    show Z 0 28 [(3, .int 0), (2, .int 0), (0, .ref 50), (1, .int k)] [.int (μ.1 57 0)] μ
    refine z_rcs hc hH 1 (pc' := 29) (lv' := [(3, .int 0), (2, .int 0), (0, .ref 50), (1, .int k)]) (st' := [.int k, .int (μ.1 57 0)]) (μ' := μ) (by rfl) ?_
    refine zq_ic hc hH (by rfl) (tg := 36) (by rfl) (fun h17 => ?_) (fun h17 => ?_)
    · have h17 : (decide ((μ.1 57 0) = k)) = false := decide_eq_false (cm_ne.mp h17)
      refine z_rcs hc hH 1 (pc' := 37) (lv' := [(3, .int 0), (2, .int 0), (0, .ref 50), (1, .int k)]) (st' := [.int 0]) (μ' := μ) (by rfl) ?_
      exact zJ hJ1 rfl (by simp only [h16, h17, lb_f, Int64.or_zero, nB_t, nB_f, Bool.not_true, Bool.not_false, Bool.and_true, Bool.true_and, Bool.false_and, Bool.and_false, Bool.or_true, Bool.true_or, Bool.false_or, Bool.or_false, cond_true, cond_false]) rfl
    · have h17 : (decide ((μ.1 57 0) = k)) = true := decide_eq_true (cn_ne.mp h17)
      refine z_rcs hc hH 2 (pc' := 37) (lv' := [(3, .int 0), (2, .int 0), (0, .ref 50), (1, .int k)]) (st' := [.int 1]) (μ' := μ) (by rfl) ?_
      exact zJ hJ1 rfl (by simp only [h16, h17, lb_f, Int64.or_zero, nB_t, nB_f, Bool.not_true, Bool.not_false, Bool.and_true, Bool.true_and, Bool.false_and, Bool.and_false, Bool.or_true, Bool.true_or, Bool.false_or, Bool.or_false, cond_true, cond_false]) rfl
theorem fb_X7_bit (d : Nat) (hd : 1 ≤ d) (μ : zM) (k : Int32) : z_C d mi_X7_bit [.int k] μ (zR μ (.long (lb true k))) := by
  refine z_C_in (by decide) (by omega) (fun d' Z ed hc hr => ?_)
  have hH : zH mi_X7_bit zt_X7_bit 79 7 1 := hh_X7_bit
  refine z_rcs hc hH 3 (pc' := 3) (lv' := [(0, .int k)]) (st' := [.long (1 <<< (k.toInt64 &&& 63))]) (μ' := μ) (by rfl) ?_
  exact hr 0 3 _ _ _ (some (.long (1 <<< (k.toInt64 &&& 63)))) (by decide +kernel) (z_rx_ok hH (by rfl)) (⟨rfl, (by rfl)⟩)
noncomputable def xE1 (μ : zM) (ru : Int32) : Bool := (((((xEn (μ.1 50 21)) && ((xEn (μ.1 57 0)) || ((decide ((μ.1 56 0) = 0)) && (xEn ((μ.1 57 0) + 2))))) && ((xEn (μ.1 57 1)) || ((decide ((μ.1 56 1) = 0)) && (xEn ((μ.1 57 1) + 2))))) && ((xEn (μ.1 57 2)) || ((decide ((μ.1 56 2) = 0)) && (xEn ((μ.1 57 2) + 2))))) && ((xEn (μ.1 57 3)) || ((decide ((μ.1 56 3) = 0)) && (xEn ((μ.1 57 3) + 2))))) && (!(decide (ru ≤ 0)) && (((((xHo (μ.1 50 21)) || (xHo (μ.1 57 0))) || (xHo (μ.1 57 1))) || (xHo (μ.1 57 2))) || (xHo (μ.1 57 3))))
noncomputable def xE2 (μ : zM) (ru : Int32) : Bool := (((((xTe (μ.1 50 21)) && ((xTe (μ.1 57 0)) || ((decide ((μ.1 56 0) = 0)) && (xTe ((μ.1 57 0) + 2))))) && ((xTe (μ.1 57 1)) || ((decide ((μ.1 56 1) = 0)) && (xTe ((μ.1 57 1) + 2))))) && ((xTe (μ.1 57 2)) || ((decide ((μ.1 56 2) = 0)) && (xTe ((μ.1 57 2) + 2))))) && ((xTe (μ.1 57 3)) || ((decide ((μ.1 56 3) = 0)) && (xTe ((μ.1 57 3) + 2))))) && (!(decide (ru ≤ 0)))
theorem fb_X7_edges (d : Nat) (hd : 3 ≤ d) (μ : zM) (ru : Int32) : z_C d mi_X7_edges [.ref 50, .int ru] μ (fun r μ' => r = none ∧ μ' = mGP μ (μ.2.1 50 24) (((μ.2.1 50 25) ||| (lb (xE1 μ ru) 23)) ||| (lb (xE2 μ ru) 27)) (μ.1 50 23)) := by
  refine z_C_in (by decide) (by omega) (fun d' Z ed hc hr => ?_)
  have hH : zH mi_X7_edges zt_X7_edges 79 7 9 := hh_X7_edges
  refine zJ (μ := (mGP μ (μ.2.1 50 24) (μ.2.1 50 25) (μ.1 50 23))) ?_ rfl rfl (mGP_rf μ)
  refine z_rcs hc hH 2 (pc' := 4) (lv' := [(0, .ref 50), (1, .int ru)]) (st' := [.int (μ.1 50 21)]) (μ' := mGP μ (μ.2.1 50 24) (μ.2.1 50 25) (μ.1 50 23)) (by rfl) ?_
  refine zq_call hc (z_cx_ok hH (by rfl)) (fb_X7_isEnd d' (by omega) (mGP μ (μ.2.1 50 24) (μ.2.1 50 25) (μ.1 50 23)) (μ.1 50 21)) (by decide +kernel) (fun r9 μ9 hq => ?_)
  obtain ⟨hμ9, rfl⟩ := hq
  rw [hμ9]
  clear hμ9 μ9
  show Z 0 7 [(0, .ref 50), (1, .int ru)] [.int (nB (xEn (μ.1 50 21)))] _
  refine z_rcs0 hc hH 3 (pc' := 12) (lv' := [(2, .int (nB (xEn (μ.1 50 21)))), (0, .ref 50), (1, .int ru)]) (st' := [.int (μ.1 50 21)]) (by rfl) ?_
  refine zq_call hc (z_cx_ok hH (by rfl)) (fb_X7_isTerminal d' (by omega) (mGP μ (μ.2.1 50 24) (μ.2.1 50 25) (μ.1 50 23)) (μ.1 50 21)) (by decide +kernel) (fun r9 μ9 hq => ?_)
  obtain ⟨hμ9, rfl⟩ := hq
  rw [hμ9]
  clear hμ9 μ9
  show Z 0 15 [(2, .int (nB (xEn (μ.1 50 21)))), (0, .ref 50), (1, .int ru)] [.int (nB (xTe (μ.1 50 21)))] _
  refine z_rcs0 hc hH 3 (pc' := 20) (lv' := [(3, .int (nB (xTe (μ.1 50 21)))), (2, .int (nB (xEn (μ.1 50 21)))), (0, .ref 50), (1, .int ru)]) (st' := [.int (μ.1 50 21)]) (by rfl) ?_
  refine zq_call hc (z_cx_ok hH (by rfl)) (fb_X7_isHonour d' (by omega) (mGP μ (μ.2.1 50 24) (μ.2.1 50 25) (μ.1 50 23)) (μ.1 50 21)) (by decide +kernel) (fun r9 μ9 hq => ?_)
  obtain ⟨hμ9, rfl⟩ := hq
  rw [hμ9]
  clear hμ9 μ9
  show Z 0 23 [(3, .int (nB (xTe (μ.1 50 21)))), (2, .int (nB (xEn (μ.1 50 21)))), (0, .ref 50), (1, .int ru)] [.int (nB (xHo (μ.1 50 21)))] _
  refine z_rcs0 hc hH 9 (pc' := 40) (lv' := [(5, .int 0), (4, .int (nB (xHo (μ.1 50 21)))), (3, .int (nB (xTe (μ.1 50 21)))), (2, .int (nB (xEn (μ.1 50 21)))), (0, .ref 50), (1, .int ru)]) (st' := [.int 0, .ref 57]) (by rfl) ?_
  refine zq_iald hc hH (by rfl) 4 (by decide +kernel) (show vp_in (nI 0) 4 from vp_in_nI (by decide) (by decide)) ?_
  show Z 0 41 [(5, .int 0), (4, .int (nB (xHo (μ.1 50 21)))), (3, .int (nB (xTe (μ.1 50 21)))), (2, .int (nB (xEn (μ.1 50 21)))), (0, .ref 50), (1, .int ru)] [.int (μ.1 57 0)] _
  refine z_rcs0 hc hH 2 (pc' := 45) (lv' := [(6, .int (μ.1 57 0)), (5, .int 0), (4, .int (nB (xHo (μ.1 50 21)))), (3, .int (nB (xTe (μ.1 50 21)))), (2, .int (nB (xEn (μ.1 50 21)))), (0, .ref 50), (1, .int ru)]) (st' := [.int (μ.1 57 0)]) (by rfl) ?_
  refine zq_call hc (z_cx_ok hH (by rfl)) (fb_X7_isEnd d' (by omega) (mGP μ (μ.2.1 50 24) (μ.2.1 50 25) (μ.1 50 23)) (μ.1 57 0)) (by decide +kernel) (fun r9 μ9 hq => ?_)
  obtain ⟨hμ9, rfl⟩ := hq
  rw [hμ9]
  clear hμ9 μ9
  show Z 0 48 [(6, .int (μ.1 57 0)), (5, .int 0), (4, .int (nB (xHo (μ.1 50 21)))), (3, .int (nB (xTe (μ.1 50 21)))), (2, .int (nB (xEn (μ.1 50 21)))), (0, .ref 50), (1, .int ru)] [.int (nB (xEn (μ.1 57 0)))] _
  have hJ1 : Z 0 76 [(6, .int (μ.1 57 0)), (5, .int 0), (4, .int (nB (xHo (μ.1 50 21)))), (3, .int (nB (xTe (μ.1 50 21)))), (2, .int (nB (xEn (μ.1 50 21)))), (0, .ref 50), (1, .int ru)] [.int (nB ((xEn (μ.1 57 0)) || ((decide ((μ.1 56 0) = 0)) && (xEn ((μ.1 57 0) + 2)))))] (mGP μ (μ.2.1 50 24) (μ.2.1 50 25) (μ.1 50 23)) := by
    generalize he2 : ((xEn (μ.1 57 0)) || ((decide ((μ.1 56 0) = 0)) && (xEn ((μ.1 57 0) + 2)))) = e2
    refine z_rcs0 hc hH 2 (pc' := 80) (lv' := [(7, .int (nB e2)), (6, .int (μ.1 57 0)), (5, .int 0), (4, .int (nB (xHo (μ.1 50 21)))), (3, .int (nB (xTe (μ.1 50 21)))), (2, .int (nB (xEn (μ.1 50 21)))), (0, .ref 50), (1, .int ru)]) (st' := [.int (μ.1 57 0)]) (by rfl) ?_
    refine zq_call hc (z_cx_ok hH (by rfl)) (fb_X7_isTerminal d' (by omega) (mGP μ (μ.2.1 50 24) (μ.2.1 50 25) (μ.1 50 23)) (μ.1 57 0)) (by decide +kernel) (fun r9 μ9 hq => ?_)
    obtain ⟨hμ9, rfl⟩ := hq
    rw [hμ9]
    clear hμ9 μ9
    show Z 0 83 [(7, .int (nB e2)), (6, .int (μ.1 57 0)), (5, .int 0), (4, .int (nB (xHo (μ.1 50 21)))), (3, .int (nB (xTe (μ.1 50 21)))), (2, .int (nB (xEn (μ.1 50 21)))), (0, .ref 50), (1, .int ru)] [.int (nB (xTe (μ.1 57 0)))] _
    have hJ3 : Z 0 111 [(7, .int (nB e2)), (6, .int (μ.1 57 0)), (5, .int 0), (4, .int (nB (xHo (μ.1 50 21)))), (3, .int (nB (xTe (μ.1 50 21)))), (2, .int (nB (xEn (μ.1 50 21)))), (0, .ref 50), (1, .int ru)] [.int (nB ((xTe (μ.1 57 0)) || ((decide ((μ.1 56 0) = 0)) && (xTe ((μ.1 57 0) + 2)))))] (mGP μ (μ.2.1 50 24) (μ.2.1 50 25) (μ.1 50 23)) := by
      generalize he4 : ((xTe (μ.1 57 0)) || ((decide ((μ.1 56 0) = 0)) && (xTe ((μ.1 57 0) + 2)))) = e4
      refine z_rcs0 hc hH 2 (pc' := 114) (lv' := [(8, .int (nB e4)), (7, .int (nB e2)), (6, .int (μ.1 57 0)), (5, .int 0), (4, .int (nB (xHo (μ.1 50 21)))), (3, .int (nB (xTe (μ.1 50 21)))), (2, .int (nB (xEn (μ.1 50 21)))), (0, .ref 50), (1, .int ru)]) (st' := [.int (nB (xEn (μ.1 50 21)))]) (by rfl) ?_
      have hJ5 : Z 0 127 [(8, .int (nB e4)), (7, .int (nB e2)), (6, .int (μ.1 57 0)), (5, .int 0), (4, .int (nB (xHo (μ.1 50 21)))), (3, .int (nB (xTe (μ.1 50 21)))), (2, .int (nB (xEn (μ.1 50 21)))), (0, .ref 50), (1, .int ru)] [.int (nB ((xEn (μ.1 50 21)) && e2))] (mGP μ (μ.2.1 50 24) (μ.2.1 50 25) (μ.1 50 23)) := by
        refine z_rcs0 hc hH 2 (pc' := 129) (lv' := [(2, .int (nB ((xEn (μ.1 50 21)) && e2))), (8, .int (nB e4)), (7, .int (nB e2)), (6, .int (μ.1 57 0)), (5, .int 0), (4, .int (nB (xHo (μ.1 50 21)))), (3, .int (nB (xTe (μ.1 50 21)))), (0, .ref 50), (1, .int ru)]) (st' := [.int (nB (xTe (μ.1 50 21)))]) (by rfl) ?_
        have hJ6 : Z 0 142 [(2, .int (nB ((xEn (μ.1 50 21)) && e2))), (8, .int (nB e4)), (7, .int (nB e2)), (6, .int (μ.1 57 0)), (5, .int 0), (4, .int (nB (xHo (μ.1 50 21)))), (3, .int (nB (xTe (μ.1 50 21)))), (0, .ref 50), (1, .int ru)] [.int (nB ((xTe (μ.1 50 21)) && e4))] (mGP μ (μ.2.1 50 24) (μ.2.1 50 25) (μ.1 50 23)) := by
          refine z_rcs0 hc hH 2 (pc' := 145) (lv' := [(3, .int (nB ((xTe (μ.1 50 21)) && e4))), (2, .int (nB ((xEn (μ.1 50 21)) && e2))), (8, .int (nB e4)), (7, .int (nB e2)), (6, .int (μ.1 57 0)), (5, .int 0), (4, .int (nB (xHo (μ.1 50 21)))), (0, .ref 50), (1, .int ru)]) (st' := [.int (nB (xHo (μ.1 50 21)))]) (by rfl) ?_
          have hJ7 : Z 0 161 [(3, .int (nB ((xTe (μ.1 50 21)) && e4))), (2, .int (nB ((xEn (μ.1 50 21)) && e2))), (8, .int (nB e4)), (7, .int (nB e2)), (6, .int (μ.1 57 0)), (5, .int 0), (4, .int (nB (xHo (μ.1 50 21)))), (0, .ref 50), (1, .int ru)] [.int (nB ((xHo (μ.1 50 21)) || (xHo (μ.1 57 0))))] (mGP μ (μ.2.1 50 24) (μ.2.1 50 25) (μ.1 50 23)) := by
            refine z_rcs0 hc hH 9 (pc' := 40) (lv' := [(5, .int 1), (4, .int (nB ((xHo (μ.1 50 21)) || (xHo (μ.1 57 0))))), (3, .int (nB ((xTe (μ.1 50 21)) && e4))), (2, .int (nB ((xEn (μ.1 50 21)) && e2))), (8, .int (nB e4)), (7, .int (nB e2)), (6, .int (μ.1 57 0)), (0, .ref 50), (1, .int ru)]) (st' := [.int 1, .ref 57]) (by rfl) ?_
            refine zq_iald hc hH (by rfl) 4 (by decide +kernel) (show vp_in (nI 1) 4 from vp_in_nI (by decide) (by decide)) ?_
            show Z 0 41 [(5, .int 1), (4, .int (nB ((xHo (μ.1 50 21)) || (xHo (μ.1 57 0))))), (3, .int (nB ((xTe (μ.1 50 21)) && e4))), (2, .int (nB ((xEn (μ.1 50 21)) && e2))), (8, .int (nB e4)), (7, .int (nB e2)), (6, .int (μ.1 57 0)), (0, .ref 50), (1, .int ru)] [.int (μ.1 57 1)] _
            refine z_rcs0 hc hH 2 (pc' := 45) (lv' := [(6, .int (μ.1 57 1)), (5, .int 1), (4, .int (nB ((xHo (μ.1 50 21)) || (xHo (μ.1 57 0))))), (3, .int (nB ((xTe (μ.1 50 21)) && e4))), (2, .int (nB ((xEn (μ.1 50 21)) && e2))), (8, .int (nB e4)), (7, .int (nB e2)), (0, .ref 50), (1, .int ru)]) (st' := [.int (μ.1 57 1)]) (by rfl) ?_
            refine zq_call hc (z_cx_ok hH (by rfl)) (fb_X7_isEnd d' (by omega) (mGP μ (μ.2.1 50 24) (μ.2.1 50 25) (μ.1 50 23)) (μ.1 57 1)) (by decide +kernel) (fun r9 μ9 hq => ?_)
            obtain ⟨hμ9, rfl⟩ := hq
            rw [hμ9]
            clear hμ9 μ9
            show Z 0 48 [(6, .int (μ.1 57 1)), (5, .int 1), (4, .int (nB ((xHo (μ.1 50 21)) || (xHo (μ.1 57 0))))), (3, .int (nB ((xTe (μ.1 50 21)) && e4))), (2, .int (nB ((xEn (μ.1 50 21)) && e2))), (8, .int (nB e4)), (7, .int (nB e2)), (0, .ref 50), (1, .int ru)] [.int (nB (xEn (μ.1 57 1)))] _
            have hJ8 : Z 0 76 [(6, .int (μ.1 57 1)), (5, .int 1), (4, .int (nB ((xHo (μ.1 50 21)) || (xHo (μ.1 57 0))))), (3, .int (nB ((xTe (μ.1 50 21)) && e4))), (2, .int (nB ((xEn (μ.1 50 21)) && e2))), (8, .int (nB e4)), (7, .int (nB e2)), (0, .ref 50), (1, .int ru)] [.int (nB ((xEn (μ.1 57 1)) || ((decide ((μ.1 56 1) = 0)) && (xEn ((μ.1 57 1) + 2)))))] (mGP μ (μ.2.1 50 24) (μ.2.1 50 25) (μ.1 50 23)) := by
              generalize he9 : ((xEn (μ.1 57 1)) || ((decide ((μ.1 56 1) = 0)) && (xEn ((μ.1 57 1) + 2)))) = e9
              refine z_rcs0 hc hH 2 (pc' := 80) (lv' := [(7, .int (nB e9)), (6, .int (μ.1 57 1)), (5, .int 1), (4, .int (nB ((xHo (μ.1 50 21)) || (xHo (μ.1 57 0))))), (3, .int (nB ((xTe (μ.1 50 21)) && e4))), (2, .int (nB ((xEn (μ.1 50 21)) && e2))), (8, .int (nB e4)), (0, .ref 50), (1, .int ru)]) (st' := [.int (μ.1 57 1)]) (by rfl) ?_
              refine zq_call hc (z_cx_ok hH (by rfl)) (fb_X7_isTerminal d' (by omega) (mGP μ (μ.2.1 50 24) (μ.2.1 50 25) (μ.1 50 23)) (μ.1 57 1)) (by decide +kernel) (fun r9 μ9 hq => ?_)
              obtain ⟨hμ9, rfl⟩ := hq
              rw [hμ9]
              clear hμ9 μ9
              show Z 0 83 [(7, .int (nB e9)), (6, .int (μ.1 57 1)), (5, .int 1), (4, .int (nB ((xHo (μ.1 50 21)) || (xHo (μ.1 57 0))))), (3, .int (nB ((xTe (μ.1 50 21)) && e4))), (2, .int (nB ((xEn (μ.1 50 21)) && e2))), (8, .int (nB e4)), (0, .ref 50), (1, .int ru)] [.int (nB (xTe (μ.1 57 1)))] _
              have hJ10 : Z 0 111 [(7, .int (nB e9)), (6, .int (μ.1 57 1)), (5, .int 1), (4, .int (nB ((xHo (μ.1 50 21)) || (xHo (μ.1 57 0))))), (3, .int (nB ((xTe (μ.1 50 21)) && e4))), (2, .int (nB ((xEn (μ.1 50 21)) && e2))), (8, .int (nB e4)), (0, .ref 50), (1, .int ru)] [.int (nB ((xTe (μ.1 57 1)) || ((decide ((μ.1 56 1) = 0)) && (xTe ((μ.1 57 1) + 2)))))] (mGP μ (μ.2.1 50 24) (μ.2.1 50 25) (μ.1 50 23)) := by
                generalize he11 : ((xTe (μ.1 57 1)) || ((decide ((μ.1 56 1) = 0)) && (xTe ((μ.1 57 1) + 2)))) = e11
                refine z_rcs0 hc hH 2 (pc' := 114) (lv' := [(8, .int (nB e11)), (7, .int (nB e9)), (6, .int (μ.1 57 1)), (5, .int 1), (4, .int (nB ((xHo (μ.1 50 21)) || (xHo (μ.1 57 0))))), (3, .int (nB ((xTe (μ.1 50 21)) && e4))), (2, .int (nB ((xEn (μ.1 50 21)) && e2))), (0, .ref 50), (1, .int ru)]) (st' := [.int (nB ((xEn (μ.1 50 21)) && e2))]) (by rfl) ?_
                have hJ12 : Z 0 127 [(8, .int (nB e11)), (7, .int (nB e9)), (6, .int (μ.1 57 1)), (5, .int 1), (4, .int (nB ((xHo (μ.1 50 21)) || (xHo (μ.1 57 0))))), (3, .int (nB ((xTe (μ.1 50 21)) && e4))), (2, .int (nB ((xEn (μ.1 50 21)) && e2))), (0, .ref 50), (1, .int ru)] [.int (nB (((xEn (μ.1 50 21)) && e2) && e9))] (mGP μ (μ.2.1 50 24) (μ.2.1 50 25) (μ.1 50 23)) := by
                  refine z_rcs0 hc hH 2 (pc' := 129) (lv' := [(2, .int (nB (((xEn (μ.1 50 21)) && e2) && e9))), (8, .int (nB e11)), (7, .int (nB e9)), (6, .int (μ.1 57 1)), (5, .int 1), (4, .int (nB ((xHo (μ.1 50 21)) || (xHo (μ.1 57 0))))), (3, .int (nB ((xTe (μ.1 50 21)) && e4))), (0, .ref 50), (1, .int ru)]) (st' := [.int (nB ((xTe (μ.1 50 21)) && e4))]) (by rfl) ?_
                  have hJ13 : Z 0 142 [(2, .int (nB (((xEn (μ.1 50 21)) && e2) && e9))), (8, .int (nB e11)), (7, .int (nB e9)), (6, .int (μ.1 57 1)), (5, .int 1), (4, .int (nB ((xHo (μ.1 50 21)) || (xHo (μ.1 57 0))))), (3, .int (nB ((xTe (μ.1 50 21)) && e4))), (0, .ref 50), (1, .int ru)] [.int (nB (((xTe (μ.1 50 21)) && e4) && e11))] (mGP μ (μ.2.1 50 24) (μ.2.1 50 25) (μ.1 50 23)) := by
                    refine z_rcs0 hc hH 2 (pc' := 145) (lv' := [(3, .int (nB (((xTe (μ.1 50 21)) && e4) && e11))), (2, .int (nB (((xEn (μ.1 50 21)) && e2) && e9))), (8, .int (nB e11)), (7, .int (nB e9)), (6, .int (μ.1 57 1)), (5, .int 1), (4, .int (nB ((xHo (μ.1 50 21)) || (xHo (μ.1 57 0))))), (0, .ref 50), (1, .int ru)]) (st' := [.int (nB ((xHo (μ.1 50 21)) || (xHo (μ.1 57 0))))]) (by rfl) ?_
                    have hJ14 : Z 0 161 [(3, .int (nB (((xTe (μ.1 50 21)) && e4) && e11))), (2, .int (nB (((xEn (μ.1 50 21)) && e2) && e9))), (8, .int (nB e11)), (7, .int (nB e9)), (6, .int (μ.1 57 1)), (5, .int 1), (4, .int (nB ((xHo (μ.1 50 21)) || (xHo (μ.1 57 0))))), (0, .ref 50), (1, .int ru)] [.int (nB (((xHo (μ.1 50 21)) || (xHo (μ.1 57 0))) || (xHo (μ.1 57 1))))] (mGP μ (μ.2.1 50 24) (μ.2.1 50 25) (μ.1 50 23)) := by
                      refine z_rcs0 hc hH 9 (pc' := 40) (lv' := [(5, .int 2), (4, .int (nB (((xHo (μ.1 50 21)) || (xHo (μ.1 57 0))) || (xHo (μ.1 57 1))))), (3, .int (nB (((xTe (μ.1 50 21)) && e4) && e11))), (2, .int (nB (((xEn (μ.1 50 21)) && e2) && e9))), (8, .int (nB e11)), (7, .int (nB e9)), (6, .int (μ.1 57 1)), (0, .ref 50), (1, .int ru)]) (st' := [.int 2, .ref 57]) (by rfl) ?_
                      refine zq_iald hc hH (by rfl) 4 (by decide +kernel) (show vp_in (nI 2) 4 from vp_in_nI (by decide) (by decide)) ?_
                      show Z 0 41 [(5, .int 2), (4, .int (nB (((xHo (μ.1 50 21)) || (xHo (μ.1 57 0))) || (xHo (μ.1 57 1))))), (3, .int (nB (((xTe (μ.1 50 21)) && e4) && e11))), (2, .int (nB (((xEn (μ.1 50 21)) && e2) && e9))), (8, .int (nB e11)), (7, .int (nB e9)), (6, .int (μ.1 57 1)), (0, .ref 50), (1, .int ru)] [.int (μ.1 57 2)] _
                      refine z_rcs0 hc hH 2 (pc' := 45) (lv' := [(6, .int (μ.1 57 2)), (5, .int 2), (4, .int (nB (((xHo (μ.1 50 21)) || (xHo (μ.1 57 0))) || (xHo (μ.1 57 1))))), (3, .int (nB (((xTe (μ.1 50 21)) && e4) && e11))), (2, .int (nB (((xEn (μ.1 50 21)) && e2) && e9))), (8, .int (nB e11)), (7, .int (nB e9)), (0, .ref 50), (1, .int ru)]) (st' := [.int (μ.1 57 2)]) (by rfl) ?_
                      refine zq_call hc (z_cx_ok hH (by rfl)) (fb_X7_isEnd d' (by omega) (mGP μ (μ.2.1 50 24) (μ.2.1 50 25) (μ.1 50 23)) (μ.1 57 2)) (by decide +kernel) (fun r9 μ9 hq => ?_)
                      obtain ⟨hμ9, rfl⟩ := hq
                      rw [hμ9]
                      clear hμ9 μ9
                      show Z 0 48 [(6, .int (μ.1 57 2)), (5, .int 2), (4, .int (nB (((xHo (μ.1 50 21)) || (xHo (μ.1 57 0))) || (xHo (μ.1 57 1))))), (3, .int (nB (((xTe (μ.1 50 21)) && e4) && e11))), (2, .int (nB (((xEn (μ.1 50 21)) && e2) && e9))), (8, .int (nB e11)), (7, .int (nB e9)), (0, .ref 50), (1, .int ru)] [.int (nB (xEn (μ.1 57 2)))] _
                      have hJ15 : Z 0 76 [(6, .int (μ.1 57 2)), (5, .int 2), (4, .int (nB (((xHo (μ.1 50 21)) || (xHo (μ.1 57 0))) || (xHo (μ.1 57 1))))), (3, .int (nB (((xTe (μ.1 50 21)) && e4) && e11))), (2, .int (nB (((xEn (μ.1 50 21)) && e2) && e9))), (8, .int (nB e11)), (7, .int (nB e9)), (0, .ref 50), (1, .int ru)] [.int (nB ((xEn (μ.1 57 2)) || ((decide ((μ.1 56 2) = 0)) && (xEn ((μ.1 57 2) + 2)))))] (mGP μ (μ.2.1 50 24) (μ.2.1 50 25) (μ.1 50 23)) := by
                        generalize he16 : ((xEn (μ.1 57 2)) || ((decide ((μ.1 56 2) = 0)) && (xEn ((μ.1 57 2) + 2)))) = e16
                        refine z_rcs0 hc hH 2 (pc' := 80) (lv' := [(7, .int (nB e16)), (6, .int (μ.1 57 2)), (5, .int 2), (4, .int (nB (((xHo (μ.1 50 21)) || (xHo (μ.1 57 0))) || (xHo (μ.1 57 1))))), (3, .int (nB (((xTe (μ.1 50 21)) && e4) && e11))), (2, .int (nB (((xEn (μ.1 50 21)) && e2) && e9))), (8, .int (nB e11)), (0, .ref 50), (1, .int ru)]) (st' := [.int (μ.1 57 2)]) (by rfl) ?_
                        refine zq_call hc (z_cx_ok hH (by rfl)) (fb_X7_isTerminal d' (by omega) (mGP μ (μ.2.1 50 24) (μ.2.1 50 25) (μ.1 50 23)) (μ.1 57 2)) (by decide +kernel) (fun r9 μ9 hq => ?_)
                        obtain ⟨hμ9, rfl⟩ := hq
                        rw [hμ9]
                        clear hμ9 μ9
                        show Z 0 83 [(7, .int (nB e16)), (6, .int (μ.1 57 2)), (5, .int 2), (4, .int (nB (((xHo (μ.1 50 21)) || (xHo (μ.1 57 0))) || (xHo (μ.1 57 1))))), (3, .int (nB (((xTe (μ.1 50 21)) && e4) && e11))), (2, .int (nB (((xEn (μ.1 50 21)) && e2) && e9))), (8, .int (nB e11)), (0, .ref 50), (1, .int ru)] [.int (nB (xTe (μ.1 57 2)))] _
                        have hJ17 : Z 0 111 [(7, .int (nB e16)), (6, .int (μ.1 57 2)), (5, .int 2), (4, .int (nB (((xHo (μ.1 50 21)) || (xHo (μ.1 57 0))) || (xHo (μ.1 57 1))))), (3, .int (nB (((xTe (μ.1 50 21)) && e4) && e11))), (2, .int (nB (((xEn (μ.1 50 21)) && e2) && e9))), (8, .int (nB e11)), (0, .ref 50), (1, .int ru)] [.int (nB ((xTe (μ.1 57 2)) || ((decide ((μ.1 56 2) = 0)) && (xTe ((μ.1 57 2) + 2)))))] (mGP μ (μ.2.1 50 24) (μ.2.1 50 25) (μ.1 50 23)) := by
                          generalize he18 : ((xTe (μ.1 57 2)) || ((decide ((μ.1 56 2) = 0)) && (xTe ((μ.1 57 2) + 2)))) = e18
                          refine z_rcs0 hc hH 2 (pc' := 114) (lv' := [(8, .int (nB e18)), (7, .int (nB e16)), (6, .int (μ.1 57 2)), (5, .int 2), (4, .int (nB (((xHo (μ.1 50 21)) || (xHo (μ.1 57 0))) || (xHo (μ.1 57 1))))), (3, .int (nB (((xTe (μ.1 50 21)) && e4) && e11))), (2, .int (nB (((xEn (μ.1 50 21)) && e2) && e9))), (0, .ref 50), (1, .int ru)]) (st' := [.int (nB (((xEn (μ.1 50 21)) && e2) && e9))]) (by rfl) ?_
                          have hJ19 : Z 0 127 [(8, .int (nB e18)), (7, .int (nB e16)), (6, .int (μ.1 57 2)), (5, .int 2), (4, .int (nB (((xHo (μ.1 50 21)) || (xHo (μ.1 57 0))) || (xHo (μ.1 57 1))))), (3, .int (nB (((xTe (μ.1 50 21)) && e4) && e11))), (2, .int (nB (((xEn (μ.1 50 21)) && e2) && e9))), (0, .ref 50), (1, .int ru)] [.int (nB ((((xEn (μ.1 50 21)) && e2) && e9) && e16))] (mGP μ (μ.2.1 50 24) (μ.2.1 50 25) (μ.1 50 23)) := by
                            refine z_rcs0 hc hH 2 (pc' := 129) (lv' := [(2, .int (nB ((((xEn (μ.1 50 21)) && e2) && e9) && e16))), (8, .int (nB e18)), (7, .int (nB e16)), (6, .int (μ.1 57 2)), (5, .int 2), (4, .int (nB (((xHo (μ.1 50 21)) || (xHo (μ.1 57 0))) || (xHo (μ.1 57 1))))), (3, .int (nB (((xTe (μ.1 50 21)) && e4) && e11))), (0, .ref 50), (1, .int ru)]) (st' := [.int (nB (((xTe (μ.1 50 21)) && e4) && e11))]) (by rfl) ?_
                            have hJ20 : Z 0 142 [(2, .int (nB ((((xEn (μ.1 50 21)) && e2) && e9) && e16))), (8, .int (nB e18)), (7, .int (nB e16)), (6, .int (μ.1 57 2)), (5, .int 2), (4, .int (nB (((xHo (μ.1 50 21)) || (xHo (μ.1 57 0))) || (xHo (μ.1 57 1))))), (3, .int (nB (((xTe (μ.1 50 21)) && e4) && e11))), (0, .ref 50), (1, .int ru)] [.int (nB ((((xTe (μ.1 50 21)) && e4) && e11) && e18))] (mGP μ (μ.2.1 50 24) (μ.2.1 50 25) (μ.1 50 23)) := by
                              refine z_rcs0 hc hH 2 (pc' := 145) (lv' := [(3, .int (nB ((((xTe (μ.1 50 21)) && e4) && e11) && e18))), (2, .int (nB ((((xEn (μ.1 50 21)) && e2) && e9) && e16))), (8, .int (nB e18)), (7, .int (nB e16)), (6, .int (μ.1 57 2)), (5, .int 2), (4, .int (nB (((xHo (μ.1 50 21)) || (xHo (μ.1 57 0))) || (xHo (μ.1 57 1))))), (0, .ref 50), (1, .int ru)]) (st' := [.int (nB (((xHo (μ.1 50 21)) || (xHo (μ.1 57 0))) || (xHo (μ.1 57 1))))]) (by rfl) ?_
                              have hJ21 : Z 0 161 [(3, .int (nB ((((xTe (μ.1 50 21)) && e4) && e11) && e18))), (2, .int (nB ((((xEn (μ.1 50 21)) && e2) && e9) && e16))), (8, .int (nB e18)), (7, .int (nB e16)), (6, .int (μ.1 57 2)), (5, .int 2), (4, .int (nB (((xHo (μ.1 50 21)) || (xHo (μ.1 57 0))) || (xHo (μ.1 57 1))))), (0, .ref 50), (1, .int ru)] [.int (nB ((((xHo (μ.1 50 21)) || (xHo (μ.1 57 0))) || (xHo (μ.1 57 1))) || (xHo (μ.1 57 2))))] (mGP μ (μ.2.1 50 24) (μ.2.1 50 25) (μ.1 50 23)) := by
                                generalize he22 : ((((xHo (μ.1 50 21)) || (xHo (μ.1 57 0))) || (xHo (μ.1 57 1))) || (xHo (μ.1 57 2))) = e22
                                refine z_rcs0 hc hH 9 (pc' := 40) (lv' := [(5, .int 3), (4, .int (nB e22)), (3, .int (nB ((((xTe (μ.1 50 21)) && e4) && e11) && e18))), (2, .int (nB ((((xEn (μ.1 50 21)) && e2) && e9) && e16))), (8, .int (nB e18)), (7, .int (nB e16)), (6, .int (μ.1 57 2)), (0, .ref 50), (1, .int ru)]) (st' := [.int 3, .ref 57]) (by rfl) ?_
                                refine zq_iald hc hH (by rfl) 4 (by decide +kernel) (show vp_in (nI 3) 4 from vp_in_nI (by decide) (by decide)) ?_
                                show Z 0 41 [(5, .int 3), (4, .int (nB e22)), (3, .int (nB ((((xTe (μ.1 50 21)) && e4) && e11) && e18))), (2, .int (nB ((((xEn (μ.1 50 21)) && e2) && e9) && e16))), (8, .int (nB e18)), (7, .int (nB e16)), (6, .int (μ.1 57 2)), (0, .ref 50), (1, .int ru)] [.int (μ.1 57 3)] _
                                refine z_rcs0 hc hH 2 (pc' := 45) (lv' := [(6, .int (μ.1 57 3)), (5, .int 3), (4, .int (nB e22)), (3, .int (nB ((((xTe (μ.1 50 21)) && e4) && e11) && e18))), (2, .int (nB ((((xEn (μ.1 50 21)) && e2) && e9) && e16))), (8, .int (nB e18)), (7, .int (nB e16)), (0, .ref 50), (1, .int ru)]) (st' := [.int (μ.1 57 3)]) (by rfl) ?_
                                refine zq_call hc (z_cx_ok hH (by rfl)) (fb_X7_isEnd d' (by omega) (mGP μ (μ.2.1 50 24) (μ.2.1 50 25) (μ.1 50 23)) (μ.1 57 3)) (by decide +kernel) (fun r9 μ9 hq => ?_)
                                obtain ⟨hμ9, rfl⟩ := hq
                                rw [hμ9]
                                clear hμ9 μ9
                                show Z 0 48 [(6, .int (μ.1 57 3)), (5, .int 3), (4, .int (nB e22)), (3, .int (nB ((((xTe (μ.1 50 21)) && e4) && e11) && e18))), (2, .int (nB ((((xEn (μ.1 50 21)) && e2) && e9) && e16))), (8, .int (nB e18)), (7, .int (nB e16)), (0, .ref 50), (1, .int ru)] [.int (nB (xEn (μ.1 57 3)))] _
                                have hJ23 : Z 0 76 [(6, .int (μ.1 57 3)), (5, .int 3), (4, .int (nB e22)), (3, .int (nB ((((xTe (μ.1 50 21)) && e4) && e11) && e18))), (2, .int (nB ((((xEn (μ.1 50 21)) && e2) && e9) && e16))), (8, .int (nB e18)), (7, .int (nB e16)), (0, .ref 50), (1, .int ru)] [.int (nB ((xEn (μ.1 57 3)) || ((decide ((μ.1 56 3) = 0)) && (xEn ((μ.1 57 3) + 2)))))] (mGP μ (μ.2.1 50 24) (μ.2.1 50 25) (μ.1 50 23)) := by
                                  generalize he24 : ((xEn (μ.1 57 3)) || ((decide ((μ.1 56 3) = 0)) && (xEn ((μ.1 57 3) + 2)))) = e24
                                  refine z_rcs0 hc hH 2 (pc' := 80) (lv' := [(7, .int (nB e24)), (6, .int (μ.1 57 3)), (5, .int 3), (4, .int (nB e22)), (3, .int (nB ((((xTe (μ.1 50 21)) && e4) && e11) && e18))), (2, .int (nB ((((xEn (μ.1 50 21)) && e2) && e9) && e16))), (8, .int (nB e18)), (0, .ref 50), (1, .int ru)]) (st' := [.int (μ.1 57 3)]) (by rfl) ?_
                                  refine zq_call hc (z_cx_ok hH (by rfl)) (fb_X7_isTerminal d' (by omega) (mGP μ (μ.2.1 50 24) (μ.2.1 50 25) (μ.1 50 23)) (μ.1 57 3)) (by decide +kernel) (fun r9 μ9 hq => ?_)
                                  obtain ⟨hμ9, rfl⟩ := hq
                                  rw [hμ9]
                                  clear hμ9 μ9
                                  show Z 0 83 [(7, .int (nB e24)), (6, .int (μ.1 57 3)), (5, .int 3), (4, .int (nB e22)), (3, .int (nB ((((xTe (μ.1 50 21)) && e4) && e11) && e18))), (2, .int (nB ((((xEn (μ.1 50 21)) && e2) && e9) && e16))), (8, .int (nB e18)), (0, .ref 50), (1, .int ru)] [.int (nB (xTe (μ.1 57 3)))] _
                                  have hJ25 : Z 0 111 [(7, .int (nB e24)), (6, .int (μ.1 57 3)), (5, .int 3), (4, .int (nB e22)), (3, .int (nB ((((xTe (μ.1 50 21)) && e4) && e11) && e18))), (2, .int (nB ((((xEn (μ.1 50 21)) && e2) && e9) && e16))), (8, .int (nB e18)), (0, .ref 50), (1, .int ru)] [.int (nB ((xTe (μ.1 57 3)) || ((decide ((μ.1 56 3) = 0)) && (xTe ((μ.1 57 3) + 2)))))] (mGP μ (μ.2.1 50 24) (μ.2.1 50 25) (μ.1 50 23)) := by
                                    generalize he26 : ((xTe (μ.1 57 3)) || ((decide ((μ.1 56 3) = 0)) && (xTe ((μ.1 57 3) + 2)))) = e26
                                    refine z_rcs0 hc hH 2 (pc' := 114) (lv' := [(8, .int (nB e26)), (7, .int (nB e24)), (6, .int (μ.1 57 3)), (5, .int 3), (4, .int (nB e22)), (3, .int (nB ((((xTe (μ.1 50 21)) && e4) && e11) && e18))), (2, .int (nB ((((xEn (μ.1 50 21)) && e2) && e9) && e16))), (0, .ref 50), (1, .int ru)]) (st' := [.int (nB ((((xEn (μ.1 50 21)) && e2) && e9) && e16))]) (by rfl) ?_
                                    have hJ27 : Z 0 127 [(8, .int (nB e26)), (7, .int (nB e24)), (6, .int (μ.1 57 3)), (5, .int 3), (4, .int (nB e22)), (3, .int (nB ((((xTe (μ.1 50 21)) && e4) && e11) && e18))), (2, .int (nB ((((xEn (μ.1 50 21)) && e2) && e9) && e16))), (0, .ref 50), (1, .int ru)] [.int (nB (((((xEn (μ.1 50 21)) && e2) && e9) && e16) && e24))] (mGP μ (μ.2.1 50 24) (μ.2.1 50 25) (μ.1 50 23)) := by
                                      refine z_rcs0 hc hH 2 (pc' := 129) (lv' := [(2, .int (nB (((((xEn (μ.1 50 21)) && e2) && e9) && e16) && e24))), (8, .int (nB e26)), (7, .int (nB e24)), (6, .int (μ.1 57 3)), (5, .int 3), (4, .int (nB e22)), (3, .int (nB ((((xTe (μ.1 50 21)) && e4) && e11) && e18))), (0, .ref 50), (1, .int ru)]) (st' := [.int (nB ((((xTe (μ.1 50 21)) && e4) && e11) && e18))]) (by rfl) ?_
                                      have hJ28 : Z 0 142 [(2, .int (nB (((((xEn (μ.1 50 21)) && e2) && e9) && e16) && e24))), (8, .int (nB e26)), (7, .int (nB e24)), (6, .int (μ.1 57 3)), (5, .int 3), (4, .int (nB e22)), (3, .int (nB ((((xTe (μ.1 50 21)) && e4) && e11) && e18))), (0, .ref 50), (1, .int ru)] [.int (nB (((((xTe (μ.1 50 21)) && e4) && e11) && e18) && e26))] (mGP μ (μ.2.1 50 24) (μ.2.1 50 25) (μ.1 50 23)) := by
                                        refine z_rcs0 hc hH 2 (pc' := 145) (lv' := [(3, .int (nB (((((xTe (μ.1 50 21)) && e4) && e11) && e18) && e26))), (2, .int (nB (((((xEn (μ.1 50 21)) && e2) && e9) && e16) && e24))), (8, .int (nB e26)), (7, .int (nB e24)), (6, .int (μ.1 57 3)), (5, .int 3), (4, .int (nB e22)), (0, .ref 50), (1, .int ru)]) (st' := [.int (nB e22)]) (by rfl) ?_
                                        have hJ29 : Z 0 161 [(3, .int (nB (((((xTe (μ.1 50 21)) && e4) && e11) && e18) && e26))), (2, .int (nB (((((xEn (μ.1 50 21)) && e2) && e9) && e16) && e24))), (8, .int (nB e26)), (7, .int (nB e24)), (6, .int (μ.1 57 3)), (5, .int 3), (4, .int (nB e22)), (0, .ref 50), (1, .int ru)] [.int (nB (e22 || (xHo (μ.1 57 3))))] (mGP μ (μ.2.1 50 24) (μ.2.1 50 25) (μ.1 50 23)) := by
                                          refine z_rcs0 hc hH 7 (pc' := 170) (lv' := [(5, .int 4), (4, .int (nB (e22 || (xHo (μ.1 57 3))))), (3, .int (nB (((((xTe (μ.1 50 21)) && e4) && e11) && e18) && e26))), (2, .int (nB (((((xEn (μ.1 50 21)) && e2) && e9) && e16) && e24))), (8, .int (nB e26)), (7, .int (nB e24)), (6, .int (μ.1 57 3)), (0, .ref 50), (1, .int ru)]) (st' := [.int (nB (((((xEn (μ.1 50 21)) && e2) && e9) && e16) && e24))]) (by rfl) ?_
                                          have hJ30 : Z 0 196 [(5, .int 4), (4, .int (nB (e22 || (xHo (μ.1 57 3))))), (3, .int (nB (((((xTe (μ.1 50 21)) && e4) && e11) && e18) && e26))), (2, .int (nB (((((xEn (μ.1 50 21)) && e2) && e9) && e16) && e24))), (8, .int (nB e26)), (7, .int (nB e24)), (6, .int (μ.1 57 3)), (0, .ref 50), (1, .int ru)] [] (mGP μ (μ.2.1 50 24) ((μ.2.1 50 25) ||| (lb ((((((xEn (μ.1 50 21)) && e2) && e9) && e16) && e24) && (!(decide (ru ≤ 0)) && (e22 || (xHo (μ.1 57 3))))) 23)) (μ.1 50 23)) := by
                                            generalize hy31 : ((μ.2.1 50 25) ||| (lb ((((((xEn (μ.1 50 21)) && e2) && e9) && e16) && e24) && (!(decide (ru ≤ 0)) && (e22 || (xHo (μ.1 57 3))))) 23) : Int64) = y31
                                            refine z_rcs hc hH 1 (pc' := 197) (lv' := [(5, .int 4), (4, .int (nB (e22 || (xHo (μ.1 57 3))))), (3, .int (nB (((((xTe (μ.1 50 21)) && e4) && e11) && e18) && e26))), (2, .int (nB (((((xEn (μ.1 50 21)) && e2) && e9) && e16) && e24))), (8, .int (nB e26)), (7, .int (nB e24)), (6, .int (μ.1 57 3)), (0, .ref 50), (1, .int ru)]) (st' := [.int (nB (((((xTe (μ.1 50 21)) && e4) && e11) && e18) && e26))]) (μ' := mGP μ (μ.2.1 50 24) y31 (μ.1 50 23)) (by rfl) ?_
                                            generalize he32 : (((((xTe (μ.1 50 21)) && e4) && e11) && e18) && e26) = e32
                                            refine zq_if hc hH (by rfl) (tg := 218) (by rfl) (fun h33 => ?_) (fun h33 => ?_)
                                            · have h33 : (e32) = false := nB_z.mp (cm_eq9.mp h33)
                                              exact hr 0 218 _ _ _ none (by decide +kernel) (by rfl) (⟨rfl, (by unfold xE1 xE2; try rw [he2]; try rw [he4]; try rw [he9]; try rw [he11]; try rw [he16]; try rw [he18]; try rw [he22]; try rw [he24]; try rw [he26]; try rw [hy31]; try rw [he32]; simp only [h33, lb_f, Int64.or_zero, nB_t, nB_f, Bool.not_true, Bool.not_false, Bool.and_true, Bool.true_and, Bool.false_and, Bool.and_false, Bool.or_true, Bool.true_or, Bool.false_or, Bool.or_false, cond_true, cond_false])⟩)
                                            · have h33 : (e32) = true := nB_n.mp (cn_eq.mp h33)
                                              refine z_rcs0 hc hH 1 (pc' := 201) (lv' := [(5, .int 4), (4, .int (nB (e22 || (xHo (μ.1 57 3))))), (3, .int (nB e32)), (2, .int (nB (((((xEn (μ.1 50 21)) && e2) && e9) && e16) && e24))), (8, .int (nB e26)), (7, .int (nB e24)), (6, .int (μ.1 57 3)), (0, .ref 50), (1, .int ru)]) (st' := [.int ru]) (by rfl) ?_
                                              refine zq_if hc hH (by rfl) (tg := 218) (by rfl) (fun h34 => ?_) (fun h34 => ?_)
                                              · have h34 : (decide (ru ≤ 0)) = true := decide_eq_true (cm_le.mp h34)
                                                exact hr 0 218 _ _ _ none (by decide +kernel) (by rfl) (⟨rfl, (by unfold xE1 xE2; try rw [he2]; try rw [he4]; try rw [he9]; try rw [he11]; try rw [he16]; try rw [he18]; try rw [he22]; try rw [he24]; try rw [he26]; try rw [hy31]; try rw [he32]; simp only [h33, h34, lb_f, Int64.or_zero, nB_t, nB_f, Bool.not_true, Bool.not_false, Bool.and_true, Bool.true_and, Bool.false_and, Bool.and_false, Bool.or_true, Bool.true_or, Bool.false_or, Bool.or_false, cond_true, cond_false])⟩)
                                              · have h34 : (decide (ru ≤ 0)) = false := decide_eq_false (cn_le.mp h34)
                                                refine z_rcs0 hc hH 4 (pc' := 211) (lv' := [(5, .int 4), (4, .int (nB (e22 || (xHo (μ.1 57 3))))), (3, .int (nB e32)), (2, .int (nB (((((xEn (μ.1 50 21)) && e2) && e9) && e16) && e24))), (8, .int (nB e26)), (7, .int (nB e24)), (6, .int (μ.1 57 3)), (0, .ref 50), (1, .int ru)]) (st' := [.int 27, .long y31, .ref 50]) (by rfl) ?_
                                                refine zq_call hc (z_cx_ok hH (by rfl)) (fb_X7_bit d' (by omega) (mGP μ (μ.2.1 50 24) y31 (μ.1 50 23)) 27) (by decide +kernel) (fun r9 μ9 hq => ?_)
                                                obtain ⟨hμ9, rfl⟩ := hq
                                                rw [hμ9]
                                                clear hμ9 μ9
                                                show Z 0 214 [(5, .int 4), (4, .int (nB (e22 || (xHo (μ.1 57 3))))), (3, .int (nB e32)), (2, .int (nB (((((xEn (μ.1 50 21)) && e2) && e9) && e16) && e24))), (8, .int (nB e26)), (7, .int (nB e24)), (6, .int (μ.1 57 3)), (0, .ref 50), (1, .int ru)] [.long (lb true 27), .long y31, .ref 50] _
                                                refine z_rcs hc hH 2 (pc' := 218) (lv' := [(5, .int 4), (4, .int (nB (e22 || (xHo (μ.1 57 3))))), (3, .int (nB e32)), (2, .int (nB (((((xEn (μ.1 50 21)) && e2) && e9) && e16) && e24))), (8, .int (nB e26)), (7, .int (nB e24)), (6, .int (μ.1 57 3)), (0, .ref 50), (1, .int ru)]) (st' := []) (μ' := z_uj (mGP μ (μ.2.1 50 24) y31 (μ.1 50 23)) 50 25 (y31 ||| (lb true 27))) (by rfl) ?_
                                                rw [mGP_p]
                                                exact hr 0 218 _ _ _ none (by decide +kernel) (by rfl) (⟨rfl, (by unfold xE1 xE2; try rw [he2]; try rw [he4]; try rw [he9]; try rw [he11]; try rw [he16]; try rw [he18]; try rw [he22]; try rw [he24]; try rw [he26]; try rw [hy31]; try rw [he32]; simp only [h33, h34, lb_f, Int64.or_zero, nB_t, nB_f, Bool.not_true, Bool.not_false, Bool.and_true, Bool.true_and, Bool.false_and, Bool.and_false, Bool.or_true, Bool.true_or, Bool.false_or, Bool.or_false, cond_true, cond_false])⟩)
                                          refine zq_if hc hH (by rfl) (tg := 196) (by rfl) (fun h35 => ?_) (fun h35 => ?_)
                                          · have h35 : (((((xEn (μ.1 50 21)) && e2) && e9) && e16) && e24) = false := nB_z.mp (cm_eq9.mp h35)
                                            exact zJ hJ30 rfl rfl (by simp only [h35, lb_f, Int64.or_zero, nB_t, nB_f, Bool.not_true, Bool.not_false, Bool.and_true, Bool.true_and, Bool.false_and, Bool.and_false, Bool.or_true, Bool.true_or, Bool.false_or, Bool.or_false, cond_true, cond_false])
                                          · have h35 : (((((xEn (μ.1 50 21)) && e2) && e9) && e16) && e24) = true := nB_n.mp (cn_eq.mp h35)
                                            refine z_rcs hc hH 1 (pc' := 174) (lv' := [(5, .int 4), (4, .int (nB (e22 || (xHo (μ.1 57 3))))), (3, .int (nB (((((xTe (μ.1 50 21)) && e4) && e11) && e18) && e26))), (2, .int (nB (((((xEn (μ.1 50 21)) && e2) && e9) && e16) && e24))), (8, .int (nB e26)), (7, .int (nB e24)), (6, .int (μ.1 57 3)), (0, .ref 50), (1, .int ru)]) (st' := [.int ru]) (μ' := mGP μ (μ.2.1 50 24) (μ.2.1 50 25) (μ.1 50 23)) (by rfl) ?_
                                            refine zq_if hc hH (by rfl) (tg := 196) (by rfl) (fun h36 => ?_) (fun h36 => ?_)
                                            · have h36 : (decide (ru ≤ 0)) = true := decide_eq_true (cm_le.mp h36)
                                              exact zJ hJ30 rfl rfl (by simp only [h35, h36, lb_f, Int64.or_zero, nB_t, nB_f, Bool.not_true, Bool.not_false, Bool.and_true, Bool.true_and, Bool.false_and, Bool.and_false, Bool.or_true, Bool.true_or, Bool.false_or, Bool.or_false, cond_true, cond_false])
                                            · have h36 : (decide (ru ≤ 0)) = false := decide_eq_false (cn_le.mp h36)
                                              refine z_rcs0 hc hH 1 (pc' := 179) (lv' := [(5, .int 4), (4, .int (nB (e22 || (xHo (μ.1 57 3))))), (3, .int (nB (((((xTe (μ.1 50 21)) && e4) && e11) && e18) && e26))), (2, .int (nB (((((xEn (μ.1 50 21)) && e2) && e9) && e16) && e24))), (8, .int (nB e26)), (7, .int (nB e24)), (6, .int (μ.1 57 3)), (0, .ref 50), (1, .int ru)]) (st' := [.int (nB (e22 || (xHo (μ.1 57 3))))]) (by rfl) ?_
                                              refine zq_if hc hH (by rfl) (tg := 196) (by rfl) (fun h37 => ?_) (fun h37 => ?_)
                                              · have h37 : (e22 || (xHo (μ.1 57 3))) = false := nB_z.mp (cm_eq9.mp h37)
                                                exact zJ hJ30 rfl rfl (by simp only [h35, h36, h37, lb_f, Int64.or_zero, nB_t, nB_f, Bool.not_true, Bool.not_false, Bool.and_true, Bool.true_and, Bool.false_and, Bool.and_false, Bool.or_true, Bool.true_or, Bool.false_or, Bool.or_false, cond_true, cond_false])
                                              · have h37 : (e22 || (xHo (μ.1 57 3))) = true := nB_n.mp (cn_eq.mp h37)
                                                refine z_rcs0 hc hH 4 (pc' := 189) (lv' := [(5, .int 4), (4, .int (nB (e22 || (xHo (μ.1 57 3))))), (3, .int (nB (((((xTe (μ.1 50 21)) && e4) && e11) && e18) && e26))), (2, .int (nB (((((xEn (μ.1 50 21)) && e2) && e9) && e16) && e24))), (8, .int (nB e26)), (7, .int (nB e24)), (6, .int (μ.1 57 3)), (0, .ref 50), (1, .int ru)]) (st' := [.int 23, .long (μ.2.1 50 25), .ref 50]) (by rfl) ?_
                                                refine zq_call hc (z_cx_ok hH (by rfl)) (fb_X7_bit d' (by omega) (mGP μ (μ.2.1 50 24) (μ.2.1 50 25) (μ.1 50 23)) 23) (by decide +kernel) (fun r9 μ9 hq => ?_)
                                                obtain ⟨hμ9, rfl⟩ := hq
                                                rw [hμ9]
                                                clear hμ9 μ9
                                                show Z 0 192 [(5, .int 4), (4, .int (nB (e22 || (xHo (μ.1 57 3))))), (3, .int (nB (((((xTe (μ.1 50 21)) && e4) && e11) && e18) && e26))), (2, .int (nB (((((xEn (μ.1 50 21)) && e2) && e9) && e16) && e24))), (8, .int (nB e26)), (7, .int (nB e24)), (6, .int (μ.1 57 3)), (0, .ref 50), (1, .int ru)] [.long (lb true 23), .long (μ.2.1 50 25), .ref 50] _
                                                refine z_rcs hc hH 2 (pc' := 196) (lv' := [(5, .int 4), (4, .int (nB (e22 || (xHo (μ.1 57 3))))), (3, .int (nB (((((xTe (μ.1 50 21)) && e4) && e11) && e18) && e26))), (2, .int (nB (((((xEn (μ.1 50 21)) && e2) && e9) && e16) && e24))), (8, .int (nB e26)), (7, .int (nB e24)), (6, .int (μ.1 57 3)), (0, .ref 50), (1, .int ru)]) (st' := []) (μ' := z_uj (mGP μ (μ.2.1 50 24) (μ.2.1 50 25) (μ.1 50 23)) 50 25 ((μ.2.1 50 25) ||| (lb true 23))) (by rfl) ?_
                                                rw [mGP_p]
                                                exact zJ hJ30 rfl rfl (by simp only [h35, h36, h37, lb_f, Int64.or_zero, nB_t, nB_f, Bool.not_true, Bool.not_false, Bool.and_true, Bool.true_and, Bool.false_and, Bool.and_false, Bool.or_true, Bool.true_or, Bool.false_or, Bool.or_false, cond_true, cond_false])
                                        refine zq_if hc hH (by rfl) (tg := 156) (by rfl) (fun h38 => ?_) (fun h38 => ?_)
                                        · have h38 : (e22) = true := nB_n.mp (cm_ne.mp h38)
                                          refine z_rcs hc hH 2 (pc' := 161) (lv' := [(3, .int (nB (((((xTe (μ.1 50 21)) && e4) && e11) && e18) && e26))), (2, .int (nB (((((xEn (μ.1 50 21)) && e2) && e9) && e16) && e24))), (8, .int (nB e26)), (7, .int (nB e24)), (6, .int (μ.1 57 3)), (5, .int 3), (4, .int (nB e22)), (0, .ref 50), (1, .int ru)]) (st' := [.int 1]) (μ' := mGP μ (μ.2.1 50 24) (μ.2.1 50 25) (μ.1 50 23)) (by rfl) ?_
                                          exact zJ hJ29 rfl (by simp only [h38, lb_f, Int64.or_zero, nB_t, nB_f, Bool.not_true, Bool.not_false, Bool.and_true, Bool.true_and, Bool.false_and, Bool.and_false, Bool.or_true, Bool.true_or, Bool.false_or, Bool.or_false, cond_true, cond_false]) rfl
                                        · have h38 : (e22) = false := nB_z.mp (cn_ne.mp h38)
                                          refine z_rcs0 hc hH 1 (pc' := 150) (lv' := [(3, .int (nB (((((xTe (μ.1 50 21)) && e4) && e11) && e18) && e26))), (2, .int (nB (((((xEn (μ.1 50 21)) && e2) && e9) && e16) && e24))), (8, .int (nB e26)), (7, .int (nB e24)), (6, .int (μ.1 57 3)), (5, .int 3), (4, .int (nB e22)), (0, .ref 50), (1, .int ru)]) (st' := [.int (μ.1 57 3)]) (by rfl) ?_
                                          refine zq_call hc (z_cx_ok hH (by rfl)) (fb_X7_isHonour d' (by omega) (mGP μ (μ.2.1 50 24) (μ.2.1 50 25) (μ.1 50 23)) (μ.1 57 3)) (by decide +kernel) (fun r9 μ9 hq => ?_)
                                          obtain ⟨hμ9, rfl⟩ := hq
                                          rw [hμ9]
                                          clear hμ9 μ9
                                          show Z 0 153 [(3, .int (nB (((((xTe (μ.1 50 21)) && e4) && e11) && e18) && e26))), (2, .int (nB (((((xEn (μ.1 50 21)) && e2) && e9) && e16) && e24))), (8, .int (nB e26)), (7, .int (nB e24)), (6, .int (μ.1 57 3)), (5, .int 3), (4, .int (nB e22)), (0, .ref 50), (1, .int ru)] [.int (nB (xHo (μ.1 57 3)))] _
                                          refine zq_if hc hH (by rfl) (tg := 160) (by rfl) (fun h39 => ?_) (fun h39 => ?_)
                                          · have h39 : (xHo (μ.1 57 3)) = false := nB_z.mp (cm_eq9.mp h39)
                                            refine z_rcs0 hc hH 1 (pc' := 161) (lv' := [(3, .int (nB (((((xTe (μ.1 50 21)) && e4) && e11) && e18) && e26))), (2, .int (nB (((((xEn (μ.1 50 21)) && e2) && e9) && e16) && e24))), (8, .int (nB e26)), (7, .int (nB e24)), (6, .int (μ.1 57 3)), (5, .int 3), (4, .int (nB e22)), (0, .ref 50), (1, .int ru)]) (st' := [.int 0]) (by rfl) ?_
                                            exact zJ hJ29 rfl (by simp only [h38, h39, lb_f, Int64.or_zero, nB_t, nB_f, Bool.not_true, Bool.not_false, Bool.and_true, Bool.true_and, Bool.false_and, Bool.and_false, Bool.or_true, Bool.true_or, Bool.false_or, Bool.or_false, cond_true, cond_false]) rfl
                                          · have h39 : (xHo (μ.1 57 3)) = true := nB_n.mp (cn_eq.mp h39)
                                            refine z_rcs0 hc hH 2 (pc' := 161) (lv' := [(3, .int (nB (((((xTe (μ.1 50 21)) && e4) && e11) && e18) && e26))), (2, .int (nB (((((xEn (μ.1 50 21)) && e2) && e9) && e16) && e24))), (8, .int (nB e26)), (7, .int (nB e24)), (6, .int (μ.1 57 3)), (5, .int 3), (4, .int (nB e22)), (0, .ref 50), (1, .int ru)]) (st' := [.int 1]) (by rfl) ?_
                                            exact zJ hJ29 rfl (by simp only [h38, h39, lb_f, Int64.or_zero, nB_t, nB_f, Bool.not_true, Bool.not_false, Bool.and_true, Bool.true_and, Bool.false_and, Bool.and_false, Bool.or_true, Bool.true_or, Bool.false_or, Bool.or_false, cond_true, cond_false]) rfl
                                      refine zq_if hc hH (by rfl) (tg := 141) (by rfl) (fun h40 => ?_) (fun h40 => ?_)
                                      · have h40 : ((((xTe (μ.1 50 21)) && e4) && e11) && e18) = false := nB_z.mp (cm_eq9.mp h40)
                                        refine z_rcs0 hc hH 1 (pc' := 142) (lv' := [(2, .int (nB (((((xEn (μ.1 50 21)) && e2) && e9) && e16) && e24))), (8, .int (nB e26)), (7, .int (nB e24)), (6, .int (μ.1 57 3)), (5, .int 3), (4, .int (nB e22)), (3, .int (nB ((((xTe (μ.1 50 21)) && e4) && e11) && e18))), (0, .ref 50), (1, .int ru)]) (st' := [.int 0]) (by rfl) ?_
                                        exact zJ hJ28 rfl (by simp only [h40, lb_f, Int64.or_zero, nB_t, nB_f, Bool.not_true, Bool.not_false, Bool.and_true, Bool.true_and, Bool.false_and, Bool.and_false, Bool.or_true, Bool.true_or, Bool.false_or, Bool.or_false, cond_true, cond_false]) rfl
                                      · have h40 : ((((xTe (μ.1 50 21)) && e4) && e11) && e18) = true := nB_n.mp (cn_eq.mp h40)
                                        refine z_rcs0 hc hH 1 (pc' := 134) (lv' := [(2, .int (nB (((((xEn (μ.1 50 21)) && e2) && e9) && e16) && e24))), (8, .int (nB e26)), (7, .int (nB e24)), (6, .int (μ.1 57 3)), (5, .int 3), (4, .int (nB e22)), (3, .int (nB ((((xTe (μ.1 50 21)) && e4) && e11) && e18))), (0, .ref 50), (1, .int ru)]) (st' := [.int (nB e26)]) (by rfl) ?_
                                        refine zq_if hc hH (by rfl) (tg := 141) (by rfl) (fun h41 => ?_) (fun h41 => ?_)
                                        · have h41 : (e26) = false := nB_z.mp (cm_eq9.mp h41)
                                          refine z_rcs0 hc hH 1 (pc' := 142) (lv' := [(2, .int (nB (((((xEn (μ.1 50 21)) && e2) && e9) && e16) && e24))), (8, .int (nB e26)), (7, .int (nB e24)), (6, .int (μ.1 57 3)), (5, .int 3), (4, .int (nB e22)), (3, .int (nB ((((xTe (μ.1 50 21)) && e4) && e11) && e18))), (0, .ref 50), (1, .int ru)]) (st' := [.int 0]) (by rfl) ?_
                                          exact zJ hJ28 rfl (by simp only [h40, h41, lb_f, Int64.or_zero, nB_t, nB_f, Bool.not_true, Bool.not_false, Bool.and_true, Bool.true_and, Bool.false_and, Bool.and_false, Bool.or_true, Bool.true_or, Bool.false_or, Bool.or_false, cond_true, cond_false]) rfl
                                        · have h41 : (e26) = true := nB_n.mp (cn_eq.mp h41)
                                          refine z_rcs0 hc hH 2 (pc' := 142) (lv' := [(2, .int (nB (((((xEn (μ.1 50 21)) && e2) && e9) && e16) && e24))), (8, .int (nB e26)), (7, .int (nB e24)), (6, .int (μ.1 57 3)), (5, .int 3), (4, .int (nB e22)), (3, .int (nB ((((xTe (μ.1 50 21)) && e4) && e11) && e18))), (0, .ref 50), (1, .int ru)]) (st' := [.int 1]) (by rfl) ?_
                                          exact zJ hJ28 rfl (by simp only [h40, h41, lb_f, Int64.or_zero, nB_t, nB_f, Bool.not_true, Bool.not_false, Bool.and_true, Bool.true_and, Bool.false_and, Bool.and_false, Bool.or_true, Bool.true_or, Bool.false_or, Bool.or_false, cond_true, cond_false]) rfl
                                    refine zq_if hc hH (by rfl) (tg := 126) (by rfl) (fun h42 => ?_) (fun h42 => ?_)
                                    · have h42 : ((((xEn (μ.1 50 21)) && e2) && e9) && e16) = false := nB_z.mp (cm_eq9.mp h42)
                                      refine z_rcs0 hc hH 1 (pc' := 127) (lv' := [(8, .int (nB e26)), (7, .int (nB e24)), (6, .int (μ.1 57 3)), (5, .int 3), (4, .int (nB e22)), (3, .int (nB ((((xTe (μ.1 50 21)) && e4) && e11) && e18))), (2, .int (nB ((((xEn (μ.1 50 21)) && e2) && e9) && e16))), (0, .ref 50), (1, .int ru)]) (st' := [.int 0]) (by rfl) ?_
                                      exact zJ hJ27 rfl (by simp only [h42, lb_f, Int64.or_zero, nB_t, nB_f, Bool.not_true, Bool.not_false, Bool.and_true, Bool.true_and, Bool.false_and, Bool.and_false, Bool.or_true, Bool.true_or, Bool.false_or, Bool.or_false, cond_true, cond_false]) rfl
                                    · have h42 : ((((xEn (μ.1 50 21)) && e2) && e9) && e16) = true := nB_n.mp (cn_eq.mp h42)
                                      refine z_rcs0 hc hH 1 (pc' := 119) (lv' := [(8, .int (nB e26)), (7, .int (nB e24)), (6, .int (μ.1 57 3)), (5, .int 3), (4, .int (nB e22)), (3, .int (nB ((((xTe (μ.1 50 21)) && e4) && e11) && e18))), (2, .int (nB ((((xEn (μ.1 50 21)) && e2) && e9) && e16))), (0, .ref 50), (1, .int ru)]) (st' := [.int (nB e24)]) (by rfl) ?_
                                      refine zq_if hc hH (by rfl) (tg := 126) (by rfl) (fun h43 => ?_) (fun h43 => ?_)
                                      · have h43 : (e24) = false := nB_z.mp (cm_eq9.mp h43)
                                        refine z_rcs0 hc hH 1 (pc' := 127) (lv' := [(8, .int (nB e26)), (7, .int (nB e24)), (6, .int (μ.1 57 3)), (5, .int 3), (4, .int (nB e22)), (3, .int (nB ((((xTe (μ.1 50 21)) && e4) && e11) && e18))), (2, .int (nB ((((xEn (μ.1 50 21)) && e2) && e9) && e16))), (0, .ref 50), (1, .int ru)]) (st' := [.int 0]) (by rfl) ?_
                                        exact zJ hJ27 rfl (by simp only [h42, h43, lb_f, Int64.or_zero, nB_t, nB_f, Bool.not_true, Bool.not_false, Bool.and_true, Bool.true_and, Bool.false_and, Bool.and_false, Bool.or_true, Bool.true_or, Bool.false_or, Bool.or_false, cond_true, cond_false]) rfl
                                      · have h43 : (e24) = true := nB_n.mp (cn_eq.mp h43)
                                        refine z_rcs0 hc hH 2 (pc' := 127) (lv' := [(8, .int (nB e26)), (7, .int (nB e24)), (6, .int (μ.1 57 3)), (5, .int 3), (4, .int (nB e22)), (3, .int (nB ((((xTe (μ.1 50 21)) && e4) && e11) && e18))), (2, .int (nB ((((xEn (μ.1 50 21)) && e2) && e9) && e16))), (0, .ref 50), (1, .int ru)]) (st' := [.int 1]) (by rfl) ?_
                                        exact zJ hJ27 rfl (by simp only [h42, h43, lb_f, Int64.or_zero, nB_t, nB_f, Bool.not_true, Bool.not_false, Bool.and_true, Bool.true_and, Bool.false_and, Bool.and_false, Bool.or_true, Bool.true_or, Bool.false_or, Bool.or_false, cond_true, cond_false]) rfl
                                  refine zq_if hc hH (by rfl) (tg := 106) (by rfl) (fun h44 => ?_) (fun h44 => ?_)
                                  · have h44 : (xTe (μ.1 57 3)) = true := nB_n.mp (cm_ne.mp h44)
                                    refine z_rcs0 hc hH 2 (pc' := 111) (lv' := [(7, .int (nB e24)), (6, .int (μ.1 57 3)), (5, .int 3), (4, .int (nB e22)), (3, .int (nB ((((xTe (μ.1 50 21)) && e4) && e11) && e18))), (2, .int (nB ((((xEn (μ.1 50 21)) && e2) && e9) && e16))), (8, .int (nB e18)), (0, .ref 50), (1, .int ru)]) (st' := [.int 1]) (by rfl) ?_
                                    exact zJ hJ25 rfl (by simp only [h44, lb_f, Int64.or_zero, nB_t, nB_f, Bool.not_true, Bool.not_false, Bool.and_true, Bool.true_and, Bool.false_and, Bool.and_false, Bool.or_true, Bool.true_or, Bool.false_or, Bool.or_false, cond_true, cond_false]) rfl
                                  · have h44 : (xTe (μ.1 57 3)) = false := nB_z.mp (cn_ne.mp h44)
                                    refine z_rcs0 hc hH 3 (pc' := 92) (lv' := [(7, .int (nB e24)), (6, .int (μ.1 57 3)), (5, .int 3), (4, .int (nB e22)), (3, .int (nB ((((xTe (μ.1 50 21)) && e4) && e11) && e18))), (2, .int (nB ((((xEn (μ.1 50 21)) && e2) && e9) && e16))), (8, .int (nB e18)), (0, .ref 50), (1, .int ru)]) (st' := [.int 3, .ref 56]) (by rfl) ?_
                                    refine zq_iald hc hH (by rfl) 4 (by decide +kernel) (show vp_in (nI 3) 4 from vp_in_nI (by decide) (by decide)) ?_
                                    show Z 0 93 [(7, .int (nB e24)), (6, .int (μ.1 57 3)), (5, .int 3), (4, .int (nB e22)), (3, .int (nB ((((xTe (μ.1 50 21)) && e4) && e11) && e18))), (2, .int (nB ((((xEn (μ.1 50 21)) && e2) && e9) && e16))), (8, .int (nB e18)), (0, .ref 50), (1, .int ru)] [.int (μ.1 56 3)] _
                                    refine zq_if hc hH (by rfl) (tg := 110) (by rfl) (fun h45 => ?_) (fun h45 => ?_)
                                    · have h45 : (decide ((μ.1 56 3) = 0)) = false := decide_eq_false (cm_ne.mp h45)
                                      refine z_rcs0 hc hH 1 (pc' := 111) (lv' := [(7, .int (nB e24)), (6, .int (μ.1 57 3)), (5, .int 3), (4, .int (nB e22)), (3, .int (nB ((((xTe (μ.1 50 21)) && e4) && e11) && e18))), (2, .int (nB ((((xEn (μ.1 50 21)) && e2) && e9) && e16))), (8, .int (nB e18)), (0, .ref 50), (1, .int ru)]) (st' := [.int 0]) (by rfl) ?_
                                      exact zJ hJ25 rfl (by simp only [h44, h45, lb_f, Int64.or_zero, nB_t, nB_f, Bool.not_true, Bool.not_false, Bool.and_true, Bool.true_and, Bool.false_and, Bool.and_false, Bool.or_true, Bool.true_or, Bool.false_or, Bool.or_false, cond_true, cond_false]) rfl
                                    · have h45 : (decide ((μ.1 56 3) = 0)) = true := decide_eq_true (cn_ne.mp h45)
                                      refine z_rcs0 hc hH 3 (pc' := 100) (lv' := [(7, .int (nB e24)), (6, .int (μ.1 57 3)), (5, .int 3), (4, .int (nB e22)), (3, .int (nB ((((xTe (μ.1 50 21)) && e4) && e11) && e18))), (2, .int (nB ((((xEn (μ.1 50 21)) && e2) && e9) && e16))), (8, .int (nB e18)), (0, .ref 50), (1, .int ru)]) (st' := [.int ((μ.1 57 3) + 2)]) (by rfl) ?_
                                      refine zq_call hc (z_cx_ok hH (by rfl)) (fb_X7_isTerminal d' (by omega) (mGP μ (μ.2.1 50 24) (μ.2.1 50 25) (μ.1 50 23)) ((μ.1 57 3) + 2)) (by decide +kernel) (fun r9 μ9 hq => ?_)
                                      obtain ⟨hμ9, rfl⟩ := hq
                                      rw [hμ9]
                                      clear hμ9 μ9
                                      show Z 0 103 [(7, .int (nB e24)), (6, .int (μ.1 57 3)), (5, .int 3), (4, .int (nB e22)), (3, .int (nB ((((xTe (μ.1 50 21)) && e4) && e11) && e18))), (2, .int (nB ((((xEn (μ.1 50 21)) && e2) && e9) && e16))), (8, .int (nB e18)), (0, .ref 50), (1, .int ru)] [.int (nB (xTe ((μ.1 57 3) + 2)))] _
                                      refine zq_if hc hH (by rfl) (tg := 110) (by rfl) (fun h46 => ?_) (fun h46 => ?_)
                                      · have h46 : (xTe ((μ.1 57 3) + 2)) = false := nB_z.mp (cm_eq9.mp h46)
                                        refine z_rcs0 hc hH 1 (pc' := 111) (lv' := [(7, .int (nB e24)), (6, .int (μ.1 57 3)), (5, .int 3), (4, .int (nB e22)), (3, .int (nB ((((xTe (μ.1 50 21)) && e4) && e11) && e18))), (2, .int (nB ((((xEn (μ.1 50 21)) && e2) && e9) && e16))), (8, .int (nB e18)), (0, .ref 50), (1, .int ru)]) (st' := [.int 0]) (by rfl) ?_
                                        exact zJ hJ25 rfl (by simp only [h44, h45, h46, lb_f, Int64.or_zero, nB_t, nB_f, Bool.not_true, Bool.not_false, Bool.and_true, Bool.true_and, Bool.false_and, Bool.and_false, Bool.or_true, Bool.true_or, Bool.false_or, Bool.or_false, cond_true, cond_false]) rfl
                                      · have h46 : (xTe ((μ.1 57 3) + 2)) = true := nB_n.mp (cn_eq.mp h46)
                                        refine z_rcs0 hc hH 2 (pc' := 111) (lv' := [(7, .int (nB e24)), (6, .int (μ.1 57 3)), (5, .int 3), (4, .int (nB e22)), (3, .int (nB ((((xTe (μ.1 50 21)) && e4) && e11) && e18))), (2, .int (nB ((((xEn (μ.1 50 21)) && e2) && e9) && e16))), (8, .int (nB e18)), (0, .ref 50), (1, .int ru)]) (st' := [.int 1]) (by rfl) ?_
                                        exact zJ hJ25 rfl (by simp only [h44, h45, h46, lb_f, Int64.or_zero, nB_t, nB_f, Bool.not_true, Bool.not_false, Bool.and_true, Bool.true_and, Bool.false_and, Bool.and_false, Bool.or_true, Bool.true_or, Bool.false_or, Bool.or_false, cond_true, cond_false]) rfl
                                refine zq_if hc hH (by rfl) (tg := 71) (by rfl) (fun h47 => ?_) (fun h47 => ?_)
                                · have h47 : (xEn (μ.1 57 3)) = true := nB_n.mp (cm_ne.mp h47)
                                  refine z_rcs0 hc hH 2 (pc' := 76) (lv' := [(6, .int (μ.1 57 3)), (5, .int 3), (4, .int (nB e22)), (3, .int (nB ((((xTe (μ.1 50 21)) && e4) && e11) && e18))), (2, .int (nB ((((xEn (μ.1 50 21)) && e2) && e9) && e16))), (8, .int (nB e18)), (7, .int (nB e16)), (0, .ref 50), (1, .int ru)]) (st' := [.int 1]) (by rfl) ?_
                                  exact zJ hJ23 rfl (by simp only [h47, lb_f, Int64.or_zero, nB_t, nB_f, Bool.not_true, Bool.not_false, Bool.and_true, Bool.true_and, Bool.false_and, Bool.and_false, Bool.or_true, Bool.true_or, Bool.false_or, Bool.or_false, cond_true, cond_false]) rfl
                                · have h47 : (xEn (μ.1 57 3)) = false := nB_z.mp (cn_ne.mp h47)
                                  refine z_rcs0 hc hH 3 (pc' := 57) (lv' := [(6, .int (μ.1 57 3)), (5, .int 3), (4, .int (nB e22)), (3, .int (nB ((((xTe (μ.1 50 21)) && e4) && e11) && e18))), (2, .int (nB ((((xEn (μ.1 50 21)) && e2) && e9) && e16))), (8, .int (nB e18)), (7, .int (nB e16)), (0, .ref 50), (1, .int ru)]) (st' := [.int 3, .ref 56]) (by rfl) ?_
                                  refine zq_iald hc hH (by rfl) 4 (by decide +kernel) (show vp_in (nI 3) 4 from vp_in_nI (by decide) (by decide)) ?_
                                  show Z 0 58 [(6, .int (μ.1 57 3)), (5, .int 3), (4, .int (nB e22)), (3, .int (nB ((((xTe (μ.1 50 21)) && e4) && e11) && e18))), (2, .int (nB ((((xEn (μ.1 50 21)) && e2) && e9) && e16))), (8, .int (nB e18)), (7, .int (nB e16)), (0, .ref 50), (1, .int ru)] [.int (μ.1 56 3)] _
                                  refine zq_if hc hH (by rfl) (tg := 75) (by rfl) (fun h48 => ?_) (fun h48 => ?_)
                                  · have h48 : (decide ((μ.1 56 3) = 0)) = false := decide_eq_false (cm_ne.mp h48)
                                    refine z_rcs0 hc hH 1 (pc' := 76) (lv' := [(6, .int (μ.1 57 3)), (5, .int 3), (4, .int (nB e22)), (3, .int (nB ((((xTe (μ.1 50 21)) && e4) && e11) && e18))), (2, .int (nB ((((xEn (μ.1 50 21)) && e2) && e9) && e16))), (8, .int (nB e18)), (7, .int (nB e16)), (0, .ref 50), (1, .int ru)]) (st' := [.int 0]) (by rfl) ?_
                                    exact zJ hJ23 rfl (by simp only [h47, h48, lb_f, Int64.or_zero, nB_t, nB_f, Bool.not_true, Bool.not_false, Bool.and_true, Bool.true_and, Bool.false_and, Bool.and_false, Bool.or_true, Bool.true_or, Bool.false_or, Bool.or_false, cond_true, cond_false]) rfl
                                  · have h48 : (decide ((μ.1 56 3) = 0)) = true := decide_eq_true (cn_ne.mp h48)
                                    refine z_rcs0 hc hH 3 (pc' := 65) (lv' := [(6, .int (μ.1 57 3)), (5, .int 3), (4, .int (nB e22)), (3, .int (nB ((((xTe (μ.1 50 21)) && e4) && e11) && e18))), (2, .int (nB ((((xEn (μ.1 50 21)) && e2) && e9) && e16))), (8, .int (nB e18)), (7, .int (nB e16)), (0, .ref 50), (1, .int ru)]) (st' := [.int ((μ.1 57 3) + 2)]) (by rfl) ?_
                                    refine zq_call hc (z_cx_ok hH (by rfl)) (fb_X7_isEnd d' (by omega) (mGP μ (μ.2.1 50 24) (μ.2.1 50 25) (μ.1 50 23)) ((μ.1 57 3) + 2)) (by decide +kernel) (fun r9 μ9 hq => ?_)
                                    obtain ⟨hμ9, rfl⟩ := hq
                                    rw [hμ9]
                                    clear hμ9 μ9
                                    show Z 0 68 [(6, .int (μ.1 57 3)), (5, .int 3), (4, .int (nB e22)), (3, .int (nB ((((xTe (μ.1 50 21)) && e4) && e11) && e18))), (2, .int (nB ((((xEn (μ.1 50 21)) && e2) && e9) && e16))), (8, .int (nB e18)), (7, .int (nB e16)), (0, .ref 50), (1, .int ru)] [.int (nB (xEn ((μ.1 57 3) + 2)))] _
                                    refine zq_if hc hH (by rfl) (tg := 75) (by rfl) (fun h49 => ?_) (fun h49 => ?_)
                                    · have h49 : (xEn ((μ.1 57 3) + 2)) = false := nB_z.mp (cm_eq9.mp h49)
                                      refine z_rcs0 hc hH 1 (pc' := 76) (lv' := [(6, .int (μ.1 57 3)), (5, .int 3), (4, .int (nB e22)), (3, .int (nB ((((xTe (μ.1 50 21)) && e4) && e11) && e18))), (2, .int (nB ((((xEn (μ.1 50 21)) && e2) && e9) && e16))), (8, .int (nB e18)), (7, .int (nB e16)), (0, .ref 50), (1, .int ru)]) (st' := [.int 0]) (by rfl) ?_
                                      exact zJ hJ23 rfl (by simp only [h47, h48, h49, lb_f, Int64.or_zero, nB_t, nB_f, Bool.not_true, Bool.not_false, Bool.and_true, Bool.true_and, Bool.false_and, Bool.and_false, Bool.or_true, Bool.true_or, Bool.false_or, Bool.or_false, cond_true, cond_false]) rfl
                                    · have h49 : (xEn ((μ.1 57 3) + 2)) = true := nB_n.mp (cn_eq.mp h49)
                                      refine z_rcs0 hc hH 2 (pc' := 76) (lv' := [(6, .int (μ.1 57 3)), (5, .int 3), (4, .int (nB e22)), (3, .int (nB ((((xTe (μ.1 50 21)) && e4) && e11) && e18))), (2, .int (nB ((((xEn (μ.1 50 21)) && e2) && e9) && e16))), (8, .int (nB e18)), (7, .int (nB e16)), (0, .ref 50), (1, .int ru)]) (st' := [.int 1]) (by rfl) ?_
                                      exact zJ hJ23 rfl (by simp only [h47, h48, h49, lb_f, Int64.or_zero, nB_t, nB_f, Bool.not_true, Bool.not_false, Bool.and_true, Bool.true_and, Bool.false_and, Bool.and_false, Bool.or_true, Bool.true_or, Bool.false_or, Bool.or_false, cond_true, cond_false]) rfl
                              refine zq_if hc hH (by rfl) (tg := 156) (by rfl) (fun h50 => ?_) (fun h50 => ?_)
                              · have h50 : (((xHo (μ.1 50 21)) || (xHo (μ.1 57 0))) || (xHo (μ.1 57 1))) = true := nB_n.mp (cm_ne.mp h50)
                                refine z_rcs0 hc hH 2 (pc' := 161) (lv' := [(3, .int (nB ((((xTe (μ.1 50 21)) && e4) && e11) && e18))), (2, .int (nB ((((xEn (μ.1 50 21)) && e2) && e9) && e16))), (8, .int (nB e18)), (7, .int (nB e16)), (6, .int (μ.1 57 2)), (5, .int 2), (4, .int (nB (((xHo (μ.1 50 21)) || (xHo (μ.1 57 0))) || (xHo (μ.1 57 1))))), (0, .ref 50), (1, .int ru)]) (st' := [.int 1]) (by rfl) ?_
                                exact zJ hJ21 rfl (by simp only [h50, lb_f, Int64.or_zero, nB_t, nB_f, Bool.not_true, Bool.not_false, Bool.and_true, Bool.true_and, Bool.false_and, Bool.and_false, Bool.or_true, Bool.true_or, Bool.false_or, Bool.or_false, cond_true, cond_false]) rfl
                              · have h50 : (((xHo (μ.1 50 21)) || (xHo (μ.1 57 0))) || (xHo (μ.1 57 1))) = false := nB_z.mp (cn_ne.mp h50)
                                refine z_rcs0 hc hH 1 (pc' := 150) (lv' := [(3, .int (nB ((((xTe (μ.1 50 21)) && e4) && e11) && e18))), (2, .int (nB ((((xEn (μ.1 50 21)) && e2) && e9) && e16))), (8, .int (nB e18)), (7, .int (nB e16)), (6, .int (μ.1 57 2)), (5, .int 2), (4, .int (nB (((xHo (μ.1 50 21)) || (xHo (μ.1 57 0))) || (xHo (μ.1 57 1))))), (0, .ref 50), (1, .int ru)]) (st' := [.int (μ.1 57 2)]) (by rfl) ?_
                                refine zq_call hc (z_cx_ok hH (by rfl)) (fb_X7_isHonour d' (by omega) (mGP μ (μ.2.1 50 24) (μ.2.1 50 25) (μ.1 50 23)) (μ.1 57 2)) (by decide +kernel) (fun r9 μ9 hq => ?_)
                                obtain ⟨hμ9, rfl⟩ := hq
                                rw [hμ9]
                                clear hμ9 μ9
                                show Z 0 153 [(3, .int (nB ((((xTe (μ.1 50 21)) && e4) && e11) && e18))), (2, .int (nB ((((xEn (μ.1 50 21)) && e2) && e9) && e16))), (8, .int (nB e18)), (7, .int (nB e16)), (6, .int (μ.1 57 2)), (5, .int 2), (4, .int (nB (((xHo (μ.1 50 21)) || (xHo (μ.1 57 0))) || (xHo (μ.1 57 1))))), (0, .ref 50), (1, .int ru)] [.int (nB (xHo (μ.1 57 2)))] _
                                refine zq_if hc hH (by rfl) (tg := 160) (by rfl) (fun h51 => ?_) (fun h51 => ?_)
                                · have h51 : (xHo (μ.1 57 2)) = false := nB_z.mp (cm_eq9.mp h51)
                                  refine z_rcs0 hc hH 1 (pc' := 161) (lv' := [(3, .int (nB ((((xTe (μ.1 50 21)) && e4) && e11) && e18))), (2, .int (nB ((((xEn (μ.1 50 21)) && e2) && e9) && e16))), (8, .int (nB e18)), (7, .int (nB e16)), (6, .int (μ.1 57 2)), (5, .int 2), (4, .int (nB (((xHo (μ.1 50 21)) || (xHo (μ.1 57 0))) || (xHo (μ.1 57 1))))), (0, .ref 50), (1, .int ru)]) (st' := [.int 0]) (by rfl) ?_
                                  exact zJ hJ21 rfl (by simp only [h50, h51, lb_f, Int64.or_zero, nB_t, nB_f, Bool.not_true, Bool.not_false, Bool.and_true, Bool.true_and, Bool.false_and, Bool.and_false, Bool.or_true, Bool.true_or, Bool.false_or, Bool.or_false, cond_true, cond_false]) rfl
                                · have h51 : (xHo (μ.1 57 2)) = true := nB_n.mp (cn_eq.mp h51)
                                  refine z_rcs0 hc hH 2 (pc' := 161) (lv' := [(3, .int (nB ((((xTe (μ.1 50 21)) && e4) && e11) && e18))), (2, .int (nB ((((xEn (μ.1 50 21)) && e2) && e9) && e16))), (8, .int (nB e18)), (7, .int (nB e16)), (6, .int (μ.1 57 2)), (5, .int 2), (4, .int (nB (((xHo (μ.1 50 21)) || (xHo (μ.1 57 0))) || (xHo (μ.1 57 1))))), (0, .ref 50), (1, .int ru)]) (st' := [.int 1]) (by rfl) ?_
                                  exact zJ hJ21 rfl (by simp only [h50, h51, lb_f, Int64.or_zero, nB_t, nB_f, Bool.not_true, Bool.not_false, Bool.and_true, Bool.true_and, Bool.false_and, Bool.and_false, Bool.or_true, Bool.true_or, Bool.false_or, Bool.or_false, cond_true, cond_false]) rfl
                            refine zq_if hc hH (by rfl) (tg := 141) (by rfl) (fun h52 => ?_) (fun h52 => ?_)
                            · have h52 : (((xTe (μ.1 50 21)) && e4) && e11) = false := nB_z.mp (cm_eq9.mp h52)
                              refine z_rcs0 hc hH 1 (pc' := 142) (lv' := [(2, .int (nB ((((xEn (μ.1 50 21)) && e2) && e9) && e16))), (8, .int (nB e18)), (7, .int (nB e16)), (6, .int (μ.1 57 2)), (5, .int 2), (4, .int (nB (((xHo (μ.1 50 21)) || (xHo (μ.1 57 0))) || (xHo (μ.1 57 1))))), (3, .int (nB (((xTe (μ.1 50 21)) && e4) && e11))), (0, .ref 50), (1, .int ru)]) (st' := [.int 0]) (by rfl) ?_
                              exact zJ hJ20 rfl (by simp only [h52, lb_f, Int64.or_zero, nB_t, nB_f, Bool.not_true, Bool.not_false, Bool.and_true, Bool.true_and, Bool.false_and, Bool.and_false, Bool.or_true, Bool.true_or, Bool.false_or, Bool.or_false, cond_true, cond_false]) rfl
                            · have h52 : (((xTe (μ.1 50 21)) && e4) && e11) = true := nB_n.mp (cn_eq.mp h52)
                              refine z_rcs0 hc hH 1 (pc' := 134) (lv' := [(2, .int (nB ((((xEn (μ.1 50 21)) && e2) && e9) && e16))), (8, .int (nB e18)), (7, .int (nB e16)), (6, .int (μ.1 57 2)), (5, .int 2), (4, .int (nB (((xHo (μ.1 50 21)) || (xHo (μ.1 57 0))) || (xHo (μ.1 57 1))))), (3, .int (nB (((xTe (μ.1 50 21)) && e4) && e11))), (0, .ref 50), (1, .int ru)]) (st' := [.int (nB e18)]) (by rfl) ?_
                              refine zq_if hc hH (by rfl) (tg := 141) (by rfl) (fun h53 => ?_) (fun h53 => ?_)
                              · have h53 : (e18) = false := nB_z.mp (cm_eq9.mp h53)
                                refine z_rcs0 hc hH 1 (pc' := 142) (lv' := [(2, .int (nB ((((xEn (μ.1 50 21)) && e2) && e9) && e16))), (8, .int (nB e18)), (7, .int (nB e16)), (6, .int (μ.1 57 2)), (5, .int 2), (4, .int (nB (((xHo (μ.1 50 21)) || (xHo (μ.1 57 0))) || (xHo (μ.1 57 1))))), (3, .int (nB (((xTe (μ.1 50 21)) && e4) && e11))), (0, .ref 50), (1, .int ru)]) (st' := [.int 0]) (by rfl) ?_
                                exact zJ hJ20 rfl (by simp only [h52, h53, lb_f, Int64.or_zero, nB_t, nB_f, Bool.not_true, Bool.not_false, Bool.and_true, Bool.true_and, Bool.false_and, Bool.and_false, Bool.or_true, Bool.true_or, Bool.false_or, Bool.or_false, cond_true, cond_false]) rfl
                              · have h53 : (e18) = true := nB_n.mp (cn_eq.mp h53)
                                refine z_rcs0 hc hH 2 (pc' := 142) (lv' := [(2, .int (nB ((((xEn (μ.1 50 21)) && e2) && e9) && e16))), (8, .int (nB e18)), (7, .int (nB e16)), (6, .int (μ.1 57 2)), (5, .int 2), (4, .int (nB (((xHo (μ.1 50 21)) || (xHo (μ.1 57 0))) || (xHo (μ.1 57 1))))), (3, .int (nB (((xTe (μ.1 50 21)) && e4) && e11))), (0, .ref 50), (1, .int ru)]) (st' := [.int 1]) (by rfl) ?_
                                exact zJ hJ20 rfl (by simp only [h52, h53, lb_f, Int64.or_zero, nB_t, nB_f, Bool.not_true, Bool.not_false, Bool.and_true, Bool.true_and, Bool.false_and, Bool.and_false, Bool.or_true, Bool.true_or, Bool.false_or, Bool.or_false, cond_true, cond_false]) rfl
                          refine zq_if hc hH (by rfl) (tg := 126) (by rfl) (fun h54 => ?_) (fun h54 => ?_)
                          · have h54 : (((xEn (μ.1 50 21)) && e2) && e9) = false := nB_z.mp (cm_eq9.mp h54)
                            refine z_rcs0 hc hH 1 (pc' := 127) (lv' := [(8, .int (nB e18)), (7, .int (nB e16)), (6, .int (μ.1 57 2)), (5, .int 2), (4, .int (nB (((xHo (μ.1 50 21)) || (xHo (μ.1 57 0))) || (xHo (μ.1 57 1))))), (3, .int (nB (((xTe (μ.1 50 21)) && e4) && e11))), (2, .int (nB (((xEn (μ.1 50 21)) && e2) && e9))), (0, .ref 50), (1, .int ru)]) (st' := [.int 0]) (by rfl) ?_
                            exact zJ hJ19 rfl (by simp only [h54, lb_f, Int64.or_zero, nB_t, nB_f, Bool.not_true, Bool.not_false, Bool.and_true, Bool.true_and, Bool.false_and, Bool.and_false, Bool.or_true, Bool.true_or, Bool.false_or, Bool.or_false, cond_true, cond_false]) rfl
                          · have h54 : (((xEn (μ.1 50 21)) && e2) && e9) = true := nB_n.mp (cn_eq.mp h54)
                            refine z_rcs0 hc hH 1 (pc' := 119) (lv' := [(8, .int (nB e18)), (7, .int (nB e16)), (6, .int (μ.1 57 2)), (5, .int 2), (4, .int (nB (((xHo (μ.1 50 21)) || (xHo (μ.1 57 0))) || (xHo (μ.1 57 1))))), (3, .int (nB (((xTe (μ.1 50 21)) && e4) && e11))), (2, .int (nB (((xEn (μ.1 50 21)) && e2) && e9))), (0, .ref 50), (1, .int ru)]) (st' := [.int (nB e16)]) (by rfl) ?_
                            refine zq_if hc hH (by rfl) (tg := 126) (by rfl) (fun h55 => ?_) (fun h55 => ?_)
                            · have h55 : (e16) = false := nB_z.mp (cm_eq9.mp h55)
                              refine z_rcs0 hc hH 1 (pc' := 127) (lv' := [(8, .int (nB e18)), (7, .int (nB e16)), (6, .int (μ.1 57 2)), (5, .int 2), (4, .int (nB (((xHo (μ.1 50 21)) || (xHo (μ.1 57 0))) || (xHo (μ.1 57 1))))), (3, .int (nB (((xTe (μ.1 50 21)) && e4) && e11))), (2, .int (nB (((xEn (μ.1 50 21)) && e2) && e9))), (0, .ref 50), (1, .int ru)]) (st' := [.int 0]) (by rfl) ?_
                              exact zJ hJ19 rfl (by simp only [h54, h55, lb_f, Int64.or_zero, nB_t, nB_f, Bool.not_true, Bool.not_false, Bool.and_true, Bool.true_and, Bool.false_and, Bool.and_false, Bool.or_true, Bool.true_or, Bool.false_or, Bool.or_false, cond_true, cond_false]) rfl
                            · have h55 : (e16) = true := nB_n.mp (cn_eq.mp h55)
                              refine z_rcs0 hc hH 2 (pc' := 127) (lv' := [(8, .int (nB e18)), (7, .int (nB e16)), (6, .int (μ.1 57 2)), (5, .int 2), (4, .int (nB (((xHo (μ.1 50 21)) || (xHo (μ.1 57 0))) || (xHo (μ.1 57 1))))), (3, .int (nB (((xTe (μ.1 50 21)) && e4) && e11))), (2, .int (nB (((xEn (μ.1 50 21)) && e2) && e9))), (0, .ref 50), (1, .int ru)]) (st' := [.int 1]) (by rfl) ?_
                              exact zJ hJ19 rfl (by simp only [h54, h55, lb_f, Int64.or_zero, nB_t, nB_f, Bool.not_true, Bool.not_false, Bool.and_true, Bool.true_and, Bool.false_and, Bool.and_false, Bool.or_true, Bool.true_or, Bool.false_or, Bool.or_false, cond_true, cond_false]) rfl
                        refine zq_if hc hH (by rfl) (tg := 106) (by rfl) (fun h56 => ?_) (fun h56 => ?_)
                        · have h56 : (xTe (μ.1 57 2)) = true := nB_n.mp (cm_ne.mp h56)
                          refine z_rcs0 hc hH 2 (pc' := 111) (lv' := [(7, .int (nB e16)), (6, .int (μ.1 57 2)), (5, .int 2), (4, .int (nB (((xHo (μ.1 50 21)) || (xHo (μ.1 57 0))) || (xHo (μ.1 57 1))))), (3, .int (nB (((xTe (μ.1 50 21)) && e4) && e11))), (2, .int (nB (((xEn (μ.1 50 21)) && e2) && e9))), (8, .int (nB e11)), (0, .ref 50), (1, .int ru)]) (st' := [.int 1]) (by rfl) ?_
                          exact zJ hJ17 rfl (by simp only [h56, lb_f, Int64.or_zero, nB_t, nB_f, Bool.not_true, Bool.not_false, Bool.and_true, Bool.true_and, Bool.false_and, Bool.and_false, Bool.or_true, Bool.true_or, Bool.false_or, Bool.or_false, cond_true, cond_false]) rfl
                        · have h56 : (xTe (μ.1 57 2)) = false := nB_z.mp (cn_ne.mp h56)
                          refine z_rcs0 hc hH 3 (pc' := 92) (lv' := [(7, .int (nB e16)), (6, .int (μ.1 57 2)), (5, .int 2), (4, .int (nB (((xHo (μ.1 50 21)) || (xHo (μ.1 57 0))) || (xHo (μ.1 57 1))))), (3, .int (nB (((xTe (μ.1 50 21)) && e4) && e11))), (2, .int (nB (((xEn (μ.1 50 21)) && e2) && e9))), (8, .int (nB e11)), (0, .ref 50), (1, .int ru)]) (st' := [.int 2, .ref 56]) (by rfl) ?_
                          refine zq_iald hc hH (by rfl) 4 (by decide +kernel) (show vp_in (nI 2) 4 from vp_in_nI (by decide) (by decide)) ?_
                          show Z 0 93 [(7, .int (nB e16)), (6, .int (μ.1 57 2)), (5, .int 2), (4, .int (nB (((xHo (μ.1 50 21)) || (xHo (μ.1 57 0))) || (xHo (μ.1 57 1))))), (3, .int (nB (((xTe (μ.1 50 21)) && e4) && e11))), (2, .int (nB (((xEn (μ.1 50 21)) && e2) && e9))), (8, .int (nB e11)), (0, .ref 50), (1, .int ru)] [.int (μ.1 56 2)] _
                          refine zq_if hc hH (by rfl) (tg := 110) (by rfl) (fun h57 => ?_) (fun h57 => ?_)
                          · have h57 : (decide ((μ.1 56 2) = 0)) = false := decide_eq_false (cm_ne.mp h57)
                            refine z_rcs0 hc hH 1 (pc' := 111) (lv' := [(7, .int (nB e16)), (6, .int (μ.1 57 2)), (5, .int 2), (4, .int (nB (((xHo (μ.1 50 21)) || (xHo (μ.1 57 0))) || (xHo (μ.1 57 1))))), (3, .int (nB (((xTe (μ.1 50 21)) && e4) && e11))), (2, .int (nB (((xEn (μ.1 50 21)) && e2) && e9))), (8, .int (nB e11)), (0, .ref 50), (1, .int ru)]) (st' := [.int 0]) (by rfl) ?_
                            exact zJ hJ17 rfl (by simp only [h56, h57, lb_f, Int64.or_zero, nB_t, nB_f, Bool.not_true, Bool.not_false, Bool.and_true, Bool.true_and, Bool.false_and, Bool.and_false, Bool.or_true, Bool.true_or, Bool.false_or, Bool.or_false, cond_true, cond_false]) rfl
                          · have h57 : (decide ((μ.1 56 2) = 0)) = true := decide_eq_true (cn_ne.mp h57)
                            refine z_rcs0 hc hH 3 (pc' := 100) (lv' := [(7, .int (nB e16)), (6, .int (μ.1 57 2)), (5, .int 2), (4, .int (nB (((xHo (μ.1 50 21)) || (xHo (μ.1 57 0))) || (xHo (μ.1 57 1))))), (3, .int (nB (((xTe (μ.1 50 21)) && e4) && e11))), (2, .int (nB (((xEn (μ.1 50 21)) && e2) && e9))), (8, .int (nB e11)), (0, .ref 50), (1, .int ru)]) (st' := [.int ((μ.1 57 2) + 2)]) (by rfl) ?_
                            refine zq_call hc (z_cx_ok hH (by rfl)) (fb_X7_isTerminal d' (by omega) (mGP μ (μ.2.1 50 24) (μ.2.1 50 25) (μ.1 50 23)) ((μ.1 57 2) + 2)) (by decide +kernel) (fun r9 μ9 hq => ?_)
                            obtain ⟨hμ9, rfl⟩ := hq
                            rw [hμ9]
                            clear hμ9 μ9
                            show Z 0 103 [(7, .int (nB e16)), (6, .int (μ.1 57 2)), (5, .int 2), (4, .int (nB (((xHo (μ.1 50 21)) || (xHo (μ.1 57 0))) || (xHo (μ.1 57 1))))), (3, .int (nB (((xTe (μ.1 50 21)) && e4) && e11))), (2, .int (nB (((xEn (μ.1 50 21)) && e2) && e9))), (8, .int (nB e11)), (0, .ref 50), (1, .int ru)] [.int (nB (xTe ((μ.1 57 2) + 2)))] _
                            refine zq_if hc hH (by rfl) (tg := 110) (by rfl) (fun h58 => ?_) (fun h58 => ?_)
                            · have h58 : (xTe ((μ.1 57 2) + 2)) = false := nB_z.mp (cm_eq9.mp h58)
                              refine z_rcs0 hc hH 1 (pc' := 111) (lv' := [(7, .int (nB e16)), (6, .int (μ.1 57 2)), (5, .int 2), (4, .int (nB (((xHo (μ.1 50 21)) || (xHo (μ.1 57 0))) || (xHo (μ.1 57 1))))), (3, .int (nB (((xTe (μ.1 50 21)) && e4) && e11))), (2, .int (nB (((xEn (μ.1 50 21)) && e2) && e9))), (8, .int (nB e11)), (0, .ref 50), (1, .int ru)]) (st' := [.int 0]) (by rfl) ?_
                              exact zJ hJ17 rfl (by simp only [h56, h57, h58, lb_f, Int64.or_zero, nB_t, nB_f, Bool.not_true, Bool.not_false, Bool.and_true, Bool.true_and, Bool.false_and, Bool.and_false, Bool.or_true, Bool.true_or, Bool.false_or, Bool.or_false, cond_true, cond_false]) rfl
                            · have h58 : (xTe ((μ.1 57 2) + 2)) = true := nB_n.mp (cn_eq.mp h58)
                              refine z_rcs0 hc hH 2 (pc' := 111) (lv' := [(7, .int (nB e16)), (6, .int (μ.1 57 2)), (5, .int 2), (4, .int (nB (((xHo (μ.1 50 21)) || (xHo (μ.1 57 0))) || (xHo (μ.1 57 1))))), (3, .int (nB (((xTe (μ.1 50 21)) && e4) && e11))), (2, .int (nB (((xEn (μ.1 50 21)) && e2) && e9))), (8, .int (nB e11)), (0, .ref 50), (1, .int ru)]) (st' := [.int 1]) (by rfl) ?_
                              exact zJ hJ17 rfl (by simp only [h56, h57, h58, lb_f, Int64.or_zero, nB_t, nB_f, Bool.not_true, Bool.not_false, Bool.and_true, Bool.true_and, Bool.false_and, Bool.and_false, Bool.or_true, Bool.true_or, Bool.false_or, Bool.or_false, cond_true, cond_false]) rfl
                      refine zq_if hc hH (by rfl) (tg := 71) (by rfl) (fun h59 => ?_) (fun h59 => ?_)
                      · have h59 : (xEn (μ.1 57 2)) = true := nB_n.mp (cm_ne.mp h59)
                        refine z_rcs0 hc hH 2 (pc' := 76) (lv' := [(6, .int (μ.1 57 2)), (5, .int 2), (4, .int (nB (((xHo (μ.1 50 21)) || (xHo (μ.1 57 0))) || (xHo (μ.1 57 1))))), (3, .int (nB (((xTe (μ.1 50 21)) && e4) && e11))), (2, .int (nB (((xEn (μ.1 50 21)) && e2) && e9))), (8, .int (nB e11)), (7, .int (nB e9)), (0, .ref 50), (1, .int ru)]) (st' := [.int 1]) (by rfl) ?_
                        exact zJ hJ15 rfl (by simp only [h59, lb_f, Int64.or_zero, nB_t, nB_f, Bool.not_true, Bool.not_false, Bool.and_true, Bool.true_and, Bool.false_and, Bool.and_false, Bool.or_true, Bool.true_or, Bool.false_or, Bool.or_false, cond_true, cond_false]) rfl
                      · have h59 : (xEn (μ.1 57 2)) = false := nB_z.mp (cn_ne.mp h59)
                        refine z_rcs0 hc hH 3 (pc' := 57) (lv' := [(6, .int (μ.1 57 2)), (5, .int 2), (4, .int (nB (((xHo (μ.1 50 21)) || (xHo (μ.1 57 0))) || (xHo (μ.1 57 1))))), (3, .int (nB (((xTe (μ.1 50 21)) && e4) && e11))), (2, .int (nB (((xEn (μ.1 50 21)) && e2) && e9))), (8, .int (nB e11)), (7, .int (nB e9)), (0, .ref 50), (1, .int ru)]) (st' := [.int 2, .ref 56]) (by rfl) ?_
                        refine zq_iald hc hH (by rfl) 4 (by decide +kernel) (show vp_in (nI 2) 4 from vp_in_nI (by decide) (by decide)) ?_
                        show Z 0 58 [(6, .int (μ.1 57 2)), (5, .int 2), (4, .int (nB (((xHo (μ.1 50 21)) || (xHo (μ.1 57 0))) || (xHo (μ.1 57 1))))), (3, .int (nB (((xTe (μ.1 50 21)) && e4) && e11))), (2, .int (nB (((xEn (μ.1 50 21)) && e2) && e9))), (8, .int (nB e11)), (7, .int (nB e9)), (0, .ref 50), (1, .int ru)] [.int (μ.1 56 2)] _
                        refine zq_if hc hH (by rfl) (tg := 75) (by rfl) (fun h60 => ?_) (fun h60 => ?_)
                        · have h60 : (decide ((μ.1 56 2) = 0)) = false := decide_eq_false (cm_ne.mp h60)
                          refine z_rcs0 hc hH 1 (pc' := 76) (lv' := [(6, .int (μ.1 57 2)), (5, .int 2), (4, .int (nB (((xHo (μ.1 50 21)) || (xHo (μ.1 57 0))) || (xHo (μ.1 57 1))))), (3, .int (nB (((xTe (μ.1 50 21)) && e4) && e11))), (2, .int (nB (((xEn (μ.1 50 21)) && e2) && e9))), (8, .int (nB e11)), (7, .int (nB e9)), (0, .ref 50), (1, .int ru)]) (st' := [.int 0]) (by rfl) ?_
                          exact zJ hJ15 rfl (by simp only [h59, h60, lb_f, Int64.or_zero, nB_t, nB_f, Bool.not_true, Bool.not_false, Bool.and_true, Bool.true_and, Bool.false_and, Bool.and_false, Bool.or_true, Bool.true_or, Bool.false_or, Bool.or_false, cond_true, cond_false]) rfl
                        · have h60 : (decide ((μ.1 56 2) = 0)) = true := decide_eq_true (cn_ne.mp h60)
                          refine z_rcs0 hc hH 3 (pc' := 65) (lv' := [(6, .int (μ.1 57 2)), (5, .int 2), (4, .int (nB (((xHo (μ.1 50 21)) || (xHo (μ.1 57 0))) || (xHo (μ.1 57 1))))), (3, .int (nB (((xTe (μ.1 50 21)) && e4) && e11))), (2, .int (nB (((xEn (μ.1 50 21)) && e2) && e9))), (8, .int (nB e11)), (7, .int (nB e9)), (0, .ref 50), (1, .int ru)]) (st' := [.int ((μ.1 57 2) + 2)]) (by rfl) ?_
                          refine zq_call hc (z_cx_ok hH (by rfl)) (fb_X7_isEnd d' (by omega) (mGP μ (μ.2.1 50 24) (μ.2.1 50 25) (μ.1 50 23)) ((μ.1 57 2) + 2)) (by decide +kernel) (fun r9 μ9 hq => ?_)
                          obtain ⟨hμ9, rfl⟩ := hq
                          rw [hμ9]
                          clear hμ9 μ9
                          show Z 0 68 [(6, .int (μ.1 57 2)), (5, .int 2), (4, .int (nB (((xHo (μ.1 50 21)) || (xHo (μ.1 57 0))) || (xHo (μ.1 57 1))))), (3, .int (nB (((xTe (μ.1 50 21)) && e4) && e11))), (2, .int (nB (((xEn (μ.1 50 21)) && e2) && e9))), (8, .int (nB e11)), (7, .int (nB e9)), (0, .ref 50), (1, .int ru)] [.int (nB (xEn ((μ.1 57 2) + 2)))] _
                          refine zq_if hc hH (by rfl) (tg := 75) (by rfl) (fun h61 => ?_) (fun h61 => ?_)
                          · have h61 : (xEn ((μ.1 57 2) + 2)) = false := nB_z.mp (cm_eq9.mp h61)
                            refine z_rcs0 hc hH 1 (pc' := 76) (lv' := [(6, .int (μ.1 57 2)), (5, .int 2), (4, .int (nB (((xHo (μ.1 50 21)) || (xHo (μ.1 57 0))) || (xHo (μ.1 57 1))))), (3, .int (nB (((xTe (μ.1 50 21)) && e4) && e11))), (2, .int (nB (((xEn (μ.1 50 21)) && e2) && e9))), (8, .int (nB e11)), (7, .int (nB e9)), (0, .ref 50), (1, .int ru)]) (st' := [.int 0]) (by rfl) ?_
                            exact zJ hJ15 rfl (by simp only [h59, h60, h61, lb_f, Int64.or_zero, nB_t, nB_f, Bool.not_true, Bool.not_false, Bool.and_true, Bool.true_and, Bool.false_and, Bool.and_false, Bool.or_true, Bool.true_or, Bool.false_or, Bool.or_false, cond_true, cond_false]) rfl
                          · have h61 : (xEn ((μ.1 57 2) + 2)) = true := nB_n.mp (cn_eq.mp h61)
                            refine z_rcs0 hc hH 2 (pc' := 76) (lv' := [(6, .int (μ.1 57 2)), (5, .int 2), (4, .int (nB (((xHo (μ.1 50 21)) || (xHo (μ.1 57 0))) || (xHo (μ.1 57 1))))), (3, .int (nB (((xTe (μ.1 50 21)) && e4) && e11))), (2, .int (nB (((xEn (μ.1 50 21)) && e2) && e9))), (8, .int (nB e11)), (7, .int (nB e9)), (0, .ref 50), (1, .int ru)]) (st' := [.int 1]) (by rfl) ?_
                            exact zJ hJ15 rfl (by simp only [h59, h60, h61, lb_f, Int64.or_zero, nB_t, nB_f, Bool.not_true, Bool.not_false, Bool.and_true, Bool.true_and, Bool.false_and, Bool.and_false, Bool.or_true, Bool.true_or, Bool.false_or, Bool.or_false, cond_true, cond_false]) rfl
                    refine zq_if hc hH (by rfl) (tg := 156) (by rfl) (fun h62 => ?_) (fun h62 => ?_)
                    · have h62 : ((xHo (μ.1 50 21)) || (xHo (μ.1 57 0))) = true := nB_n.mp (cm_ne.mp h62)
                      refine z_rcs0 hc hH 2 (pc' := 161) (lv' := [(3, .int (nB (((xTe (μ.1 50 21)) && e4) && e11))), (2, .int (nB (((xEn (μ.1 50 21)) && e2) && e9))), (8, .int (nB e11)), (7, .int (nB e9)), (6, .int (μ.1 57 1)), (5, .int 1), (4, .int (nB ((xHo (μ.1 50 21)) || (xHo (μ.1 57 0))))), (0, .ref 50), (1, .int ru)]) (st' := [.int 1]) (by rfl) ?_
                      exact zJ hJ14 rfl (by simp only [h62, lb_f, Int64.or_zero, nB_t, nB_f, Bool.not_true, Bool.not_false, Bool.and_true, Bool.true_and, Bool.false_and, Bool.and_false, Bool.or_true, Bool.true_or, Bool.false_or, Bool.or_false, cond_true, cond_false]) rfl
                    · have h62 : ((xHo (μ.1 50 21)) || (xHo (μ.1 57 0))) = false := nB_z.mp (cn_ne.mp h62)
                      refine z_rcs0 hc hH 1 (pc' := 150) (lv' := [(3, .int (nB (((xTe (μ.1 50 21)) && e4) && e11))), (2, .int (nB (((xEn (μ.1 50 21)) && e2) && e9))), (8, .int (nB e11)), (7, .int (nB e9)), (6, .int (μ.1 57 1)), (5, .int 1), (4, .int (nB ((xHo (μ.1 50 21)) || (xHo (μ.1 57 0))))), (0, .ref 50), (1, .int ru)]) (st' := [.int (μ.1 57 1)]) (by rfl) ?_
                      refine zq_call hc (z_cx_ok hH (by rfl)) (fb_X7_isHonour d' (by omega) (mGP μ (μ.2.1 50 24) (μ.2.1 50 25) (μ.1 50 23)) (μ.1 57 1)) (by decide +kernel) (fun r9 μ9 hq => ?_)
                      obtain ⟨hμ9, rfl⟩ := hq
                      rw [hμ9]
                      clear hμ9 μ9
                      show Z 0 153 [(3, .int (nB (((xTe (μ.1 50 21)) && e4) && e11))), (2, .int (nB (((xEn (μ.1 50 21)) && e2) && e9))), (8, .int (nB e11)), (7, .int (nB e9)), (6, .int (μ.1 57 1)), (5, .int 1), (4, .int (nB ((xHo (μ.1 50 21)) || (xHo (μ.1 57 0))))), (0, .ref 50), (1, .int ru)] [.int (nB (xHo (μ.1 57 1)))] _
                      refine zq_if hc hH (by rfl) (tg := 160) (by rfl) (fun h63 => ?_) (fun h63 => ?_)
                      · have h63 : (xHo (μ.1 57 1)) = false := nB_z.mp (cm_eq9.mp h63)
                        refine z_rcs0 hc hH 1 (pc' := 161) (lv' := [(3, .int (nB (((xTe (μ.1 50 21)) && e4) && e11))), (2, .int (nB (((xEn (μ.1 50 21)) && e2) && e9))), (8, .int (nB e11)), (7, .int (nB e9)), (6, .int (μ.1 57 1)), (5, .int 1), (4, .int (nB ((xHo (μ.1 50 21)) || (xHo (μ.1 57 0))))), (0, .ref 50), (1, .int ru)]) (st' := [.int 0]) (by rfl) ?_
                        exact zJ hJ14 rfl (by simp only [h62, h63, lb_f, Int64.or_zero, nB_t, nB_f, Bool.not_true, Bool.not_false, Bool.and_true, Bool.true_and, Bool.false_and, Bool.and_false, Bool.or_true, Bool.true_or, Bool.false_or, Bool.or_false, cond_true, cond_false]) rfl
                      · have h63 : (xHo (μ.1 57 1)) = true := nB_n.mp (cn_eq.mp h63)
                        refine z_rcs0 hc hH 2 (pc' := 161) (lv' := [(3, .int (nB (((xTe (μ.1 50 21)) && e4) && e11))), (2, .int (nB (((xEn (μ.1 50 21)) && e2) && e9))), (8, .int (nB e11)), (7, .int (nB e9)), (6, .int (μ.1 57 1)), (5, .int 1), (4, .int (nB ((xHo (μ.1 50 21)) || (xHo (μ.1 57 0))))), (0, .ref 50), (1, .int ru)]) (st' := [.int 1]) (by rfl) ?_
                        exact zJ hJ14 rfl (by simp only [h62, h63, lb_f, Int64.or_zero, nB_t, nB_f, Bool.not_true, Bool.not_false, Bool.and_true, Bool.true_and, Bool.false_and, Bool.and_false, Bool.or_true, Bool.true_or, Bool.false_or, Bool.or_false, cond_true, cond_false]) rfl
                  refine zq_if hc hH (by rfl) (tg := 141) (by rfl) (fun h64 => ?_) (fun h64 => ?_)
                  · have h64 : ((xTe (μ.1 50 21)) && e4) = false := nB_z.mp (cm_eq9.mp h64)
                    refine z_rcs0 hc hH 1 (pc' := 142) (lv' := [(2, .int (nB (((xEn (μ.1 50 21)) && e2) && e9))), (8, .int (nB e11)), (7, .int (nB e9)), (6, .int (μ.1 57 1)), (5, .int 1), (4, .int (nB ((xHo (μ.1 50 21)) || (xHo (μ.1 57 0))))), (3, .int (nB ((xTe (μ.1 50 21)) && e4))), (0, .ref 50), (1, .int ru)]) (st' := [.int 0]) (by rfl) ?_
                    exact zJ hJ13 rfl (by simp only [h64, lb_f, Int64.or_zero, nB_t, nB_f, Bool.not_true, Bool.not_false, Bool.and_true, Bool.true_and, Bool.false_and, Bool.and_false, Bool.or_true, Bool.true_or, Bool.false_or, Bool.or_false, cond_true, cond_false]) rfl
                  · have h64 : ((xTe (μ.1 50 21)) && e4) = true := nB_n.mp (cn_eq.mp h64)
                    refine z_rcs0 hc hH 1 (pc' := 134) (lv' := [(2, .int (nB (((xEn (μ.1 50 21)) && e2) && e9))), (8, .int (nB e11)), (7, .int (nB e9)), (6, .int (μ.1 57 1)), (5, .int 1), (4, .int (nB ((xHo (μ.1 50 21)) || (xHo (μ.1 57 0))))), (3, .int (nB ((xTe (μ.1 50 21)) && e4))), (0, .ref 50), (1, .int ru)]) (st' := [.int (nB e11)]) (by rfl) ?_
                    refine zq_if hc hH (by rfl) (tg := 141) (by rfl) (fun h65 => ?_) (fun h65 => ?_)
                    · have h65 : (e11) = false := nB_z.mp (cm_eq9.mp h65)
                      refine z_rcs0 hc hH 1 (pc' := 142) (lv' := [(2, .int (nB (((xEn (μ.1 50 21)) && e2) && e9))), (8, .int (nB e11)), (7, .int (nB e9)), (6, .int (μ.1 57 1)), (5, .int 1), (4, .int (nB ((xHo (μ.1 50 21)) || (xHo (μ.1 57 0))))), (3, .int (nB ((xTe (μ.1 50 21)) && e4))), (0, .ref 50), (1, .int ru)]) (st' := [.int 0]) (by rfl) ?_
                      exact zJ hJ13 rfl (by simp only [h64, h65, lb_f, Int64.or_zero, nB_t, nB_f, Bool.not_true, Bool.not_false, Bool.and_true, Bool.true_and, Bool.false_and, Bool.and_false, Bool.or_true, Bool.true_or, Bool.false_or, Bool.or_false, cond_true, cond_false]) rfl
                    · have h65 : (e11) = true := nB_n.mp (cn_eq.mp h65)
                      refine z_rcs0 hc hH 2 (pc' := 142) (lv' := [(2, .int (nB (((xEn (μ.1 50 21)) && e2) && e9))), (8, .int (nB e11)), (7, .int (nB e9)), (6, .int (μ.1 57 1)), (5, .int 1), (4, .int (nB ((xHo (μ.1 50 21)) || (xHo (μ.1 57 0))))), (3, .int (nB ((xTe (μ.1 50 21)) && e4))), (0, .ref 50), (1, .int ru)]) (st' := [.int 1]) (by rfl) ?_
                      exact zJ hJ13 rfl (by simp only [h64, h65, lb_f, Int64.or_zero, nB_t, nB_f, Bool.not_true, Bool.not_false, Bool.and_true, Bool.true_and, Bool.false_and, Bool.and_false, Bool.or_true, Bool.true_or, Bool.false_or, Bool.or_false, cond_true, cond_false]) rfl
                refine zq_if hc hH (by rfl) (tg := 126) (by rfl) (fun h66 => ?_) (fun h66 => ?_)
                · have h66 : ((xEn (μ.1 50 21)) && e2) = false := nB_z.mp (cm_eq9.mp h66)
                  refine z_rcs0 hc hH 1 (pc' := 127) (lv' := [(8, .int (nB e11)), (7, .int (nB e9)), (6, .int (μ.1 57 1)), (5, .int 1), (4, .int (nB ((xHo (μ.1 50 21)) || (xHo (μ.1 57 0))))), (3, .int (nB ((xTe (μ.1 50 21)) && e4))), (2, .int (nB ((xEn (μ.1 50 21)) && e2))), (0, .ref 50), (1, .int ru)]) (st' := [.int 0]) (by rfl) ?_
                  exact zJ hJ12 rfl (by simp only [h66, lb_f, Int64.or_zero, nB_t, nB_f, Bool.not_true, Bool.not_false, Bool.and_true, Bool.true_and, Bool.false_and, Bool.and_false, Bool.or_true, Bool.true_or, Bool.false_or, Bool.or_false, cond_true, cond_false]) rfl
                · have h66 : ((xEn (μ.1 50 21)) && e2) = true := nB_n.mp (cn_eq.mp h66)
                  refine z_rcs0 hc hH 1 (pc' := 119) (lv' := [(8, .int (nB e11)), (7, .int (nB e9)), (6, .int (μ.1 57 1)), (5, .int 1), (4, .int (nB ((xHo (μ.1 50 21)) || (xHo (μ.1 57 0))))), (3, .int (nB ((xTe (μ.1 50 21)) && e4))), (2, .int (nB ((xEn (μ.1 50 21)) && e2))), (0, .ref 50), (1, .int ru)]) (st' := [.int (nB e9)]) (by rfl) ?_
                  refine zq_if hc hH (by rfl) (tg := 126) (by rfl) (fun h67 => ?_) (fun h67 => ?_)
                  · have h67 : (e9) = false := nB_z.mp (cm_eq9.mp h67)
                    refine z_rcs0 hc hH 1 (pc' := 127) (lv' := [(8, .int (nB e11)), (7, .int (nB e9)), (6, .int (μ.1 57 1)), (5, .int 1), (4, .int (nB ((xHo (μ.1 50 21)) || (xHo (μ.1 57 0))))), (3, .int (nB ((xTe (μ.1 50 21)) && e4))), (2, .int (nB ((xEn (μ.1 50 21)) && e2))), (0, .ref 50), (1, .int ru)]) (st' := [.int 0]) (by rfl) ?_
                    exact zJ hJ12 rfl (by simp only [h66, h67, lb_f, Int64.or_zero, nB_t, nB_f, Bool.not_true, Bool.not_false, Bool.and_true, Bool.true_and, Bool.false_and, Bool.and_false, Bool.or_true, Bool.true_or, Bool.false_or, Bool.or_false, cond_true, cond_false]) rfl
                  · have h67 : (e9) = true := nB_n.mp (cn_eq.mp h67)
                    refine z_rcs0 hc hH 2 (pc' := 127) (lv' := [(8, .int (nB e11)), (7, .int (nB e9)), (6, .int (μ.1 57 1)), (5, .int 1), (4, .int (nB ((xHo (μ.1 50 21)) || (xHo (μ.1 57 0))))), (3, .int (nB ((xTe (μ.1 50 21)) && e4))), (2, .int (nB ((xEn (μ.1 50 21)) && e2))), (0, .ref 50), (1, .int ru)]) (st' := [.int 1]) (by rfl) ?_
                    exact zJ hJ12 rfl (by simp only [h66, h67, lb_f, Int64.or_zero, nB_t, nB_f, Bool.not_true, Bool.not_false, Bool.and_true, Bool.true_and, Bool.false_and, Bool.and_false, Bool.or_true, Bool.true_or, Bool.false_or, Bool.or_false, cond_true, cond_false]) rfl
              refine zq_if hc hH (by rfl) (tg := 106) (by rfl) (fun h68 => ?_) (fun h68 => ?_)
              · have h68 : (xTe (μ.1 57 1)) = true := nB_n.mp (cm_ne.mp h68)
                refine z_rcs0 hc hH 2 (pc' := 111) (lv' := [(7, .int (nB e9)), (6, .int (μ.1 57 1)), (5, .int 1), (4, .int (nB ((xHo (μ.1 50 21)) || (xHo (μ.1 57 0))))), (3, .int (nB ((xTe (μ.1 50 21)) && e4))), (2, .int (nB ((xEn (μ.1 50 21)) && e2))), (8, .int (nB e4)), (0, .ref 50), (1, .int ru)]) (st' := [.int 1]) (by rfl) ?_
                exact zJ hJ10 rfl (by simp only [h68, lb_f, Int64.or_zero, nB_t, nB_f, Bool.not_true, Bool.not_false, Bool.and_true, Bool.true_and, Bool.false_and, Bool.and_false, Bool.or_true, Bool.true_or, Bool.false_or, Bool.or_false, cond_true, cond_false]) rfl
              · have h68 : (xTe (μ.1 57 1)) = false := nB_z.mp (cn_ne.mp h68)
                refine z_rcs0 hc hH 3 (pc' := 92) (lv' := [(7, .int (nB e9)), (6, .int (μ.1 57 1)), (5, .int 1), (4, .int (nB ((xHo (μ.1 50 21)) || (xHo (μ.1 57 0))))), (3, .int (nB ((xTe (μ.1 50 21)) && e4))), (2, .int (nB ((xEn (μ.1 50 21)) && e2))), (8, .int (nB e4)), (0, .ref 50), (1, .int ru)]) (st' := [.int 1, .ref 56]) (by rfl) ?_
                refine zq_iald hc hH (by rfl) 4 (by decide +kernel) (show vp_in (nI 1) 4 from vp_in_nI (by decide) (by decide)) ?_
                show Z 0 93 [(7, .int (nB e9)), (6, .int (μ.1 57 1)), (5, .int 1), (4, .int (nB ((xHo (μ.1 50 21)) || (xHo (μ.1 57 0))))), (3, .int (nB ((xTe (μ.1 50 21)) && e4))), (2, .int (nB ((xEn (μ.1 50 21)) && e2))), (8, .int (nB e4)), (0, .ref 50), (1, .int ru)] [.int (μ.1 56 1)] _
                refine zq_if hc hH (by rfl) (tg := 110) (by rfl) (fun h69 => ?_) (fun h69 => ?_)
                · have h69 : (decide ((μ.1 56 1) = 0)) = false := decide_eq_false (cm_ne.mp h69)
                  refine z_rcs0 hc hH 1 (pc' := 111) (lv' := [(7, .int (nB e9)), (6, .int (μ.1 57 1)), (5, .int 1), (4, .int (nB ((xHo (μ.1 50 21)) || (xHo (μ.1 57 0))))), (3, .int (nB ((xTe (μ.1 50 21)) && e4))), (2, .int (nB ((xEn (μ.1 50 21)) && e2))), (8, .int (nB e4)), (0, .ref 50), (1, .int ru)]) (st' := [.int 0]) (by rfl) ?_
                  exact zJ hJ10 rfl (by simp only [h68, h69, lb_f, Int64.or_zero, nB_t, nB_f, Bool.not_true, Bool.not_false, Bool.and_true, Bool.true_and, Bool.false_and, Bool.and_false, Bool.or_true, Bool.true_or, Bool.false_or, Bool.or_false, cond_true, cond_false]) rfl
                · have h69 : (decide ((μ.1 56 1) = 0)) = true := decide_eq_true (cn_ne.mp h69)
                  refine z_rcs0 hc hH 3 (pc' := 100) (lv' := [(7, .int (nB e9)), (6, .int (μ.1 57 1)), (5, .int 1), (4, .int (nB ((xHo (μ.1 50 21)) || (xHo (μ.1 57 0))))), (3, .int (nB ((xTe (μ.1 50 21)) && e4))), (2, .int (nB ((xEn (μ.1 50 21)) && e2))), (8, .int (nB e4)), (0, .ref 50), (1, .int ru)]) (st' := [.int ((μ.1 57 1) + 2)]) (by rfl) ?_
                  refine zq_call hc (z_cx_ok hH (by rfl)) (fb_X7_isTerminal d' (by omega) (mGP μ (μ.2.1 50 24) (μ.2.1 50 25) (μ.1 50 23)) ((μ.1 57 1) + 2)) (by decide +kernel) (fun r9 μ9 hq => ?_)
                  obtain ⟨hμ9, rfl⟩ := hq
                  rw [hμ9]
                  clear hμ9 μ9
                  show Z 0 103 [(7, .int (nB e9)), (6, .int (μ.1 57 1)), (5, .int 1), (4, .int (nB ((xHo (μ.1 50 21)) || (xHo (μ.1 57 0))))), (3, .int (nB ((xTe (μ.1 50 21)) && e4))), (2, .int (nB ((xEn (μ.1 50 21)) && e2))), (8, .int (nB e4)), (0, .ref 50), (1, .int ru)] [.int (nB (xTe ((μ.1 57 1) + 2)))] _
                  refine zq_if hc hH (by rfl) (tg := 110) (by rfl) (fun h70 => ?_) (fun h70 => ?_)
                  · have h70 : (xTe ((μ.1 57 1) + 2)) = false := nB_z.mp (cm_eq9.mp h70)
                    refine z_rcs0 hc hH 1 (pc' := 111) (lv' := [(7, .int (nB e9)), (6, .int (μ.1 57 1)), (5, .int 1), (4, .int (nB ((xHo (μ.1 50 21)) || (xHo (μ.1 57 0))))), (3, .int (nB ((xTe (μ.1 50 21)) && e4))), (2, .int (nB ((xEn (μ.1 50 21)) && e2))), (8, .int (nB e4)), (0, .ref 50), (1, .int ru)]) (st' := [.int 0]) (by rfl) ?_
                    exact zJ hJ10 rfl (by simp only [h68, h69, h70, lb_f, Int64.or_zero, nB_t, nB_f, Bool.not_true, Bool.not_false, Bool.and_true, Bool.true_and, Bool.false_and, Bool.and_false, Bool.or_true, Bool.true_or, Bool.false_or, Bool.or_false, cond_true, cond_false]) rfl
                  · have h70 : (xTe ((μ.1 57 1) + 2)) = true := nB_n.mp (cn_eq.mp h70)
                    refine z_rcs0 hc hH 2 (pc' := 111) (lv' := [(7, .int (nB e9)), (6, .int (μ.1 57 1)), (5, .int 1), (4, .int (nB ((xHo (μ.1 50 21)) || (xHo (μ.1 57 0))))), (3, .int (nB ((xTe (μ.1 50 21)) && e4))), (2, .int (nB ((xEn (μ.1 50 21)) && e2))), (8, .int (nB e4)), (0, .ref 50), (1, .int ru)]) (st' := [.int 1]) (by rfl) ?_
                    exact zJ hJ10 rfl (by simp only [h68, h69, h70, lb_f, Int64.or_zero, nB_t, nB_f, Bool.not_true, Bool.not_false, Bool.and_true, Bool.true_and, Bool.false_and, Bool.and_false, Bool.or_true, Bool.true_or, Bool.false_or, Bool.or_false, cond_true, cond_false]) rfl
            refine zq_if hc hH (by rfl) (tg := 71) (by rfl) (fun h71 => ?_) (fun h71 => ?_)
            · have h71 : (xEn (μ.1 57 1)) = true := nB_n.mp (cm_ne.mp h71)
              refine z_rcs0 hc hH 2 (pc' := 76) (lv' := [(6, .int (μ.1 57 1)), (5, .int 1), (4, .int (nB ((xHo (μ.1 50 21)) || (xHo (μ.1 57 0))))), (3, .int (nB ((xTe (μ.1 50 21)) && e4))), (2, .int (nB ((xEn (μ.1 50 21)) && e2))), (8, .int (nB e4)), (7, .int (nB e2)), (0, .ref 50), (1, .int ru)]) (st' := [.int 1]) (by rfl) ?_
              exact zJ hJ8 rfl (by simp only [h71, lb_f, Int64.or_zero, nB_t, nB_f, Bool.not_true, Bool.not_false, Bool.and_true, Bool.true_and, Bool.false_and, Bool.and_false, Bool.or_true, Bool.true_or, Bool.false_or, Bool.or_false, cond_true, cond_false]) rfl
            · have h71 : (xEn (μ.1 57 1)) = false := nB_z.mp (cn_ne.mp h71)
              refine z_rcs0 hc hH 3 (pc' := 57) (lv' := [(6, .int (μ.1 57 1)), (5, .int 1), (4, .int (nB ((xHo (μ.1 50 21)) || (xHo (μ.1 57 0))))), (3, .int (nB ((xTe (μ.1 50 21)) && e4))), (2, .int (nB ((xEn (μ.1 50 21)) && e2))), (8, .int (nB e4)), (7, .int (nB e2)), (0, .ref 50), (1, .int ru)]) (st' := [.int 1, .ref 56]) (by rfl) ?_
              refine zq_iald hc hH (by rfl) 4 (by decide +kernel) (show vp_in (nI 1) 4 from vp_in_nI (by decide) (by decide)) ?_
              show Z 0 58 [(6, .int (μ.1 57 1)), (5, .int 1), (4, .int (nB ((xHo (μ.1 50 21)) || (xHo (μ.1 57 0))))), (3, .int (nB ((xTe (μ.1 50 21)) && e4))), (2, .int (nB ((xEn (μ.1 50 21)) && e2))), (8, .int (nB e4)), (7, .int (nB e2)), (0, .ref 50), (1, .int ru)] [.int (μ.1 56 1)] _
              refine zq_if hc hH (by rfl) (tg := 75) (by rfl) (fun h72 => ?_) (fun h72 => ?_)
              · have h72 : (decide ((μ.1 56 1) = 0)) = false := decide_eq_false (cm_ne.mp h72)
                refine z_rcs0 hc hH 1 (pc' := 76) (lv' := [(6, .int (μ.1 57 1)), (5, .int 1), (4, .int (nB ((xHo (μ.1 50 21)) || (xHo (μ.1 57 0))))), (3, .int (nB ((xTe (μ.1 50 21)) && e4))), (2, .int (nB ((xEn (μ.1 50 21)) && e2))), (8, .int (nB e4)), (7, .int (nB e2)), (0, .ref 50), (1, .int ru)]) (st' := [.int 0]) (by rfl) ?_
                exact zJ hJ8 rfl (by simp only [h71, h72, lb_f, Int64.or_zero, nB_t, nB_f, Bool.not_true, Bool.not_false, Bool.and_true, Bool.true_and, Bool.false_and, Bool.and_false, Bool.or_true, Bool.true_or, Bool.false_or, Bool.or_false, cond_true, cond_false]) rfl
              · have h72 : (decide ((μ.1 56 1) = 0)) = true := decide_eq_true (cn_ne.mp h72)
                refine z_rcs0 hc hH 3 (pc' := 65) (lv' := [(6, .int (μ.1 57 1)), (5, .int 1), (4, .int (nB ((xHo (μ.1 50 21)) || (xHo (μ.1 57 0))))), (3, .int (nB ((xTe (μ.1 50 21)) && e4))), (2, .int (nB ((xEn (μ.1 50 21)) && e2))), (8, .int (nB e4)), (7, .int (nB e2)), (0, .ref 50), (1, .int ru)]) (st' := [.int ((μ.1 57 1) + 2)]) (by rfl) ?_
                refine zq_call hc (z_cx_ok hH (by rfl)) (fb_X7_isEnd d' (by omega) (mGP μ (μ.2.1 50 24) (μ.2.1 50 25) (μ.1 50 23)) ((μ.1 57 1) + 2)) (by decide +kernel) (fun r9 μ9 hq => ?_)
                obtain ⟨hμ9, rfl⟩ := hq
                rw [hμ9]
                clear hμ9 μ9
                show Z 0 68 [(6, .int (μ.1 57 1)), (5, .int 1), (4, .int (nB ((xHo (μ.1 50 21)) || (xHo (μ.1 57 0))))), (3, .int (nB ((xTe (μ.1 50 21)) && e4))), (2, .int (nB ((xEn (μ.1 50 21)) && e2))), (8, .int (nB e4)), (7, .int (nB e2)), (0, .ref 50), (1, .int ru)] [.int (nB (xEn ((μ.1 57 1) + 2)))] _
                refine zq_if hc hH (by rfl) (tg := 75) (by rfl) (fun h73 => ?_) (fun h73 => ?_)
                · have h73 : (xEn ((μ.1 57 1) + 2)) = false := nB_z.mp (cm_eq9.mp h73)
                  refine z_rcs0 hc hH 1 (pc' := 76) (lv' := [(6, .int (μ.1 57 1)), (5, .int 1), (4, .int (nB ((xHo (μ.1 50 21)) || (xHo (μ.1 57 0))))), (3, .int (nB ((xTe (μ.1 50 21)) && e4))), (2, .int (nB ((xEn (μ.1 50 21)) && e2))), (8, .int (nB e4)), (7, .int (nB e2)), (0, .ref 50), (1, .int ru)]) (st' := [.int 0]) (by rfl) ?_
                  exact zJ hJ8 rfl (by simp only [h71, h72, h73, lb_f, Int64.or_zero, nB_t, nB_f, Bool.not_true, Bool.not_false, Bool.and_true, Bool.true_and, Bool.false_and, Bool.and_false, Bool.or_true, Bool.true_or, Bool.false_or, Bool.or_false, cond_true, cond_false]) rfl
                · have h73 : (xEn ((μ.1 57 1) + 2)) = true := nB_n.mp (cn_eq.mp h73)
                  refine z_rcs0 hc hH 2 (pc' := 76) (lv' := [(6, .int (μ.1 57 1)), (5, .int 1), (4, .int (nB ((xHo (μ.1 50 21)) || (xHo (μ.1 57 0))))), (3, .int (nB ((xTe (μ.1 50 21)) && e4))), (2, .int (nB ((xEn (μ.1 50 21)) && e2))), (8, .int (nB e4)), (7, .int (nB e2)), (0, .ref 50), (1, .int ru)]) (st' := [.int 1]) (by rfl) ?_
                  exact zJ hJ8 rfl (by simp only [h71, h72, h73, lb_f, Int64.or_zero, nB_t, nB_f, Bool.not_true, Bool.not_false, Bool.and_true, Bool.true_and, Bool.false_and, Bool.and_false, Bool.or_true, Bool.true_or, Bool.false_or, Bool.or_false, cond_true, cond_false]) rfl
          refine zq_if hc hH (by rfl) (tg := 156) (by rfl) (fun h74 => ?_) (fun h74 => ?_)
          · have h74 : (xHo (μ.1 50 21)) = true := nB_n.mp (cm_ne.mp h74)
            refine z_rcs0 hc hH 2 (pc' := 161) (lv' := [(3, .int (nB ((xTe (μ.1 50 21)) && e4))), (2, .int (nB ((xEn (μ.1 50 21)) && e2))), (8, .int (nB e4)), (7, .int (nB e2)), (6, .int (μ.1 57 0)), (5, .int 0), (4, .int (nB (xHo (μ.1 50 21)))), (0, .ref 50), (1, .int ru)]) (st' := [.int 1]) (by rfl) ?_
            exact zJ hJ7 rfl (by simp only [h74, lb_f, Int64.or_zero, nB_t, nB_f, Bool.not_true, Bool.not_false, Bool.and_true, Bool.true_and, Bool.false_and, Bool.and_false, Bool.or_true, Bool.true_or, Bool.false_or, Bool.or_false, cond_true, cond_false]) rfl
          · have h74 : (xHo (μ.1 50 21)) = false := nB_z.mp (cn_ne.mp h74)
            refine z_rcs0 hc hH 1 (pc' := 150) (lv' := [(3, .int (nB ((xTe (μ.1 50 21)) && e4))), (2, .int (nB ((xEn (μ.1 50 21)) && e2))), (8, .int (nB e4)), (7, .int (nB e2)), (6, .int (μ.1 57 0)), (5, .int 0), (4, .int (nB (xHo (μ.1 50 21)))), (0, .ref 50), (1, .int ru)]) (st' := [.int (μ.1 57 0)]) (by rfl) ?_
            refine zq_call hc (z_cx_ok hH (by rfl)) (fb_X7_isHonour d' (by omega) (mGP μ (μ.2.1 50 24) (μ.2.1 50 25) (μ.1 50 23)) (μ.1 57 0)) (by decide +kernel) (fun r9 μ9 hq => ?_)
            obtain ⟨hμ9, rfl⟩ := hq
            rw [hμ9]
            clear hμ9 μ9
            show Z 0 153 [(3, .int (nB ((xTe (μ.1 50 21)) && e4))), (2, .int (nB ((xEn (μ.1 50 21)) && e2))), (8, .int (nB e4)), (7, .int (nB e2)), (6, .int (μ.1 57 0)), (5, .int 0), (4, .int (nB (xHo (μ.1 50 21)))), (0, .ref 50), (1, .int ru)] [.int (nB (xHo (μ.1 57 0)))] _
            refine zq_if hc hH (by rfl) (tg := 160) (by rfl) (fun h75 => ?_) (fun h75 => ?_)
            · have h75 : (xHo (μ.1 57 0)) = false := nB_z.mp (cm_eq9.mp h75)
              refine z_rcs0 hc hH 1 (pc' := 161) (lv' := [(3, .int (nB ((xTe (μ.1 50 21)) && e4))), (2, .int (nB ((xEn (μ.1 50 21)) && e2))), (8, .int (nB e4)), (7, .int (nB e2)), (6, .int (μ.1 57 0)), (5, .int 0), (4, .int (nB (xHo (μ.1 50 21)))), (0, .ref 50), (1, .int ru)]) (st' := [.int 0]) (by rfl) ?_
              exact zJ hJ7 rfl (by simp only [h74, h75, lb_f, Int64.or_zero, nB_t, nB_f, Bool.not_true, Bool.not_false, Bool.and_true, Bool.true_and, Bool.false_and, Bool.and_false, Bool.or_true, Bool.true_or, Bool.false_or, Bool.or_false, cond_true, cond_false]) rfl
            · have h75 : (xHo (μ.1 57 0)) = true := nB_n.mp (cn_eq.mp h75)
              refine z_rcs0 hc hH 2 (pc' := 161) (lv' := [(3, .int (nB ((xTe (μ.1 50 21)) && e4))), (2, .int (nB ((xEn (μ.1 50 21)) && e2))), (8, .int (nB e4)), (7, .int (nB e2)), (6, .int (μ.1 57 0)), (5, .int 0), (4, .int (nB (xHo (μ.1 50 21)))), (0, .ref 50), (1, .int ru)]) (st' := [.int 1]) (by rfl) ?_
              exact zJ hJ7 rfl (by simp only [h74, h75, lb_f, Int64.or_zero, nB_t, nB_f, Bool.not_true, Bool.not_false, Bool.and_true, Bool.true_and, Bool.false_and, Bool.and_false, Bool.or_true, Bool.true_or, Bool.false_or, Bool.or_false, cond_true, cond_false]) rfl
        refine zq_if hc hH (by rfl) (tg := 141) (by rfl) (fun h76 => ?_) (fun h76 => ?_)
        · have h76 : (xTe (μ.1 50 21)) = false := nB_z.mp (cm_eq9.mp h76)
          refine z_rcs0 hc hH 1 (pc' := 142) (lv' := [(2, .int (nB ((xEn (μ.1 50 21)) && e2))), (8, .int (nB e4)), (7, .int (nB e2)), (6, .int (μ.1 57 0)), (5, .int 0), (4, .int (nB (xHo (μ.1 50 21)))), (3, .int (nB (xTe (μ.1 50 21)))), (0, .ref 50), (1, .int ru)]) (st' := [.int 0]) (by rfl) ?_
          exact zJ hJ6 rfl (by simp only [h76, lb_f, Int64.or_zero, nB_t, nB_f, Bool.not_true, Bool.not_false, Bool.and_true, Bool.true_and, Bool.false_and, Bool.and_false, Bool.or_true, Bool.true_or, Bool.false_or, Bool.or_false, cond_true, cond_false]) rfl
        · have h76 : (xTe (μ.1 50 21)) = true := nB_n.mp (cn_eq.mp h76)
          refine z_rcs0 hc hH 1 (pc' := 134) (lv' := [(2, .int (nB ((xEn (μ.1 50 21)) && e2))), (8, .int (nB e4)), (7, .int (nB e2)), (6, .int (μ.1 57 0)), (5, .int 0), (4, .int (nB (xHo (μ.1 50 21)))), (3, .int (nB (xTe (μ.1 50 21)))), (0, .ref 50), (1, .int ru)]) (st' := [.int (nB e4)]) (by rfl) ?_
          refine zq_if hc hH (by rfl) (tg := 141) (by rfl) (fun h77 => ?_) (fun h77 => ?_)
          · have h77 : (e4) = false := nB_z.mp (cm_eq9.mp h77)
            refine z_rcs0 hc hH 1 (pc' := 142) (lv' := [(2, .int (nB ((xEn (μ.1 50 21)) && e2))), (8, .int (nB e4)), (7, .int (nB e2)), (6, .int (μ.1 57 0)), (5, .int 0), (4, .int (nB (xHo (μ.1 50 21)))), (3, .int (nB (xTe (μ.1 50 21)))), (0, .ref 50), (1, .int ru)]) (st' := [.int 0]) (by rfl) ?_
            exact zJ hJ6 rfl (by simp only [h76, h77, lb_f, Int64.or_zero, nB_t, nB_f, Bool.not_true, Bool.not_false, Bool.and_true, Bool.true_and, Bool.false_and, Bool.and_false, Bool.or_true, Bool.true_or, Bool.false_or, Bool.or_false, cond_true, cond_false]) rfl
          · have h77 : (e4) = true := nB_n.mp (cn_eq.mp h77)
            refine z_rcs0 hc hH 2 (pc' := 142) (lv' := [(2, .int (nB ((xEn (μ.1 50 21)) && e2))), (8, .int (nB e4)), (7, .int (nB e2)), (6, .int (μ.1 57 0)), (5, .int 0), (4, .int (nB (xHo (μ.1 50 21)))), (3, .int (nB (xTe (μ.1 50 21)))), (0, .ref 50), (1, .int ru)]) (st' := [.int 1]) (by rfl) ?_
            exact zJ hJ6 rfl (by simp only [h76, h77, lb_f, Int64.or_zero, nB_t, nB_f, Bool.not_true, Bool.not_false, Bool.and_true, Bool.true_and, Bool.false_and, Bool.and_false, Bool.or_true, Bool.true_or, Bool.false_or, Bool.or_false, cond_true, cond_false]) rfl
      refine zq_if hc hH (by rfl) (tg := 126) (by rfl) (fun h78 => ?_) (fun h78 => ?_)
      · have h78 : (xEn (μ.1 50 21)) = false := nB_z.mp (cm_eq9.mp h78)
        refine z_rcs0 hc hH 1 (pc' := 127) (lv' := [(8, .int (nB e4)), (7, .int (nB e2)), (6, .int (μ.1 57 0)), (5, .int 0), (4, .int (nB (xHo (μ.1 50 21)))), (3, .int (nB (xTe (μ.1 50 21)))), (2, .int (nB (xEn (μ.1 50 21)))), (0, .ref 50), (1, .int ru)]) (st' := [.int 0]) (by rfl) ?_
        exact zJ hJ5 rfl (by simp only [h78, lb_f, Int64.or_zero, nB_t, nB_f, Bool.not_true, Bool.not_false, Bool.and_true, Bool.true_and, Bool.false_and, Bool.and_false, Bool.or_true, Bool.true_or, Bool.false_or, Bool.or_false, cond_true, cond_false]) rfl
      · have h78 : (xEn (μ.1 50 21)) = true := nB_n.mp (cn_eq.mp h78)
        refine z_rcs0 hc hH 1 (pc' := 119) (lv' := [(8, .int (nB e4)), (7, .int (nB e2)), (6, .int (μ.1 57 0)), (5, .int 0), (4, .int (nB (xHo (μ.1 50 21)))), (3, .int (nB (xTe (μ.1 50 21)))), (2, .int (nB (xEn (μ.1 50 21)))), (0, .ref 50), (1, .int ru)]) (st' := [.int (nB e2)]) (by rfl) ?_
        refine zq_if hc hH (by rfl) (tg := 126) (by rfl) (fun h79 => ?_) (fun h79 => ?_)
        · have h79 : (e2) = false := nB_z.mp (cm_eq9.mp h79)
          refine z_rcs0 hc hH 1 (pc' := 127) (lv' := [(8, .int (nB e4)), (7, .int (nB e2)), (6, .int (μ.1 57 0)), (5, .int 0), (4, .int (nB (xHo (μ.1 50 21)))), (3, .int (nB (xTe (μ.1 50 21)))), (2, .int (nB (xEn (μ.1 50 21)))), (0, .ref 50), (1, .int ru)]) (st' := [.int 0]) (by rfl) ?_
          exact zJ hJ5 rfl (by simp only [h78, h79, lb_f, Int64.or_zero, nB_t, nB_f, Bool.not_true, Bool.not_false, Bool.and_true, Bool.true_and, Bool.false_and, Bool.and_false, Bool.or_true, Bool.true_or, Bool.false_or, Bool.or_false, cond_true, cond_false]) rfl
        · have h79 : (e2) = true := nB_n.mp (cn_eq.mp h79)
          refine z_rcs0 hc hH 2 (pc' := 127) (lv' := [(8, .int (nB e4)), (7, .int (nB e2)), (6, .int (μ.1 57 0)), (5, .int 0), (4, .int (nB (xHo (μ.1 50 21)))), (3, .int (nB (xTe (μ.1 50 21)))), (2, .int (nB (xEn (μ.1 50 21)))), (0, .ref 50), (1, .int ru)]) (st' := [.int 1]) (by rfl) ?_
          exact zJ hJ5 rfl (by simp only [h78, h79, lb_f, Int64.or_zero, nB_t, nB_f, Bool.not_true, Bool.not_false, Bool.and_true, Bool.true_and, Bool.false_and, Bool.and_false, Bool.or_true, Bool.true_or, Bool.false_or, Bool.or_false, cond_true, cond_false]) rfl
    refine zq_if hc hH (by rfl) (tg := 106) (by rfl) (fun h80 => ?_) (fun h80 => ?_)
    · have h80 : (xTe (μ.1 57 0)) = true := nB_n.mp (cm_ne.mp h80)
      refine z_rcs0 hc hH 2 (pc' := 111) (lv' := [(7, .int (nB e2)), (6, .int (μ.1 57 0)), (5, .int 0), (4, .int (nB (xHo (μ.1 50 21)))), (3, .int (nB (xTe (μ.1 50 21)))), (2, .int (nB (xEn (μ.1 50 21)))), (0, .ref 50), (1, .int ru)]) (st' := [.int 1]) (by rfl) ?_
      exact zJ hJ3 rfl (by simp only [h80, lb_f, Int64.or_zero, nB_t, nB_f, Bool.not_true, Bool.not_false, Bool.and_true, Bool.true_and, Bool.false_and, Bool.and_false, Bool.or_true, Bool.true_or, Bool.false_or, Bool.or_false, cond_true, cond_false]) rfl
    · have h80 : (xTe (μ.1 57 0)) = false := nB_z.mp (cn_ne.mp h80)
      refine z_rcs0 hc hH 3 (pc' := 92) (lv' := [(7, .int (nB e2)), (6, .int (μ.1 57 0)), (5, .int 0), (4, .int (nB (xHo (μ.1 50 21)))), (3, .int (nB (xTe (μ.1 50 21)))), (2, .int (nB (xEn (μ.1 50 21)))), (0, .ref 50), (1, .int ru)]) (st' := [.int 0, .ref 56]) (by rfl) ?_
      refine zq_iald hc hH (by rfl) 4 (by decide +kernel) (show vp_in (nI 0) 4 from vp_in_nI (by decide) (by decide)) ?_
      show Z 0 93 [(7, .int (nB e2)), (6, .int (μ.1 57 0)), (5, .int 0), (4, .int (nB (xHo (μ.1 50 21)))), (3, .int (nB (xTe (μ.1 50 21)))), (2, .int (nB (xEn (μ.1 50 21)))), (0, .ref 50), (1, .int ru)] [.int (μ.1 56 0)] _
      refine zq_if hc hH (by rfl) (tg := 110) (by rfl) (fun h81 => ?_) (fun h81 => ?_)
      · have h81 : (decide ((μ.1 56 0) = 0)) = false := decide_eq_false (cm_ne.mp h81)
        refine z_rcs0 hc hH 1 (pc' := 111) (lv' := [(7, .int (nB e2)), (6, .int (μ.1 57 0)), (5, .int 0), (4, .int (nB (xHo (μ.1 50 21)))), (3, .int (nB (xTe (μ.1 50 21)))), (2, .int (nB (xEn (μ.1 50 21)))), (0, .ref 50), (1, .int ru)]) (st' := [.int 0]) (by rfl) ?_
        exact zJ hJ3 rfl (by simp only [h80, h81, lb_f, Int64.or_zero, nB_t, nB_f, Bool.not_true, Bool.not_false, Bool.and_true, Bool.true_and, Bool.false_and, Bool.and_false, Bool.or_true, Bool.true_or, Bool.false_or, Bool.or_false, cond_true, cond_false]) rfl
      · have h81 : (decide ((μ.1 56 0) = 0)) = true := decide_eq_true (cn_ne.mp h81)
        refine z_rcs0 hc hH 3 (pc' := 100) (lv' := [(7, .int (nB e2)), (6, .int (μ.1 57 0)), (5, .int 0), (4, .int (nB (xHo (μ.1 50 21)))), (3, .int (nB (xTe (μ.1 50 21)))), (2, .int (nB (xEn (μ.1 50 21)))), (0, .ref 50), (1, .int ru)]) (st' := [.int ((μ.1 57 0) + 2)]) (by rfl) ?_
        refine zq_call hc (z_cx_ok hH (by rfl)) (fb_X7_isTerminal d' (by omega) (mGP μ (μ.2.1 50 24) (μ.2.1 50 25) (μ.1 50 23)) ((μ.1 57 0) + 2)) (by decide +kernel) (fun r9 μ9 hq => ?_)
        obtain ⟨hμ9, rfl⟩ := hq
        rw [hμ9]
        clear hμ9 μ9
        show Z 0 103 [(7, .int (nB e2)), (6, .int (μ.1 57 0)), (5, .int 0), (4, .int (nB (xHo (μ.1 50 21)))), (3, .int (nB (xTe (μ.1 50 21)))), (2, .int (nB (xEn (μ.1 50 21)))), (0, .ref 50), (1, .int ru)] [.int (nB (xTe ((μ.1 57 0) + 2)))] _
        refine zq_if hc hH (by rfl) (tg := 110) (by rfl) (fun h82 => ?_) (fun h82 => ?_)
        · have h82 : (xTe ((μ.1 57 0) + 2)) = false := nB_z.mp (cm_eq9.mp h82)
          refine z_rcs0 hc hH 1 (pc' := 111) (lv' := [(7, .int (nB e2)), (6, .int (μ.1 57 0)), (5, .int 0), (4, .int (nB (xHo (μ.1 50 21)))), (3, .int (nB (xTe (μ.1 50 21)))), (2, .int (nB (xEn (μ.1 50 21)))), (0, .ref 50), (1, .int ru)]) (st' := [.int 0]) (by rfl) ?_
          exact zJ hJ3 rfl (by simp only [h80, h81, h82, lb_f, Int64.or_zero, nB_t, nB_f, Bool.not_true, Bool.not_false, Bool.and_true, Bool.true_and, Bool.false_and, Bool.and_false, Bool.or_true, Bool.true_or, Bool.false_or, Bool.or_false, cond_true, cond_false]) rfl
        · have h82 : (xTe ((μ.1 57 0) + 2)) = true := nB_n.mp (cn_eq.mp h82)
          refine z_rcs0 hc hH 2 (pc' := 111) (lv' := [(7, .int (nB e2)), (6, .int (μ.1 57 0)), (5, .int 0), (4, .int (nB (xHo (μ.1 50 21)))), (3, .int (nB (xTe (μ.1 50 21)))), (2, .int (nB (xEn (μ.1 50 21)))), (0, .ref 50), (1, .int ru)]) (st' := [.int 1]) (by rfl) ?_
          exact zJ hJ3 rfl (by simp only [h80, h81, h82, lb_f, Int64.or_zero, nB_t, nB_f, Bool.not_true, Bool.not_false, Bool.and_true, Bool.true_and, Bool.false_and, Bool.and_false, Bool.or_true, Bool.true_or, Bool.false_or, Bool.or_false, cond_true, cond_false]) rfl
  refine zq_if hc hH (by rfl) (tg := 71) (by rfl) (fun h83 => ?_) (fun h83 => ?_)
  · have h83 : (xEn (μ.1 57 0)) = true := nB_n.mp (cm_ne.mp h83)
    refine z_rcs0 hc hH 2 (pc' := 76) (lv' := [(6, .int (μ.1 57 0)), (5, .int 0), (4, .int (nB (xHo (μ.1 50 21)))), (3, .int (nB (xTe (μ.1 50 21)))), (2, .int (nB (xEn (μ.1 50 21)))), (0, .ref 50), (1, .int ru)]) (st' := [.int 1]) (by rfl) ?_
    exact zJ hJ1 rfl (by simp only [h83, lb_f, Int64.or_zero, nB_t, nB_f, Bool.not_true, Bool.not_false, Bool.and_true, Bool.true_and, Bool.false_and, Bool.and_false, Bool.or_true, Bool.true_or, Bool.false_or, Bool.or_false, cond_true, cond_false]) rfl
  · have h83 : (xEn (μ.1 57 0)) = false := nB_z.mp (cn_ne.mp h83)
    refine z_rcs0 hc hH 3 (pc' := 57) (lv' := [(6, .int (μ.1 57 0)), (5, .int 0), (4, .int (nB (xHo (μ.1 50 21)))), (3, .int (nB (xTe (μ.1 50 21)))), (2, .int (nB (xEn (μ.1 50 21)))), (0, .ref 50), (1, .int ru)]) (st' := [.int 0, .ref 56]) (by rfl) ?_
    refine zq_iald hc hH (by rfl) 4 (by decide +kernel) (show vp_in (nI 0) 4 from vp_in_nI (by decide) (by decide)) ?_
    show Z 0 58 [(6, .int (μ.1 57 0)), (5, .int 0), (4, .int (nB (xHo (μ.1 50 21)))), (3, .int (nB (xTe (μ.1 50 21)))), (2, .int (nB (xEn (μ.1 50 21)))), (0, .ref 50), (1, .int ru)] [.int (μ.1 56 0)] _
    refine zq_if hc hH (by rfl) (tg := 75) (by rfl) (fun h84 => ?_) (fun h84 => ?_)
    · have h84 : (decide ((μ.1 56 0) = 0)) = false := decide_eq_false (cm_ne.mp h84)
      refine z_rcs0 hc hH 1 (pc' := 76) (lv' := [(6, .int (μ.1 57 0)), (5, .int 0), (4, .int (nB (xHo (μ.1 50 21)))), (3, .int (nB (xTe (μ.1 50 21)))), (2, .int (nB (xEn (μ.1 50 21)))), (0, .ref 50), (1, .int ru)]) (st' := [.int 0]) (by rfl) ?_
      exact zJ hJ1 rfl (by simp only [h83, h84, lb_f, Int64.or_zero, nB_t, nB_f, Bool.not_true, Bool.not_false, Bool.and_true, Bool.true_and, Bool.false_and, Bool.and_false, Bool.or_true, Bool.true_or, Bool.false_or, Bool.or_false, cond_true, cond_false]) rfl
    · have h84 : (decide ((μ.1 56 0) = 0)) = true := decide_eq_true (cn_ne.mp h84)
      refine z_rcs0 hc hH 3 (pc' := 65) (lv' := [(6, .int (μ.1 57 0)), (5, .int 0), (4, .int (nB (xHo (μ.1 50 21)))), (3, .int (nB (xTe (μ.1 50 21)))), (2, .int (nB (xEn (μ.1 50 21)))), (0, .ref 50), (1, .int ru)]) (st' := [.int ((μ.1 57 0) + 2)]) (by rfl) ?_
      refine zq_call hc (z_cx_ok hH (by rfl)) (fb_X7_isEnd d' (by omega) (mGP μ (μ.2.1 50 24) (μ.2.1 50 25) (μ.1 50 23)) ((μ.1 57 0) + 2)) (by decide +kernel) (fun r9 μ9 hq => ?_)
      obtain ⟨hμ9, rfl⟩ := hq
      rw [hμ9]
      clear hμ9 μ9
      show Z 0 68 [(6, .int (μ.1 57 0)), (5, .int 0), (4, .int (nB (xHo (μ.1 50 21)))), (3, .int (nB (xTe (μ.1 50 21)))), (2, .int (nB (xEn (μ.1 50 21)))), (0, .ref 50), (1, .int ru)] [.int (nB (xEn ((μ.1 57 0) + 2)))] _
      refine zq_if hc hH (by rfl) (tg := 75) (by rfl) (fun h85 => ?_) (fun h85 => ?_)
      · have h85 : (xEn ((μ.1 57 0) + 2)) = false := nB_z.mp (cm_eq9.mp h85)
        refine z_rcs0 hc hH 1 (pc' := 76) (lv' := [(6, .int (μ.1 57 0)), (5, .int 0), (4, .int (nB (xHo (μ.1 50 21)))), (3, .int (nB (xTe (μ.1 50 21)))), (2, .int (nB (xEn (μ.1 50 21)))), (0, .ref 50), (1, .int ru)]) (st' := [.int 0]) (by rfl) ?_
        exact zJ hJ1 rfl (by simp only [h83, h84, h85, lb_f, Int64.or_zero, nB_t, nB_f, Bool.not_true, Bool.not_false, Bool.and_true, Bool.true_and, Bool.false_and, Bool.and_false, Bool.or_true, Bool.true_or, Bool.false_or, Bool.or_false, cond_true, cond_false]) rfl
      · have h85 : (xEn ((μ.1 57 0) + 2)) = true := nB_n.mp (cn_eq.mp h85)
        refine z_rcs0 hc hH 2 (pc' := 76) (lv' := [(6, .int (μ.1 57 0)), (5, .int 0), (4, .int (nB (xHo (μ.1 50 21)))), (3, .int (nB (xTe (μ.1 50 21)))), (2, .int (nB (xEn (μ.1 50 21)))), (0, .ref 50), (1, .int ru)]) (st' := [.int 1]) (by rfl) ?_
        exact zJ hJ1 rfl (by simp only [h83, h84, h85, lb_f, Int64.or_zero, nB_t, nB_f, Bool.not_true, Bool.not_false, Bool.and_true, Bool.true_and, Bool.false_and, Bool.and_false, Bool.or_true, Bool.true_or, Bool.false_or, Bool.or_false, cond_true, cond_false]) rfl

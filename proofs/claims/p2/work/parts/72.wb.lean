/-! the reference: how tiles fall apart, exactly -/
set_option maxRecDepth 8000
abbrev mdS : List (Nat × Nat) := [(50, 18), (51, 9999), (54, 9999), (55, 9999)]
def FL (μ μ' : zM) (B : Prop) : Prop := (B → μ'.1 50 18 = 1) ∧ (¬ B → μ'.1 50 18 = μ.1 50 18)
theorem FL.tr {μ μ1 μ2 : zM} {A B : Prop} (h1 : FL μ μ1 A) (h2 : FL μ1 μ2 B) : FL μ μ2 (A ∨ B) := by
  refine ⟨fun q => ?_, fun q => ?_⟩
  · by_cases b : B
    · exact h2.1 b
    · rw [h2.2 b]; exact h1.1 (q.resolve_right b)
  · rw [h2.2 (fun b => q (Or.inr b)), h1.2 (fun a => q (Or.inl a))]
theorem FL.iff {μ μ1 : zM} {A B : Prop} (h : FL μ μ1 A) (e : A ↔ B) : FL μ μ1 B := ⟨fun q => h.1 (e.mpr q), fun q => h.2 (fun a => q (e.mp a))⟩
def SU (μ μ' : zM) (B : Prop) : Prop := (∀ j, μ'.1 51 j = μ.1 51 j) ∧ a_Fz mdS μ μ' ∧ a_H μ' ∧ FL μ μ' B
theorem SU_rf {μ : zM} {B : Prop} (h : a_H μ) (hb : ¬ B) : SU μ μ B := ⟨fun _ => rfl, a_Fz_rf _ _, h, fun q => absurd q hb, fun _ => rfl⟩
theorem SU.tr {μ μ1 μ2 : zM} {A B : Prop} (h1 : SU μ μ1 A) (h2 : SU μ1 μ2 B) : SU μ μ2 (A ∨ B) := ⟨fun j => (h2.1 j).trans (h1.1 j), a_Fz_tr (by decide) h1.2.1 h2.2.1, h2.2.2.1, h1.2.2.2.tr h2.2.2.2⟩
theorem SU.iff {μ μ1 : zM} {A B : Prop} (h : SU μ μ1 A) (e : A ↔ B) : SU μ μ1 B := ⟨h.1, h.2.1, h.2.2.1, h.2.2.2.iff e⟩
theorem SU.rw {μ μ' : zM} {B : Prop} {w : Nat → Nat} (h : SU μ μ' B) (hw : RW μ 51 w) : RW μ' 51 w := fun k hk => by rw [h.1]; exact hw k hk
theorem s_3 : ∀ a, a < 6 → 3 ≤ a → nI a - 3 = nI (a - 3) := by decide +kernel
theorem s_1 : ∀ a, a < 6 → 1 ≤ a → nI a - 1 = nI (a - 1) := by decide +kernel
theorem s_4 : ∀ q, q ≤ 4 → 4 - nI q = nI (4 - q) := by decide +kernel
theorem zh_X7_sets : zH mi_X7_sets zc_X7_sets 79 7 7 := ⟨by rfl, by rfl, by rfl, by rfl⟩
theorem st3 (d' : Nat) (Z : zK) (μ : zM) (B : Prop) (hc : z_clo z_x0 mi_X7_sets (z_C d') Z) (hr : z_ret mi_X7_sets (fun r μ' => r = none ∧ SU μ μ' B) Z) (m md q k : Nat) (x1 x6 pr : Int32) (hm : md + (m + 1) + q = 4) (hk : k < 34) (ih : ∀ (μ : zM) (w : Nat → Nat) (fr md last q : Nat) (pr : Int32), a_H μ → RW μ 51 w → μ.1 50 4 = nI q → md + m + q = 4 → fr ≤ 34 → (∀ k, k < 34 → ((0 < md ∧ μ.1 54 (md - 1) = 0 ∧ μ.1 55 (md - 1) = nI k) ↔ last = k + 1)) → z_C d' mi_X7_sets [.ref 50, .int (nI fr), .int (nI md), .int pr, .int 0] μ (fun r μ' => r = none ∧ SU μ μ' (dc m w fr last))) (μ0 : zM) (w : Nat → Nat) (hH0 : a_H μ0) (hw : RW μ0 51 w) (e4 : μ0.1 50 4 = nI q) (h3 : 3 ≤ w k) (K : ∀ μ3, SU μ0 μ3 (dc m (sub3 w k) k 0) → Z 0 207 [(6, .int x6), (5, .int (nI k)), (0, .ref 50), (1, .int x1), (2, .int (nI md)), (3, .int pr), (4, .int 0)] [] μ3) : Z 0 158 [(6, .int x6), (5, .int (nI k)), (0, .ref 50), (1, .int x1), (2, .int (nI md)), (3, .int pr), (4, .int 0)] [] μ0 := by
  have hH := zh_X7_sets
  have ink : vp_in (nI k) 34 := vp_in_nI hk (by decide)
  have inm : vp_in (nI md) 5 := vp_in_nI (by omega) (by decide)
  have ek : (nI k).toNatClampNeg = k := nI_clamp (by omega)
  have em : (nI md).toNatClampNeg = md := nI_clamp (by omega)
  have wk := hw k hk
  refine z_rcs hc hH 4 (pc' := 165) (lv' := [(6, .int x6), (5, .int (nI k)), (0, .ref 50), (1, .int x1), (2, .int (nI md)), (3, .int pr), (4, .int 0)]) (st' := [.int (nI k), .ref 51, .int (nI k), .ref 51]) (μ' := μ0) (by rfl) ?_
  refine zq_iald hc hH (by rfl) 34 (by decide +kernel) (ink) ?_
  rw [ek, wk.1]
  refine z_rcs hc hH 2 (pc' := 168) (lv' := [(6, .int x6), (5, .int (nI k)), (0, .ref 50), (1, .int x1), (2, .int (nI md)), (3, .int pr), (4, .int 0)]) (st' := [.int ((nI (w k)) - 3), .int (nI k), .ref 51]) (μ' := μ0) (by rfl) ?_
  rw [s_3 (w k) (by omega) h3]
  refine zq_iast hc hH (by rfl) 34 (by decide +kernel) (ink) ?_
  refine z_rcs hc hH 4 (pc' := 175) (lv' := [(6, .int x6), (5, .int (nI k)), (0, .ref 50), (1, .int x1), (2, .int (nI md)), (3, .int pr), (4, .int 0)]) (st' := [.int 1, .int (nI md), .ref 54]) (μ' := z_ui μ0 51 ((nI k).toNatClampNeg) (nI (w k - 3))) (by rfl) ?_
  refine zq_iast hc hH (by rfl) 5 (by decide +kernel) (inm) ?_
  refine z_rcs hc hH 4 (pc' := 183) (lv' := [(6, .int x6), (5, .int (nI k)), (0, .ref 50), (1, .int x1), (2, .int (nI md)), (3, .int pr), (4, .int 0)]) (st' := [.int (nI k), .int (nI md), .ref 55]) (μ' := z_ui (z_ui μ0 51 ((nI k).toNatClampNeg) (nI (w k - 3))) 54 ((nI md).toNatClampNeg) 1) (by rfl) ?_
  refine zq_iast hc hH (by rfl) 5 (by decide +kernel) (inm) ?_
  rw [ek, em]
  have f1 : a_Fz mdS μ0 (z_ui (z_ui (z_ui μ0 51 k (nI (w k - 3))) 54 md 1) 55 md (nI k)) := a_Fz_ui (a_Fz_ui (a_Fz_ui (a_Fz_rf _ _) (a_mda_md (by decide) _)) (a_mda_md (by decide) _)) (a_mda_md (by decide) _)
  have H1 : a_H (z_ui (z_ui (z_ui μ0 51 k (nI (w k - 3))) 54 md 1) 55 md (nI k)) := a_H_ui (a_H_ui (a_H_ui hH0 (bI_top _)) (bI_top _)) (bI_top _)
  have r51 : ∀ j, (z_ui (z_ui (z_ui μ0 51 k (nI (w k - 3))) 54 md 1) 55 md (nI k)).1 51 j = if j = k then nI (w k - 3) else μ0.1 51 j := fun j => by
    rw [z_ui_rd, if_neg (by omega), z_ui_rd, if_neg (by omega), z_ui_rd]
    by_cases e : j = k
    · rw [if_pos ⟨rfl, e⟩, if_pos e]
    · rw [if_neg (fun z => e z.2), if_neg e]
  have c54 : (z_ui (z_ui (z_ui μ0 51 k (nI (w k - 3))) 54 md 1) 55 md (nI k)).1 54 md = 1 := by rw [z_ui_rd, if_neg (by omega), z_ui_rd, if_pos ⟨rfl, rfl⟩]
  have e18 : (z_ui (z_ui (z_ui μ0 51 k (nI (w k - 3))) 54 md 1) 55 md (nI k)).1 50 18 = μ0.1 50 18 := by rw [z_ui_rd, if_neg (by omega), z_ui_rd, if_neg (by omega), z_ui_rd, if_neg (by omega)]
  generalize z_ui (z_ui (z_ui μ0 51 k (nI (w k - 3))) 54 md 1) 55 md (nI k) = μ1 at f1 H1 r51 c54 e18 ⊢
  have w1 : RW μ1 51 (sub3 w k) := fun j hj => by
    rw [r51]; unfold sub3
    by_cases e : j = k
    · rw [if_pos e, if_pos e, e]; exact ⟨rfl, by omega⟩
    · rw [if_neg e, if_neg e]; exact hw j hj
  refine z_rcs hc hH 7 (pc' := 193) (lv' := [(6, .int x6), (5, .int (nI k)), (0, .ref 50), (1, .int x1), (2, .int (nI md)), (3, .int pr), (4, .int 0)]) (st' := [.int 0, .int pr, .int ((nI md) + 1), .int (nI k), .ref 50]) (μ' := μ1) (by rfl) ?_
  rw [nI_1]
  refine zq_call hc (by rfl) (ih μ1 (sub3 w k) k (md + 1) 0 q pr H1 w1 ((a_Fz_at f1 50 4 (by decide)).trans e4) (by omega) (by omega) (fun j hj => ⟨fun z => absurd z.2.1 (by rw [Nat.add_sub_cancel, c54]; decide), fun z => absurd z (by omega)⟩)) (by decide +kernel) (fun r2 μ2 hq => ?_)
  obtain ⟨rfl, hs⟩ := hq
  show Z 0 196 [(6, .int x6), (5, .int (nI k)), (0, .ref 50), (1, .int x1), (2, .int (nI md)), (3, .int pr), (4, .int 0)] [] μ2
  refine z_rcs hc hH 4 (pc' := 203) (lv' := [(6, .int x6), (5, .int (nI k)), (0, .ref 50), (1, .int x1), (2, .int (nI md)), (3, .int pr), (4, .int 0)]) (st' := [.int (nI k), .ref 51, .int (nI k), .ref 51]) (μ' := μ2) (by rfl) ?_
  refine zq_iald hc hH (by rfl) 34 (by decide +kernel) (ink) ?_
  rw [ek, hs.1, r51, if_pos rfl]
  refine z_rcs hc hH 2 (pc' := 206) (lv' := [(6, .int x6), (5, .int (nI k)), (0, .ref 50), (1, .int x1), (2, .int (nI md)), (3, .int pr), (4, .int 0)]) (st' := [.int ((nI (w k - 3)) + 3), .int (nI k), .ref 51]) (μ' := μ2) (by rfl) ?_
  rw [show nI (w k - 3) + 3 = nI (w k) from (nI_add (w k - 3) 3).trans (by rw [show w k - 3 + 3 = w k by omega])]
  refine zq_iast hc hH (by rfl) 34 (by decide +kernel) (ink) ?_
  rw [ek]
  refine K _ ⟨fun j => ?_, a_Fz_ui (a_Fz_tr (by decide) f1 hs.2.1) (a_mda_md (by decide) _), a_H_ui hs.2.2.1 (bI_top _), ?_⟩
  · rw [z_ui_rd]
    by_cases e : j = k
    · rw [if_pos ⟨rfl, e⟩, e, wk.1]
    · rw [if_neg (fun z => e z.2), hs.1, r51, if_neg e]
  · refine ⟨fun z => ?_, fun z => ?_⟩
    · rw [z_ui_rd, if_neg (by omega)]; exact hs.2.2.2.1 z
    · rw [z_ui_rd, if_neg (by omega), hs.2.2.2.2 z, e18]
theorem stR (d' : Nat) (Z : zK) (μ : zM) (B : Prop) (hc : z_clo z_x0 mi_X7_sets (z_C d') Z) (hr : z_ret mi_X7_sets (fun r μ' => r = none ∧ SU μ μ' B) Z) (m md q k : Nat) (x1 x6 pr : Int32) (hm : md + (m + 1) + q = 4) (hk : k < 34) (ih : ∀ (μ : zM) (w : Nat → Nat) (fr md last q : Nat) (pr : Int32), a_H μ → RW μ 51 w → μ.1 50 4 = nI q → md + m + q = 4 → fr ≤ 34 → (∀ k, k < 34 → ((0 < md ∧ μ.1 54 (md - 1) = 0 ∧ μ.1 55 (md - 1) = nI k) ↔ last = k + 1)) → z_C d' mi_X7_sets [.ref 50, .int (nI fr), .int (nI md), .int pr, .int 0] μ (fun r μ' => r = none ∧ SU μ μ' (dc m w fr last))) (μ0 : zM) (w : Nat → Nat) (hH0 : a_H μ0) (hw : RW μ0 51 w) (e4 : μ0.1 50 4 = nI q) (hk2 : k + 2 < 34) (h0 : 1 ≤ w k) (h1 : 1 ≤ w (k + 1)) (h2 : 1 ≤ w (k + 2)) (K : ∀ μ3, SU μ0 μ3 (dc m (subr w k) k (k + 1)) → Z 0 340 [(6, .int x6), (5, .int (nI k)), (0, .ref 50), (1, .int x1), (2, .int (nI md)), (3, .int pr), (4, .int 0)] [] μ3) : Z 0 239 [(6, .int x6), (5, .int (nI k)), (0, .ref 50), (1, .int x1), (2, .int (nI md)), (3, .int pr), (4, .int 0)] [] μ0 := by
  have hH := zh_X7_sets
  have ink : vp_in (nI k) 34 := vp_in_nI hk (by decide)
  have inm : vp_in (nI md) 5 := vp_in_nI (by omega) (by decide)
  have in1 : vp_in (nI (k + 1)) 34 := vp_in_nI (by omega) (by decide)
  have in2 : vp_in (nI (k + 2)) 34 := vp_in_nI (by omega) (by decide)
  have ek : (nI k).toNatClampNeg = k := nI_clamp (by omega)
  have em : (nI md).toNatClampNeg = md := nI_clamp (by omega)
  have ek1 : (nI (k + 1)).toNatClampNeg = k + 1 := nI_clamp (by omega)
  have ek2 : (nI (k + 2)).toNatClampNeg = k + 2 := nI_clamp (by omega)
  have a2 : nI k + 2 = nI (k + 2) := nI_add k 2
  have wk := hw k hk
  have wk1 := hw (k + 1) (by omega)
  have wk2 := hw (k + 2) (by omega)
  refine z_rcs hc hH 4 (pc' := 246) (lv' := [(6, .int x6), (5, .int (nI k)), (0, .ref 50), (1, .int x1), (2, .int (nI md)), (3, .int pr), (4, .int 0)]) (st' := [.int (nI k), .ref 51, .int (nI k), .ref 51]) (μ' := μ0) (by rfl) ?_
  refine zq_iald hc hH (by rfl) 34 (by decide +kernel) (ink) ?_
  rw [ek, wk.1]
  refine z_rcs hc hH 2 (pc' := 249) (lv' := [(6, .int x6), (5, .int (nI k)), (0, .ref 50), (1, .int x1), (2, .int (nI md)), (3, .int pr), (4, .int 0)]) (st' := [.int ((nI (w k)) - 1), .int (nI k), .ref 51]) (μ' := μ0) (by rfl) ?_
  rw [s_1 (w (k)) (by omega) h0]
  refine zq_iast hc hH (by rfl) 34 (by decide +kernel) (ink) ?_
  rw [ek]
  have g1 : ∀ j, (z_ui μ0 51 k (nI (w k - 1))).1 51 j = if j = k then nI (w k - 1) else μ0.1 51 j := fun j => by
    rw [z_ui_rd]
    by_cases e : j = k
    · rw [if_pos ⟨rfl, e⟩, if_pos e]
    · rw [if_neg (fun z => e z.2), if_neg e]
  have F1 : a_Fz mdS μ0 (z_ui μ0 51 k (nI (w k - 1))) := a_Fz_ui (a_Fz_rf _ _) (a_mda_md (by decide) _)
  have H1 : a_H (z_ui μ0 51 k (nI (w k - 1))) := a_H_ui hH0 (bI_top _)
  have E1 : (z_ui μ0 51 k (nI (w k - 1))).1 50 18 = μ0.1 50 18 := by rw [z_ui_rd, if_neg (by omega)]
  generalize z_ui μ0 51 k (nI (w k - 1)) = ν1 at g1 F1 H1 E1 ⊢
  refine z_rcs hc hH 5 (pc' := 258) (lv' := [(6, .int x6), (5, .int (nI k)), (0, .ref 50), (1, .int x1), (2, .int (nI md)), (3, .int pr), (4, .int 0)]) (st' := [.int ((nI k) + 1), .ref 51]) (μ' := ν1) (by rfl) ?_
  rw [nI_1]
  refine z_rcs hc hH 1 (pc' := 259) (lv' := [(6, .int x6), (5, .int (nI k)), (0, .ref 50), (1, .int x1), (2, .int (nI md)), (3, .int pr), (4, .int 0)]) (st' := [.int (nI (k + 1)), .ref 51, .int (nI (k + 1)), .ref 51]) (μ' := ν1) (by rfl) ?_
  refine zq_iald hc hH (by rfl) 34 (by decide +kernel) (in1) ?_
  rw [ek1, g1, if_neg (by omega), wk1.1]
  refine z_rcs hc hH 2 (pc' := 262) (lv' := [(6, .int x6), (5, .int (nI k)), (0, .ref 50), (1, .int x1), (2, .int (nI md)), (3, .int pr), (4, .int 0)]) (st' := [.int ((nI (w (k + 1))) - 1), .int (nI (k + 1)), .ref 51]) (μ' := ν1) (by rfl) ?_
  rw [s_1 (w (k + 1)) (by omega) h1]
  refine zq_iast hc hH (by rfl) 34 (by decide +kernel) (in1) ?_
  rw [ek1]
  have g2 : ∀ j, (z_ui ν1 51 (k + 1) (nI (w (k + 1) - 1))).1 51 j = if j = k + 1 then nI (w (k + 1) - 1) else ν1.1 51 j := fun j => by
    rw [z_ui_rd]
    by_cases e : j = k + 1
    · rw [if_pos ⟨rfl, e⟩, if_pos e]
    · rw [if_neg (fun z => e z.2), if_neg e]
  have F2 : a_Fz mdS μ0 (z_ui ν1 51 (k + 1) (nI (w (k + 1) - 1))) := a_Fz_ui F1 (a_mda_md (by decide) _)
  have H2 : a_H (z_ui ν1 51 (k + 1) (nI (w (k + 1) - 1))) := a_H_ui H1 (bI_top _)
  have E2 : (z_ui ν1 51 (k + 1) (nI (w (k + 1) - 1))).1 50 18 = μ0.1 50 18 := by rw [z_ui_rd, if_neg (by omega), E1]
  generalize z_ui ν1 51 (k + 1) (nI (w (k + 1) - 1)) = ν2 at g2 F2 H2 E2 ⊢
  refine z_rcs hc hH 5 (pc' := 271) (lv' := [(6, .int x6), (5, .int (nI k)), (0, .ref 50), (1, .int x1), (2, .int (nI md)), (3, .int pr), (4, .int 0)]) (st' := [.int ((nI k) + 2), .ref 51]) (μ' := ν2) (by rfl) ?_
  rw [a2]
  refine z_rcs hc hH 1 (pc' := 272) (lv' := [(6, .int x6), (5, .int (nI k)), (0, .ref 50), (1, .int x1), (2, .int (nI md)), (3, .int pr), (4, .int 0)]) (st' := [.int (nI (k + 2)), .ref 51, .int (nI (k + 2)), .ref 51]) (μ' := ν2) (by rfl) ?_
  refine zq_iald hc hH (by rfl) 34 (by decide +kernel) (in2) ?_
  rw [ek2, g2, if_neg (by omega), g1, if_neg (by omega), wk2.1]
  refine z_rcs hc hH 2 (pc' := 275) (lv' := [(6, .int x6), (5, .int (nI k)), (0, .ref 50), (1, .int x1), (2, .int (nI md)), (3, .int pr), (4, .int 0)]) (st' := [.int ((nI (w (k + 2))) - 1), .int (nI (k + 2)), .ref 51]) (μ' := ν2) (by rfl) ?_
  rw [s_1 (w (k + 2)) (by omega) h2]
  refine zq_iast hc hH (by rfl) 34 (by decide +kernel) (in2) ?_
  rw [ek2]
  have g3 : ∀ j, (z_ui ν2 51 (k + 2) (nI (w (k + 2) - 1))).1 51 j = if j = k + 2 then nI (w (k + 2) - 1) else ν2.1 51 j := fun j => by
    rw [z_ui_rd]
    by_cases e : j = k + 2
    · rw [if_pos ⟨rfl, e⟩, if_pos e]
    · rw [if_neg (fun z => e z.2), if_neg e]
  have F3 : a_Fz mdS μ0 (z_ui ν2 51 (k + 2) (nI (w (k + 2) - 1))) := a_Fz_ui F2 (a_mda_md (by decide) _)
  have H3 : a_H (z_ui ν2 51 (k + 2) (nI (w (k + 2) - 1))) := a_H_ui H2 (bI_top _)
  have E3 : (z_ui ν2 51 (k + 2) (nI (w (k + 2) - 1))).1 50 18 = μ0.1 50 18 := by rw [z_ui_rd, if_neg (by omega), E2]
  generalize z_ui ν2 51 (k + 2) (nI (w (k + 2) - 1)) = ν3 at g3 F3 H3 E3 ⊢
  refine z_rcs hc hH 4 (pc' := 282) (lv' := [(6, .int x6), (5, .int (nI k)), (0, .ref 50), (1, .int x1), (2, .int (nI md)), (3, .int pr), (4, .int 0)]) (st' := [.int 0, .int (nI md), .ref 54]) (μ' := ν3) (by rfl) ?_
  refine zq_iast hc hH (by rfl) 5 (by decide +kernel) (inm) ?_
  refine z_rcs hc hH 4 (pc' := 290) (lv' := [(6, .int x6), (5, .int (nI k)), (0, .ref 50), (1, .int x1), (2, .int (nI md)), (3, .int pr), (4, .int 0)]) (st' := [.int (nI k), .int (nI md), .ref 55]) (μ' := z_ui (ν3) 54 ((nI md).toNatClampNeg) 0) (by rfl) ?_
  refine zq_iast hc hH (by rfl) 5 (by decide +kernel) (inm) ?_
  rw [em]
  have f1 : a_Fz mdS μ0 (z_ui (z_ui ν3 54 md 0) 55 md (nI k)) := a_Fz_ui (a_Fz_ui F3 (a_mda_md (by decide) _)) (a_mda_md (by decide) _)
  have H4 : a_H (z_ui (z_ui ν3 54 md 0) 55 md (nI k)) := a_H_ui (a_H_ui H3 (bI_top _)) (bI_top _)
  have r51 : ∀ j, (z_ui (z_ui ν3 54 md 0) 55 md (nI k)).1 51 j = ν3.1 51 j := fun j => by rw [z_ui_rd, if_neg (by omega), z_ui_rd, if_neg (by omega)]
  have c54 : (z_ui (z_ui ν3 54 md 0) 55 md (nI k)).1 54 md = 0 := by rw [z_ui_rd, if_neg (by omega), z_ui_rd, if_pos ⟨rfl, rfl⟩]
  have c55 : (z_ui (z_ui ν3 54 md 0) 55 md (nI k)).1 55 md = nI k := by rw [z_ui_rd, if_pos ⟨rfl, rfl⟩]
  have e18 : (z_ui (z_ui ν3 54 md 0) 55 md (nI k)).1 50 18 = μ0.1 50 18 := by rw [z_ui_rd, if_neg (by omega), z_ui_rd, if_neg (by omega), E3]
  generalize z_ui (z_ui ν3 54 md 0) 55 md (nI k) = μ1 at f1 H4 r51 c54 c55 e18 ⊢
  have w1 : RW μ1 51 (subr w k) := fun j hj => by
    rw [r51, g3, g2, g1]; unfold subr
    by_cases c0 : j = k
    · rw [if_neg (by omega), if_neg (by omega), if_pos c0, if_pos (Or.inl c0), c0]; exact ⟨rfl, by omega⟩
    · by_cases c1 : j = k + 1
      · rw [if_neg (by omega), if_pos c1, if_pos (Or.inr (Or.inl c1)), c1]; exact ⟨rfl, by omega⟩
      · by_cases c2 : j = k + 2
        · rw [if_pos c2, if_pos (Or.inr (Or.inr c2)), c2]; exact ⟨rfl, by omega⟩
        · rw [if_neg c2, if_neg c1, if_neg c0, if_neg (by omega)]; exact hw j hj
  refine z_rcs hc hH 7 (pc' := 300) (lv' := [(6, .int x6), (5, .int (nI k)), (0, .ref 50), (1, .int x1), (2, .int (nI md)), (3, .int pr), (4, .int 0)]) (st' := [.int 0, .int pr, .int ((nI md) + 1), .int (nI k), .ref 50]) (μ' := μ1) (by rfl) ?_
  rw [nI_1]
  refine zq_call hc (by rfl) (ih μ1 (subr w k) k (md + 1) (k + 1) q pr H4 w1 ((a_Fz_at f1 50 4 (by decide)).trans e4) (by omega) (by omega) (fun j hj => ⟨fun z => by rw [Nat.add_sub_cancel, c55] at z; have := (nI_eq (by omega) (by omega)).mp z.2.2; omega, fun z => ⟨by omega, by rw [Nat.add_sub_cancel, c54], by rw [Nat.add_sub_cancel, c55, show j = k by omega]⟩⟩)) (by decide +kernel) (fun r2 μ2 hq => ?_)
  obtain ⟨rfl, hs⟩ := hq
  have R2 : ∀ j, μ2.1 51 j = ν3.1 51 j := fun j => (hs.1 j).trans (r51 j)
  show Z 0 303 [(6, .int x6), (5, .int (nI k)), (0, .ref 50), (1, .int x1), (2, .int (nI md)), (3, .int pr), (4, .int 0)] [] μ2
  refine z_rcs hc hH 4 (pc' := 310) (lv' := [(6, .int x6), (5, .int (nI k)), (0, .ref 50), (1, .int x1), (2, .int (nI md)), (3, .int pr), (4, .int 0)]) (st' := [.int (nI k), .ref 51, .int (nI k), .ref 51]) (μ' := μ2) (by rfl) ?_
  refine zq_iald hc hH (by rfl) 34 (by decide +kernel) (ink) ?_
  rw [ek, R2, g3, if_neg (by omega), g2, if_neg (by omega), g1, if_pos rfl]
  refine z_rcs hc hH 2 (pc' := 313) (lv' := [(6, .int x6), (5, .int (nI k)), (0, .ref 50), (1, .int x1), (2, .int (nI md)), (3, .int pr), (4, .int 0)]) (st' := [.int ((nI (w (k) - 1)) + 1), .int (nI k), .ref 51]) (μ' := μ2) (by rfl) ?_
  rw [show nI (w (k) - 1) + 1 = nI (w (k)) from (nI_add (w (k) - 1) 1).trans (by rw [show w (k) - 1 + 1 = w (k) by omega])]
  refine zq_iast hc hH (by rfl) 34 (by decide +kernel) (ink) ?_
  rw [ek]
  have u1 : ∀ j, (z_ui μ2 51 (k) (nI (w (k)))).1 51 j = if j = k then nI (w (k)) else μ2.1 51 j := fun j => by
    rw [z_ui_rd]
    by_cases e : j = k
    · rw [if_pos ⟨rfl, e⟩, if_pos e]
    · rw [if_neg (fun z => e z.2), if_neg e]
  have Fu1 : a_Fz mdS μ0 (z_ui μ2 51 (k) (nI (w (k)))) := a_Fz_ui (a_Fz_tr (by decide) f1 hs.2.1) (a_mda_md (by decide) _)
  have Hu1 : a_H (z_ui μ2 51 (k) (nI (w (k)))) := a_H_ui hs.2.2.1 (bI_top _)
  have Eu1 : (z_ui μ2 51 (k) (nI (w (k)))).1 50 18 = μ2.1 50 18 := by rw [z_ui_rd, if_neg (by omega)]
  generalize z_ui μ2 51 (k) (nI (w (k))) = ν4 at u1 Fu1 Hu1 Eu1 ⊢
  refine z_rcs hc hH 5 (pc' := 322) (lv' := [(6, .int x6), (5, .int (nI k)), (0, .ref 50), (1, .int x1), (2, .int (nI md)), (3, .int pr), (4, .int 0)]) (st' := [.int ((nI k) + 1), .ref 51]) (μ' := ν4) (by rfl) ?_
  rw [nI_1]
  refine z_rcs hc hH 1 (pc' := 323) (lv' := [(6, .int x6), (5, .int (nI k)), (0, .ref 50), (1, .int x1), (2, .int (nI md)), (3, .int pr), (4, .int 0)]) (st' := [.int (nI (k + 1)), .ref 51, .int (nI (k + 1)), .ref 51]) (μ' := ν4) (by rfl) ?_
  refine zq_iald hc hH (by rfl) 34 (by decide +kernel) (in1) ?_
  rw [ek1, u1, if_neg (by omega), R2, g3, if_neg (by omega), g2, if_pos rfl]
  refine z_rcs hc hH 2 (pc' := 326) (lv' := [(6, .int x6), (5, .int (nI k)), (0, .ref 50), (1, .int x1), (2, .int (nI md)), (3, .int pr), (4, .int 0)]) (st' := [.int ((nI (w (k + 1) - 1)) + 1), .int (nI (k + 1)), .ref 51]) (μ' := ν4) (by rfl) ?_
  rw [show nI (w (k + 1) - 1) + 1 = nI (w (k + 1)) from (nI_add (w (k + 1) - 1) 1).trans (by rw [show w (k + 1) - 1 + 1 = w (k + 1) by omega])]
  refine zq_iast hc hH (by rfl) 34 (by decide +kernel) (in1) ?_
  rw [ek1]
  have u2 : ∀ j, (z_ui ν4 51 (k + 1) (nI (w (k + 1)))).1 51 j = if j = k + 1 then nI (w (k + 1)) else ν4.1 51 j := fun j => by
    rw [z_ui_rd]
    by_cases e : j = k + 1
    · rw [if_pos ⟨rfl, e⟩, if_pos e]
    · rw [if_neg (fun z => e z.2), if_neg e]
  have Fu2 : a_Fz mdS μ0 (z_ui ν4 51 (k + 1) (nI (w (k + 1)))) := a_Fz_ui Fu1 (a_mda_md (by decide) _)
  have Hu2 : a_H (z_ui ν4 51 (k + 1) (nI (w (k + 1)))) := a_H_ui Hu1 (bI_top _)
  have Eu2 : (z_ui ν4 51 (k + 1) (nI (w (k + 1)))).1 50 18 = μ2.1 50 18 := by rw [z_ui_rd, if_neg (by omega), Eu1]
  generalize z_ui ν4 51 (k + 1) (nI (w (k + 1))) = ν5 at u2 Fu2 Hu2 Eu2 ⊢
  refine z_rcs hc hH 5 (pc' := 335) (lv' := [(6, .int x6), (5, .int (nI k)), (0, .ref 50), (1, .int x1), (2, .int (nI md)), (3, .int pr), (4, .int 0)]) (st' := [.int ((nI k) + 2), .ref 51]) (μ' := ν5) (by rfl) ?_
  rw [a2]
  refine z_rcs hc hH 1 (pc' := 336) (lv' := [(6, .int x6), (5, .int (nI k)), (0, .ref 50), (1, .int x1), (2, .int (nI md)), (3, .int pr), (4, .int 0)]) (st' := [.int (nI (k + 2)), .ref 51, .int (nI (k + 2)), .ref 51]) (μ' := ν5) (by rfl) ?_
  refine zq_iald hc hH (by rfl) 34 (by decide +kernel) (in2) ?_
  rw [ek2, u2, if_neg (by omega), u1, if_neg (by omega), R2, g3, if_pos rfl]
  refine z_rcs hc hH 2 (pc' := 339) (lv' := [(6, .int x6), (5, .int (nI k)), (0, .ref 50), (1, .int x1), (2, .int (nI md)), (3, .int pr), (4, .int 0)]) (st' := [.int ((nI (w (k + 2) - 1)) + 1), .int (nI (k + 2)), .ref 51]) (μ' := ν5) (by rfl) ?_
  rw [show nI (w (k + 2) - 1) + 1 = nI (w (k + 2)) from (nI_add (w (k + 2) - 1) 1).trans (by rw [show w (k + 2) - 1 + 1 = w (k + 2) by omega])]
  refine zq_iast hc hH (by rfl) 34 (by decide +kernel) (in2) ?_
  rw [ek2]
  have u3 : ∀ j, (z_ui ν5 51 (k + 2) (nI (w (k + 2)))).1 51 j = if j = k + 2 then nI (w (k + 2)) else ν5.1 51 j := fun j => by
    rw [z_ui_rd]
    by_cases e : j = k + 2
    · rw [if_pos ⟨rfl, e⟩, if_pos e]
    · rw [if_neg (fun z => e z.2), if_neg e]
  have Fu3 : a_Fz mdS μ0 (z_ui ν5 51 (k + 2) (nI (w (k + 2)))) := a_Fz_ui Fu2 (a_mda_md (by decide) _)
  have Hu3 : a_H (z_ui ν5 51 (k + 2) (nI (w (k + 2)))) := a_H_ui Hu2 (bI_top _)
  have Eu3 : (z_ui ν5 51 (k + 2) (nI (w (k + 2)))).1 50 18 = μ2.1 50 18 := by rw [z_ui_rd, if_neg (by omega), Eu2]
  generalize z_ui ν5 51 (k + 2) (nI (w (k + 2))) = ν6 at u3 Fu3 Hu3 Eu3 ⊢
  refine K _ ⟨fun j => ?_, Fu3, Hu3, ?_⟩
  · rw [u3, u2, u1, R2, g3, g2, g1]
    by_cases c0 : j = k
    · rw [if_neg (by omega), if_neg (by omega), if_pos c0, c0, wk.1]
    · by_cases c1 : j = k + 1
      · rw [if_neg (by omega), if_pos c1, c1, wk1.1]
      · by_cases c2 : j = k + 2
        · rw [if_pos c2, c2, wk2.1]
        · rw [if_neg c2, if_neg c1, if_neg c0, if_neg c2, if_neg c1, if_neg c0]
  · refine ⟨fun z => ?_, fun z => ?_⟩
    · rw [Eu3]; exact hs.2.2.2.1 z
    · rw [Eu3, hs.2.2.2.2 z, e18]
theorem se16 (d' : Nat) (Z : zK) (μ : zM) (B : Prop) (hc : z_clo z_x0 mi_X7_sets (z_C d') Z) (hr : z_ret mi_X7_sets (fun r μ' => r = none ∧ SU μ μ' B) Z) (md : Nat) (x1 pr : Int32) (w : Nat → Nat) (hH0 : a_H μ) (hw : RW μ 51 w) (hB : B ↔ ∀ k, k < 34 → w k = 0) : ∀ n i, i + n = 34 → ∀ x : Int32, (x = 1 ∧ ∀ j, j < i → w j = 0) ∨ (x = 0 ∧ ∃ j, j < 34 ∧ w j ≠ 0) → Z 0 16 [(6, .int (nI i)), (5, .int x), (0, .ref 50), (1, .int x1), (2, .int (nI md)), (3, .int pr), (4, .int 0)] [] μ := by
  have hH := zh_X7_sets
  intro n
  induction n with
  | zero =>
    intro i hi x hx
    have hi : i = 34 := by omega
    subst hi
    rcases hx with ⟨rfl, hz⟩ | ⟨rfl, j, hj, hz⟩
    · skip
      refine z_rcs hc hH 2 (pc' := 20) (lv' := [(6, .int (nI 34)), (5, .int 1), (0, .ref 50), (1, .int x1), (2, .int (nI md)), (3, .int pr), (4, .int 0)]) (st' := [.int 34, .int (nI 34)]) (μ' := μ) (by rfl) ?_
      refine zq_ic hc hH (by rfl) (tg := 51) (by rfl) (fun _ => ?_) (fun h9 => (zb_t (ge_nIt (n := 34) (i := 34) (by decide) (by decide)) h9).elim)
      refine z_rcs hc hH 7 (pc' := 72) (lv' := [(6, .int (nI 34)), (5, .int 1), (0, .ref 50), (1, .int x1), (2, .int (nI md)), (3, .int pr), (4, .int 0)]) (st' := []) (μ' := z_ui μ 50 18 1) (by rfl) ?_
      exact hr 0 72 _ _ _ none (by decide +kernel) (by rfl) (⟨rfl, fun j => by rw [z_ui_rd, if_neg (by omega)], a_Fz_ui (a_Fz_rf _ _) (by decide), a_H_ui hH0 ⟨by decide, by decide⟩, fun _ => by rw [z_ui_rd, if_pos ⟨rfl, rfl⟩], fun q => absurd (hB.mpr hz) q⟩)
    · skip
      refine z_rcs hc hH 2 (pc' := 20) (lv' := [(6, .int (nI 34)), (5, .int 0), (0, .ref 50), (1, .int x1), (2, .int (nI md)), (3, .int pr), (4, .int 0)]) (st' := [.int 34, .int (nI 34)]) (μ' := μ) (by rfl) ?_
      refine zq_ic hc hH (by rfl) (tg := 51) (by rfl) (fun _ => ?_) (fun h9 => (zb_t (ge_nIt (n := 34) (i := 34) (by decide) (by decide)) h9).elim)
      refine z_rcs hc hH 2 (pc' := 56) (lv' := [(6, .int (nI 34)), (5, .int 0), (0, .ref 50), (1, .int x1), (2, .int (nI md)), (3, .int pr), (4, .int 0)]) (st' := []) (μ' := μ) (by rfl) ?_
      exact hr 0 56 _ _ _ none (by decide +kernel) (by rfl) (⟨rfl, SU_rf hH0 (fun q => hz (hB.mp q j hj))⟩)
  | succ n ih =>
    intro i hi x hx
    have hin : vp_in (nI i) 34 := vp_in_nI (by omega) (by decide)
    have b5 := hw i (by omega)
    rcases hx with ⟨rfl, hz⟩ | ⟨rfl, hz⟩
    · skip
      refine z_rcs hc hH 2 (pc' := 20) (lv' := [(6, .int (nI i)), (5, .int 1), (0, .ref 50), (1, .int x1), (2, .int (nI md)), (3, .int pr), (4, .int 0)]) (st' := [.int 34, .int (nI i)]) (μ' := μ) (by rfl) ?_
      refine zq_ic hc hH (by rfl) (tg := 51) (by rfl) (fun h9 => (zb_t h9 (ge_nI (n := 34) (i := i) (by omega) (by decide))).elim) (fun _ => ?_)
      refine z_rcs hc hH 5 (pc' := 34) (lv' := [(6, .int (nI i)), (5, .int 1), (0, .ref 50), (1, .int x1), (2, .int (nI md)), (3, .int pr), (4, .int 0)]) (st' := [.int (nI i), .ref 51]) (μ' := μ) (by rfl) ?_
      refine zq_iald hc hH (by rfl) 34 (by decide +kernel) (hin) ?_
      rw [nI_clamp (n := i) (by omega), b5.1]
      refine zq_if hc hH (by rfl) (tg := 42) (by rfl) (fun h1 => ?_) (fun h1 => ?_)
      · have h1 := cm_ne.mp h1
        refine z_rcs hc hH 4 (pc' := 16) (lv' := [(6, .int ((nI i) + 1)), (5, .int 0), (0, .ref 50), (1, .int x1), (2, .int (nI md)), (3, .int pr), (4, .int 0)]) (st' := []) (μ' := μ) (by rfl) ?_
        rw [nI_1]
        exact ih (i + 1) (by omega) 0 (Or.inr ⟨rfl, i, by omega, fun e => h1 (by rw [e]; rfl)⟩)
      · have h1 := cn_ne.mp h1
        refine z_rcs hc hH 5 (pc' := 16) (lv' := [(6, .int ((nI i) + 1)), (5, .int 1), (0, .ref 50), (1, .int x1), (2, .int (nI md)), (3, .int pr), (4, .int 0)]) (st' := []) (μ' := μ) (by rfl) ?_
        rw [nI_1]
        exact ih (i + 1) (by omega) 1 (Or.inl ⟨rfl, fun j hj => if e : j = i then (by rw [e]; exact (nI_eq (by omega) (by omega)).mp h1) else hz j (by omega)⟩)
    · skip
      refine z_rcs hc hH 2 (pc' := 20) (lv' := [(6, .int (nI i)), (5, .int 0), (0, .ref 50), (1, .int x1), (2, .int (nI md)), (3, .int pr), (4, .int 0)]) (st' := [.int 34, .int (nI i)]) (μ' := μ) (by rfl) ?_
      refine zq_ic hc hH (by rfl) (tg := 51) (by rfl) (fun h9 => (zb_t h9 (ge_nI (n := 34) (i := i) (by omega) (by decide))).elim) (fun _ => ?_)
      refine z_rcs hc hH 6 (pc' := 16) (lv' := [(6, .int ((nI i) + 1)), (5, .int 0), (0, .ref 50), (1, .int x1), (2, .int (nI md)), (3, .int pr), (4, .int 0)]) (st' := []) (μ' := μ) (by rfl) ?_
      rw [nI_1]
      exact ih (i + 1) (by omega) 0 (Or.inr ⟨rfl, hz⟩)
theorem s340 (d' : Nat) (Z : zK) (μ : zM) (B : Prop) (hc : z_clo z_x0 mi_X7_sets (z_C d') Z) (hr : z_ret mi_X7_sets (fun r μ' => r = none ∧ SU μ μ' B) Z) (md k : Nat) (x1 x6 pr : Int32) (μ4 : zM) (h : SU μ μ4 B) : Z 0 340 [(6, .int x6), (5, .int (nI k)), (0, .ref 50), (1, .int x1), (2, .int (nI md)), (3, .int pr), (4, .int 0)] [] μ4 := hr 0 340 _ _ _ none (by decide +kernel) (by rfl) ⟨rfl, h⟩
theorem s207 (d' : Nat) (Z : zK) (μ : zM) (B : Prop) (hc : z_clo z_x0 mi_X7_sets (z_C d') Z) (hr : z_ret mi_X7_sets (fun r μ' => r = none ∧ SU μ μ' B) Z) (m md q k last : Nat) (x1 pr : Int32) (hd : 1 ≤ d') (hm : md + (m + 1) + q = 4) (hk : k < 34) (ih : ∀ (μ : zM) (w : Nat → Nat) (fr md last q : Nat) (pr : Int32), a_H μ → RW μ 51 w → μ.1 50 4 = nI q → md + m + q = 4 → fr ≤ 34 → (∀ k, k < 34 → ((0 < md ∧ μ.1 54 (md - 1) = 0 ∧ μ.1 55 (md - 1) = nI k) ↔ last = k + 1)) → z_C d' mi_X7_sets [.ref 50, .int (nI fr), .int (nI md), .int pr, .int 0] μ (fun r μ' => r = none ∧ SU μ μ' (dc m w fr last))) (w : Nat → Nat) (hH0 : a_H μ) (hw : RW μ 51 w) (e4 : μ.1 50 4 = nI q) (hwk : w k ≠ 0) (hB : B ↔ ((3 ≤ w k ∧ last ≠ k + 1 ∧ dc m (sub3 w k) k 0) ∨ (rs k ∧ 0 < w (k + 1) ∧ 0 < w (k + 2) ∧ dc m (subr w k) k (k + 1)))) (x6 : Int32) (μ3 : zM) (hS : SU μ μ3 (3 ≤ w k ∧ last ≠ k + 1 ∧ dc m (sub3 w k) k 0)) : Z 0 207 [(6, .int x6), (5, .int (nI k)), (0, .ref 50), (1, .int x1), (2, .int (nI md)), (3, .int pr), (4, .int 0)] [] μ3 := by
  have hH := zh_X7_sets
  have hw3 := hS.rw hw
  have e43 : μ3.1 50 4 = nI q := (a_Fz_at hS.2.1 50 4 (by decide)).trans e4
  refine z_rcs hc hH 1 (pc' := 209) (lv' := [(6, .int x6), (5, .int (nI k)), (0, .ref 50), (1, .int x1), (2, .int (nI md)), (3, .int pr), (4, .int 0)]) (st' := [.int (nI k)]) (μ' := μ3) (by rfl) ?_
  refine zq_call hc (by rfl) (fc_X7_isRun d' (by omega) μ3 (nI k)) (by decide +kernel) (fun r9 μ9 hq => ?_)
  obtain ⟨hμ9, hq⟩ := hq
  rw [hμ9]
  clear hμ9 μ9
  rw [sr_rs k hk] at hq
  obtain ⟨rfl, hk9⟩ | ⟨rfl, hk9⟩ := hq
  · show Z 0 212 [(6, .int x6), (5, .int (nI k)), (0, .ref 50), (1, .int x1), (2, .int (nI md)), (3, .int pr), (4, .int 0)] [.int 1] μ3
    have k27 := hk9.1
    have in1 : vp_in (nI (k + 1)) 34 := vp_in_nI (by omega) (by decide)
    have in2 : vp_in (nI (k + 2)) 34 := vp_in_nI (by omega) (by decide)
    refine z_rcs hc hH 6 (pc' := 223) (lv' := [(6, .int x6), (5, .int (nI k)), (0, .ref 50), (1, .int x1), (2, .int (nI md)), (3, .int pr), (4, .int 0)]) (st' := [.int ((nI k) + 1), .ref 51]) (μ' := μ3) (by rfl) ?_
    rw [nI_1]
    refine zq_iald hc hH (by rfl) 34 (by decide +kernel) (in1) ?_
    rw [nI_clamp (n := k + 1) (by omega), (hw3 (k + 1) (by omega)).1]
    refine zq_if hc hH (by rfl) (tg := 340) (by rfl) (fun h1 => ?_) (fun h1 => ?_)
    · have h1 := cm_le.mp h1
      have b9 := (hw3 (k + 1) (by omega)).2
      have n9 : ¬ 0 < w (k + 1) := fun z9 => by
        have z := h1
        rw [Int32.le_iff_toInt_le, nI_toInt (by omega)] at z
        have z : ((w (k + 1) : Nat) : Int) ≤ 0 := z
        omega
      exact hr 0 340 _ _ _ none (by decide +kernel) (by rfl) (⟨rfl, hS.iff ⟨fun z => hB.mpr (Or.inl z), fun z => (hB.mp z).resolve_right (fun z => n9 z.2.1)⟩⟩)
    · have h1 := cn_le.mp h1
      refine z_rcs hc hH 5 (pc' := 235) (lv' := [(6, .int x6), (5, .int (nI k)), (0, .ref 50), (1, .int x1), (2, .int (nI md)), (3, .int pr), (4, .int 0)]) (st' := [.int ((nI k) + 2), .ref 51]) (μ' := μ3) (by rfl) ?_
      rw [show nI k + 2 = nI (k + 2) from nI_add k 2]
      refine zq_iald hc hH (by rfl) 34 (by decide +kernel) (in2) ?_
      rw [nI_clamp (n := k + 2) (by omega), (hw3 (k + 2) (by omega)).1]
      refine zq_if hc hH (by rfl) (tg := 340) (by rfl) (fun h2 => ?_) (fun h2 => ?_)
      · have h2 := cm_le.mp h2
        have b9 := (hw3 (k + 2) (by omega)).2
        have n9 : ¬ 0 < w (k + 2) := fun z9 => by
          have z := h2
          rw [Int32.le_iff_toInt_le, nI_toInt (by omega)] at z
          have z : ((w (k + 2) : Nat) : Int) ≤ 0 := z
          omega
        exact hr 0 340 _ _ _ none (by decide +kernel) (by rfl) (⟨rfl, hS.iff ⟨fun z => hB.mpr (Or.inl z), fun z => (hB.mp z).resolve_right (fun z => n9 z.2.2.1)⟩⟩)
      · have h2 := cn_le.mp h2
        have b1 := (hw3 (k + 1) (by omega)).2
        have p1 : 0 < w (k + 1) := by
          have z := h1
          rw [Int32.not_le, Int32.lt_iff_toInt_lt, nI_toInt (by omega)] at z
          have z : (0 : Int) < ((w (k + 1) : Nat) : Int) := z
          omega
        have b2 := (hw3 (k + 2) (by omega)).2
        have p2 : 0 < w (k + 2) := by
          have z := h2
          rw [Int32.not_le, Int32.lt_iff_toInt_lt, nI_toInt (by omega)] at z
          have z : (0 : Int) < ((w (k + 2) : Nat) : Int) := z
          omega
        exact stR d' Z μ B hc hr m md q k x1 x6 pr hm hk ih μ3 w hS.2.2.1 hw3 e43 (by omega) (by omega) p1 p2 (fun μ4 h4 => s340 d' Z μ B hc hr md k x1 x6 pr μ4 ((hS.tr h4).iff ⟨fun z => hB.mpr (z.imp id (fun y => ⟨hk9, p1, p2, y⟩)), fun z => (hB.mp z).imp id (fun y => y.2.2.2)⟩))
  · show Z 0 212 [(6, .int x6), (5, .int (nI k)), (0, .ref 50), (1, .int x1), (2, .int (nI md)), (3, .int pr), (4, .int 0)] [.int 0] μ3
    have nR : ¬ (rs k ∧ 0 < w (k + 1) ∧ 0 < w (k + 2) ∧ dc m (subr w k) k (k + 1)) := fun z => hk9 z.1
    refine z_rcs hc hH 1 (pc' := 340) (lv' := [(6, .int x6), (5, .int (nI k)), (0, .ref 50), (1, .int x1), (2, .int (nI md)), (3, .int pr), (4, .int 0)]) (st' := []) (μ' := μ3) (by rfl) ?_
    exact hr 0 340 _ _ _ none (by decide +kernel) (by rfl) (⟨rfl, hS.iff ⟨fun z => hB.mpr (Or.inl z), fun z => (hB.mp z).resolve_right nR⟩⟩)
theorem s107 (d' : Nat) (Z : zK) (μ : zM) (B : Prop) (hc : z_clo z_x0 mi_X7_sets (z_C d') Z) (hr : z_ret mi_X7_sets (fun r μ' => r = none ∧ SU μ μ' B) Z) (m md q k last : Nat) (x1 pr : Int32) (hd : 1 ≤ d') (hm : md + (m + 1) + q = 4) (hk : k < 34) (ih : ∀ (μ : zM) (w : Nat → Nat) (fr md last q : Nat) (pr : Int32), a_H μ → RW μ 51 w → μ.1 50 4 = nI q → md + m + q = 4 → fr ≤ 34 → (∀ k, k < 34 → ((0 < md ∧ μ.1 54 (md - 1) = 0 ∧ μ.1 55 (md - 1) = nI k) ↔ last = k + 1)) → z_C d' mi_X7_sets [.ref 50, .int (nI fr), .int (nI md), .int pr, .int 0] μ (fun r μ' => r = none ∧ SU μ μ' (dc m w fr last))) (w : Nat → Nat) (hH0 : a_H μ) (hw : RW μ 51 w) (e4 : μ.1 50 4 = nI q) (hwk : w k ≠ 0) (hB : B ↔ ((3 ≤ w k ∧ last ≠ k + 1 ∧ dc m (sub3 w k) k 0) ∨ (rs k ∧ 0 < w (k + 1) ∧ 0 < w (k + 2) ∧ dc m (subr w k) k (k + 1)))) (hl : (0 < md ∧ μ.1 54 (md - 1) = 0 ∧ μ.1 55 (md - 1) = nI k) ↔ last = k + 1) : Z 0 107 [(5, .int (nI k)), (0, .ref 50), (1, .int x1), (2, .int (nI md)), (3, .int pr), (4, .int 0)] [] μ := by
  have hH := zh_X7_sets
  have ink : vp_in (nI k) 34 := vp_in_nI hk (by decide)
  have t140 : ∀ x : Int32, (x = 1 ∧ last = k + 1) ∨ (x = 0 ∧ ¬ last = k + 1) → Z 0 140 [(5, .int (nI k)), (0, .ref 50), (1, .int x1), (2, .int (nI md)), (3, .int pr), (4, .int 0)] [.int x] μ := by
    rintro x (⟨rfl, hx⟩ | ⟨rfl, hx⟩)
    · skip
      refine z_rcs hc hH 4 (pc' := 148) (lv' := [(6, .int 1), (5, .int (nI k)), (0, .ref 50), (1, .int x1), (2, .int (nI md)), (3, .int pr), (4, .int 0)]) (st' := [.int (nI k), .ref 51]) (μ' := μ) (by rfl) ?_
      refine zq_iald hc hH (by rfl) 34 (by decide +kernel) (ink) ?_
      rw [nI_clamp (n := k) (by omega), (hw k hk).1]
      refine z_rcs hc hH 1 (pc' := 150) (lv' := [(6, .int 1), (5, .int (nI k)), (0, .ref 50), (1, .int x1), (2, .int (nI md)), (3, .int pr), (4, .int 0)]) (st' := [.int 3, .int (nI (w k))]) (μ' := μ) (by rfl) ?_
      refine zq_ic hc hH (by rfl) (tg := 207) (by rfl) (fun h1 => ?_) (fun h1 => ?_)
      · have h1 := cm_lt.mp h1
        exact s207 d' Z μ B hc hr m md q k last x1 pr hd hm hk ih w hH0 hw e4 hwk hB 1 μ (SU_rf hH0 (fun z => z.2.1 hx))
      · have h1 := cn_lt.mp h1
        refine z_rcs hc hH 2 (pc' := 207) (lv' := [(6, .int 1), (5, .int (nI k)), (0, .ref 50), (1, .int x1), (2, .int (nI md)), (3, .int pr), (4, .int 0)]) (st' := []) (μ' := μ) (by rfl) ?_
        exact s207 d' Z μ B hc hr m md q k last x1 pr hd hm hk ih w hH0 hw e4 hwk hB 1 μ (SU_rf hH0 (fun z => z.2.1 hx))
    · skip
      refine z_rcs hc hH 4 (pc' := 148) (lv' := [(6, .int 0), (5, .int (nI k)), (0, .ref 50), (1, .int x1), (2, .int (nI md)), (3, .int pr), (4, .int 0)]) (st' := [.int (nI k), .ref 51]) (μ' := μ) (by rfl) ?_
      refine zq_iald hc hH (by rfl) 34 (by decide +kernel) (ink) ?_
      rw [nI_clamp (n := k) (by omega), (hw k hk).1]
      refine z_rcs hc hH 1 (pc' := 150) (lv' := [(6, .int 0), (5, .int (nI k)), (0, .ref 50), (1, .int x1), (2, .int (nI md)), (3, .int pr), (4, .int 0)]) (st' := [.int 3, .int (nI (w k))]) (μ' := μ) (by rfl) ?_
      refine zq_ic hc hH (by rfl) (tg := 207) (by rfl) (fun h1 => ?_) (fun h1 => ?_)
      · have h1 := cm_lt.mp h1
        have n9 : ¬ 3 ≤ w k := fun z9 => by
          have z := h1
          rw [Int32.lt_iff_toInt_lt, nI_toInt (by have := (hw k hk).2; omega)] at z
          have z : ((w k : Nat) : Int) < 3 := z
          omega
        exact s207 d' Z μ B hc hr m md q k last x1 pr hd hm hk ih w hH0 hw e4 hwk hB 0 μ (SU_rf hH0 (fun z => n9 z.1))
      · have h1 := cn_lt.mp h1
        refine z_rcs hc hH 2 (pc' := 158) (lv' := [(6, .int 0), (5, .int (nI k)), (0, .ref 50), (1, .int x1), (2, .int (nI md)), (3, .int pr), (4, .int 0)]) (st' := []) (μ' := μ) (by rfl) ?_
        have h3 : 3 ≤ w k := by
          have z := h1
          rw [Int32.not_lt, Int32.le_iff_toInt_le, nI_toInt (by have := (hw k hk).2; omega)] at z
          have z : (3 : Int) ≤ ((w k : Nat) : Int) := z
          omega
        exact st3 d' Z μ B hc hr m md q k x1 0 pr hm hk ih μ w hH0 hw e4 h3 (fun μ3 h9 => s207 d' Z μ B hc hr m md q k last x1 pr hd hm hk ih w hH0 hw e4 hwk hB 0 μ3 (h9.iff ⟨fun z => ⟨h3, hx, z⟩, fun z => z.2.2⟩))
  refine z_rcs hc hH 1 (pc' := 108) (lv' := [(5, .int (nI k)), (0, .ref 50), (1, .int x1), (2, .int (nI md)), (3, .int pr), (4, .int 0)]) (st' := [.int (nI md)]) (μ' := μ) (by rfl) ?_
  refine zq_if hc hH (by rfl) (tg := 139) (by rfl) (fun h1 => ?_) (fun h1 => ?_)
  · have h1 := cm_le.mp h1
    have n0 : ¬ 0 < md := fun z9 => by
      have z := h1
      rw [Int32.le_iff_toInt_le, nI_toInt (by omega)] at z
      have z : ((md : Nat) : Int) ≤ 0 := z
      omega
    refine z_rcs hc hH 1 (pc' := 140) (lv' := [(5, .int (nI k)), (0, .ref 50), (1, .int x1), (2, .int (nI md)), (3, .int pr), (4, .int 0)]) (st' := [.int 0]) (μ' := μ) (by rfl) ?_
    exact t140 0 (Or.inr ⟨rfl, fun z => n0 (hl.mpr z).1⟩)
  · have h1 := cn_le.mp h1
    have g0 : 0 < md := by
      have z := h1
      rw [Int32.not_le, Int32.lt_iff_toInt_lt, nI_toInt (by omega)] at z
      have z : (0 : Int) < ((md : Nat) : Int) := z
      omega
    have em : nI md - 1 = nI (md - 1) := s_1 md (by omega) (by omega)
    have inm : vp_in (nI (md - 1)) 5 := vp_in_nI (by omega) (by decide)
    refine z_rcs hc hH 5 (pc' := 118) (lv' := [(5, .int (nI k)), (0, .ref 50), (1, .int x1), (2, .int (nI md)), (3, .int pr), (4, .int 0)]) (st' := [.int ((nI md) - 1), .ref 54]) (μ' := μ) (by rfl) ?_
    rw [em]
    refine zq_iald hc hH (by rfl) 5 (by decide +kernel) (inm) ?_
    rw [nI_clamp (n := md - 1) (by omega)]
    refine zq_if hc hH (by rfl) (tg := 139) (by rfl) (fun h2 => ?_) (fun h2 => ?_)
    · have h2 := cm_ne.mp h2
      have n1 := h2
      refine z_rcs hc hH 1 (pc' := 140) (lv' := [(5, .int (nI k)), (0, .ref 50), (1, .int x1), (2, .int (nI md)), (3, .int pr), (4, .int 0)]) (st' := [.int 0]) (μ' := μ) (by rfl) ?_
      exact t140 0 (Or.inr ⟨rfl, fun z => n1 (hl.mpr z).2.1⟩)
    · have h2 := cn_ne.mp h2
      have g1 := h2
      refine z_rcs hc hH 5 (pc' := 129) (lv' := [(5, .int (nI k)), (0, .ref 50), (1, .int x1), (2, .int (nI md)), (3, .int pr), (4, .int 0)]) (st' := [.int ((nI md) - 1), .ref 55]) (μ' := μ) (by rfl) ?_
      rw [em]
      refine zq_iald hc hH (by rfl) 5 (by decide +kernel) (inm) ?_
      rw [nI_clamp (n := md - 1) (by omega)]
      refine z_rcs hc hH 1 (pc' := 132) (lv' := [(5, .int (nI k)), (0, .ref 50), (1, .int x1), (2, .int (nI md)), (3, .int pr), (4, .int 0)]) (st' := [.int (nI k), .int (μ.1 55 (md - 1))]) (μ' := μ) (by rfl) ?_
      refine zq_ic hc hH (by rfl) (tg := 139) (by rfl) (fun h3 => ?_) (fun h3 => ?_)
      · have h3 := cm_ne.mp h3
        have n2 := h3
        refine z_rcs hc hH 1 (pc' := 140) (lv' := [(5, .int (nI k)), (0, .ref 50), (1, .int x1), (2, .int (nI md)), (3, .int pr), (4, .int 0)]) (st' := [.int 0]) (μ' := μ) (by rfl) ?_
        exact t140 0 (Or.inr ⟨rfl, fun z => n2 (hl.mpr z).2.2⟩)
      · have h3 := cn_ne.mp h3
        have g2 := h3
        refine z_rcs hc hH 2 (pc' := 140) (lv' := [(5, .int (nI k)), (0, .ref 50), (1, .int x1), (2, .int (nI md)), (3, .int pr), (4, .int 0)]) (st' := [.int 1]) (μ' := μ) (by rfl) ?_
        exact t140 1 (Or.inl ⟨rfl, hl.mp ⟨g0, g1, g2⟩⟩)
theorem s76 (d' : Nat) (Z : zK) (μ : zM) (B : Prop) (hc : z_clo z_x0 mi_X7_sets (z_C d') Z) (hr : z_ret mi_X7_sets (fun r μ' => r = none ∧ SU μ μ' B) Z) (m md q fr last : Nat) (x1 pr : Int32) (hd : 1 ≤ d') (hm : md + (m + 1) + q = 4) (ih : ∀ (μ : zM) (w : Nat → Nat) (fr md last q : Nat) (pr : Int32), a_H μ → RW μ 51 w → μ.1 50 4 = nI q → md + m + q = 4 → fr ≤ 34 → (∀ k, k < 34 → ((0 < md ∧ μ.1 54 (md - 1) = 0 ∧ μ.1 55 (md - 1) = nI k) ↔ last = k + 1)) → z_C d' mi_X7_sets [.ref 50, .int (nI fr), .int (nI md), .int pr, .int 0] μ (fun r μ' => r = none ∧ SU μ μ' (dc m w fr last))) (w : Nat → Nat) (hH0 : a_H μ) (hw : RW μ 51 w) (e4 : μ.1 50 4 = nI q) (hB : B ↔ dc (m + 1) w fr last) (hl : ∀ k, k < 34 → ((0 < md ∧ μ.1 54 (md - 1) = 0 ∧ μ.1 55 (md - 1) = nI k) ↔ last = k + 1)) : ∀ n i, i + n = 34 → fk w (34 - fr) fr = fk w n i → Z 0 76 [(5, .int (nI i)), (0, .ref 50), (1, .int x1), (2, .int (nI md)), (3, .int pr), (4, .int 0)] [] μ := by
  have hH := zh_X7_sets
  intro n
  induction n with
  | zero =>
    intro i hi hf
    have hi : i = 34 := by omega
    subst hi
    refine z_rcs hc hH 2 (pc' := 80) (lv' := [(5, .int (nI 34)), (0, .ref 50), (1, .int x1), (2, .int (nI md)), (3, .int pr), (4, .int 0)]) (st' := [.int 34, .int (nI 34)]) (μ' := μ) (by rfl) ?_
    refine zq_ic hc hH (by rfl) (tg := 99) (by rfl) (fun _ => ?_) (fun h9 => (zb_t (ge_nIt (n := 34) (i := 34) (by decide) (by decide)) h9).elim)
    refine z_rcs hc hH 2 (pc' := 103) (lv' := [(5, .int (nI 34)), (0, .ref 50), (1, .int x1), (2, .int (nI md)), (3, .int pr), (4, .int 0)]) (st' := [.int 34, .int (nI 34)]) (μ' := μ) (by rfl) ?_
    refine zq_ic hc hH (by rfl) (tg := 107) (by rfl) (fun h9 => (zb_t h9 (cn_ne.mpr rfl)).elim) (fun _ => ?_)
    exact hr 0 106 _ _ _ none (by decide +kernel) (by rfl) (⟨rfl, SU_rf hH0 (fun z => by have z2 := (hB.mp z).1; rw [hf] at z2; exact absurd z2 (by show ¬ 34 < 34; omega))⟩)
  | succ n ihn =>
    intro i hi hf
    have hin : vp_in (nI i) 34 := vp_in_nI (by omega) (by decide)
    have hf : fk w (34 - fr) fr = if w i ≠ 0 then i else fk w n (i + 1) := hf
    refine z_rcs hc hH 2 (pc' := 80) (lv' := [(5, .int (nI i)), (0, .ref 50), (1, .int x1), (2, .int (nI md)), (3, .int pr), (4, .int 0)]) (st' := [.int 34, .int (nI i)]) (μ' := μ) (by rfl) ?_
    refine zq_ic hc hH (by rfl) (tg := 99) (by rfl) (fun h9 => (zb_t h9 (ge_nI (n := 34) (i := i) (by omega) (by decide))).elim) (fun _ => ?_)
    refine z_rcs hc hH 3 (pc' := 89) (lv' := [(5, .int (nI i)), (0, .ref 50), (1, .int x1), (2, .int (nI md)), (3, .int pr), (4, .int 0)]) (st' := [.int (nI i), .ref 51]) (μ' := μ) (by rfl) ?_
    refine zq_iald hc hH (by rfl) 34 (by decide +kernel) (hin) ?_
    rw [nI_clamp (n := i) (by omega), (hw i (by omega)).1]
    refine zq_if hc hH (by rfl) (tg := 99) (by rfl) (fun h1 => ?_) (fun h1 => ?_)
    · have h1 := cm_ne.mp h1
      have wi : w i ≠ 0 := fun e => h1 (by rw [e]; rfl)
      rw [if_pos wi] at hf
      refine z_rcs hc hH 2 (pc' := 103) (lv' := [(5, .int (nI i)), (0, .ref 50), (1, .int x1), (2, .int (nI md)), (3, .int pr), (4, .int 0)]) (st' := [.int 34, .int (nI i)]) (μ' := μ) (by rfl) ?_
      refine zq_ic hc hH (by rfl) (tg := 107) (by rfl) (fun _ => ?_) (fun h9 => (zb_t (cm_ne.mpr (fun z => by have := (nI_eq (a := i) (b := 34) (by omega) (by omega)).mp z; omega)) h9).elim)
      exact s107 d' Z μ B hc hr m md q i last x1 pr hd hm (by omega) ih w hH0 hw e4 wi (hB.trans ⟨fun z => by have z2 := z.2; rw [hf] at z2; exact z2, fun z => ⟨by rw [hf]; omega, by rw [hf]; exact z⟩⟩) (hl i (by omega))
    · have h1 := cn_ne.mp h1
      refine z_rcs hc hH 2 (pc' := 76) (lv' := [(5, .int ((nI i) + 1)), (0, .ref 50), (1, .int x1), (2, .int (nI md)), (3, .int pr), (4, .int 0)]) (st' := []) (μ' := μ) (by rfl) ?_
      have wi : w i = 0 := (nI_eq (by have := (hw i (by omega)).2; omega) (by omega)).mp h1
      rw [if_neg (fun z => z wi)] at hf
      rw [nI_1]
      exact ihn (i + 1) (by omega) hf
theorem fc_X7_sets : ∀ (m d : Nat), m + 2 ≤ d → ∀ (μ : zM) (w : Nat → Nat) (fr md last q : Nat) (pr : Int32), a_H μ → RW μ 51 w → μ.1 50 4 = nI q → md + m + q = 4 → fr ≤ 34 → (∀ k, k < 34 → ((0 < md ∧ μ.1 54 (md - 1) = 0 ∧ μ.1 55 (md - 1) = nI k) ↔ last = k + 1)) → z_C d mi_X7_sets [.ref 50, .int (nI fr), .int (nI md), .int pr, .int 0] μ (fun r μ' => r = none ∧ SU μ μ' (dc m w fr last)) := by
  intro m
  induction m with
  | zero =>
    intro d hd μ w fr md last q pr hH0 hw e4 hm hf hl
    refine z_C_in (by decide) (by omega) (fun d' Z ed hc hr => ?_)
    have hH := zh_X7_sets
    refine z_rcs hc hH 5 (pc' := 7) (lv' := [(0, .ref 50), (1, .int (nI fr)), (2, .int (nI md)), (3, .int pr), (4, .int 0)]) (st' := [.int (4 - (μ.1 50 4)), .int (nI md)]) (μ' := μ) (by rfl) ?_
    refine zq_ic hc hH (by rfl) (tg := 73) (by rfl) (fun h9 => (zb_t h9 (cn_ne.mpr (by rw [e4, s_4 q (by omega), show 4 - q = md by omega]))).elim) (fun _ => ?_)
    refine z_rcs hc hH 4 (pc' := 16) (lv' := [(6, .int 0), (5, .int 1), (0, .ref 50), (1, .int (nI fr)), (2, .int (nI md)), (3, .int pr), (4, .int 0)]) (st' := []) (μ' := μ) (by rfl) ?_
    exact se16 d' Z μ _ hc hr md _ pr w hH0 hw Iff.rfl 34 0 (by omega) 1 (Or.inl ⟨rfl, fun j hj => absurd hj (by omega)⟩)
  | succ m ih =>
    intro d hd μ w fr md last q pr hH0 hw e4 hm hf hl
    refine z_C_in (by decide) (by omega) (fun d' Z ed hc hr => ?_)
    have hH := zh_X7_sets
    refine z_rcs hc hH 5 (pc' := 7) (lv' := [(0, .ref 50), (1, .int (nI fr)), (2, .int (nI md)), (3, .int pr), (4, .int 0)]) (st' := [.int (4 - (μ.1 50 4)), .int (nI md)]) (μ' := μ) (by rfl) ?_
    refine zq_ic hc hH (by rfl) (tg := 73) (by rfl) (fun _ => ?_) (fun h9 => (zb_t (cm_ne.mpr (fun z => by rw [e4, s_4 q (by omega)] at z; have := (nI_eq (by omega) (by omega)).mp z; omega)) h9).elim)
    refine z_rcs hc hH 2 (pc' := 76) (lv' := [(5, .int (nI fr)), (0, .ref 50), (1, .int (nI fr)), (2, .int (nI md)), (3, .int pr), (4, .int 0)]) (st' := []) (μ' := μ) (by rfl) ?_
    exact s76 d' Z μ _ hc hr m md q fr last _ pr (by omega) hm (fun μ w fr md last q pr a b c e f g => ih d' (by omega) μ w fr md last q pr a b c e f g) w hH0 hw e4 Iff.rfl hl (34 - fr) fr (by omega) rfl

/-! pass answers alike: who said so wins -/
set_option maxRecDepth 8000
theorem sy_x {μ : zM} (R : RCl μ μ) : ∀ d, 2 ≤ d → z_C d mi_X6_someoneSays [.ref 0] μ (zR μ (.int (nB (anS μ)))) := fun d hd => by
  rw [← any_eq R]; exact gc_someoneSays d hd μ
theorem sy_m (μ : zM) : ∀ d, 2 ≤ d → z_C d mi_X7_anySays [.ref 50] (z_ui μ 50 0 0) (zR (z_ui μ 50 0 0) (.int (nB (anS μ)))) := fun d hd => by
  have z := gm_anySays d (by omega) (z_ui μ 50 0 0)
  simp (disch := first | decide | exact ad_ne (by decide) | exact ad_m (by decide) | exact ad_l (by decide) | exact ad_g (by decide) | exact ad_lt (by decide) | exact ad_o (by decide) | omega) only [ui_o, ui_k] at z
  exact z
theorem anS_e {m m' : zM} (h : EqM m m') : anS m' = anS m := by
  have e7 : ∀ k, m'.1 71 k = m.1 71 k := fun k => (h 71 k (Or.inl ⟨by decide, by decide⟩)).1
  unfold anS
  rw [e7 0, e7 1, e7 2, e7 3]
theorem pw_x {d : Nat} (hd : 12 ≤ d) {μ : zM} {p t c : Nat} (R : RCl μ μ) (P : RPh μ μ p t c) (hp : p ≠ 1) (han : anS μ = true) (W : zM → Prop) (cw : ∀ d, 11 ≤ d → z_C d mi_X6_winByTile [.ref 0] μ (fun r μ' => r = none ∧ W μ')) : z_C d mi_X6_pass [.ref 0] μ (fun r μ' => r = some (.int 1) ∧ W μ') := by
  rcases P.p3 with q | q | q
  · exact absurd q hp
  · exact gc_passW2 d (by omega) μ _ cw (by rw [P.px, q]; decide) (by rw [P.px, q]; decide) (anS μ) (sy_x R) han
  · exact gc_passW3 d (by omega) μ _ cw (by rw [P.px, q]; decide) (by rw [P.px, q]; decide) (anS μ) (sy_x R) han
/-- what the hand of a SEAT is worth with the tile of another: both sides -/
noncomputable def SW (μ : zM) (c s : Nat) (BXs BMs : Q4 → Prop) : Prop := (∀ M, WE μ M → a_H M → ∀ d, 10 ≤ d → z_C d mi_X6_weighHand [.ref 0, .int (nI s), .int 0] M (fun r W => ∃ v, BXs v ∧ r = some (.int v.1) ∧ WOj M W ∧ bqJ W = v ∧ a_H W)) ∧ (∀ M, SVl μ M → a_H M → ∀ d, 699 ≤ d → z_C d mi_X7_value [.ref 50, .int (nI s), .int (nI c), .int 0] M (fun r W => r = none ∧ a_H W ∧ SMj M W ∧ BMs (bq W))) ∧ ∀ v b, BXs v → BMs b → v.1 = b.1 ∧ v.2.1 = b.2.1 ∧ v.2.2.2 = b.2.2.2
theorem bqJ_pS {M : zM} {s c : Nat} {n : Int32} : bqJ (pS M s c n) = bqJ M := by
  unfold bqJ pS
  simp (disch := first | decide | exact ad_ne (by decide) | exact ad_m (by decide) | exact ad_l (by decide) | exact ad_g (by decide) | exact ad_lt (by decide) | exact ad_o (by decide) | omega) only [ui_o, ui_j]
theorem a_H_pS {M : zM} (h : a_H M) {s c : Nat} (hs : s < 4) {n : Int32} : a_H (pS M s c n) := by
  unfold pS
  obtain rfl | rfl | rfl | rfl := t_four hs
  all_goals exact a_H_ui (a_H_ui (a_H_ui h (bI_top _)) (bI_top _)) (bI_top _)
theorem sw_of {μ : zM} {p t c s : Nat} (R : RCl μ μ) (P : RPh μ μ p t c) (hA : a_H μ) (G : GP μ) (hp : p ≠ 1) (hs : s < 4) (hst : s ≠ t) (hc : c < 34) : ∃ BXs BMs, SW μ c s BXs BMs := by
  obtain ⟨w, aw, q, sL, lL, H⟩ := hf_of R P hA G hs
  have h3 := aw_3 R P hA hp hs hst H hc
  obtain ⟨dl, hdl4, hdl⟩ := dealer_nI hA
  obtain ⟨f, hf4, hf47⟩ := i_nat (v := μ.1 50 47) (n := 4) (hA 50 47).1 (hA 50 47).2 (by decide)
  obtain ⟨rd, hrd2, hrd⟩ : ∃ rd, rd < 2 ∧ μ.1 50 41 = nI rd := by
    rcases R.rd with e | e
    · exact ⟨0, by decide, e⟩
    · exact ⟨1, by decide, e⟩
  refine ⟨_, _, fun M hM hAM d hd => z_C_mono (wx0 R P hs H hA hc h3 hf4 hf47 hdl hrd M hM hAM d hd) (fun r W z => ?_), wm0 hs H hA hc hf4 hf47 hdl hrd, fun v b h1 h2 => wb0 R P hs H hA hc h3 hf4 hdl4 hrd2 h1 h2⟩
  obtain ⟨μj, ⟨j1, j2, j3, j4⟩, e1, e2⟩ := z
  exact ⟨bqJ μj, j4, e2, by rw [e1]; exact wo_pS j2, by rw [e1]; exact bqJ_pS, by rw [e1]; exact a_H_pS j3 hs⟩
theorem lg_pw001 {d : Nat} (hd : 705 ≤ d) {μ : zM} (hJ : LJ μ) (hR : RG μ μ) {p t c u1 u2 u3 dl e : Nat} (P : RPh μ μ p t c) (hp : p ≠ 1) (hc : c < 34) (hu1 : (t + 1) % 4 = u1) (hu2 : (t + 2) % 4 = u2) (hu3 : (t + 3) % 4 = u3) (hdl : μ.1 50 40 = nI dl) (hdl4 : dl < 4) (he : (dl + 1) % 4 = e) (han : anS μ = true) (hs1 : decide (μ.1 71 u1 = 0) = true) (hs2 : decide (μ.1 71 u2 = 0) = true) (hs3 : decide (μ.1 71 u3 = 0) = false) (kx : z_C d mi_X6_pass [.ref 0] μ (fun _ μ' => LJ μ' ∧ EqM μ μ')) (km : ∀ μ1, LJ μ1 → z_C d mi_X7_pass [.ref 50] μ1 (fun _ μ' => LJ μ' ∧ EqX μ1 μ')) : GO d mi_X6_pass mi_X7_pass [.ref 0] [.ref 50] μ := by
  have hA := hJ.1.1
  have R := hR.1
  have ht4 := P.t4
  have hp0 : ¬ μ.1 50 44 = 0 := by rw [P.pm]; rcases P.p3 with q | q | q <;> (rw [q]; decide)
  have G := hJ.1.2.2 hp0
  have cx : μ.1 0 15 = nI c := P.cx.trans (if_neg (by omega))
  have cm : μ.1 50 49 = nI c := P.cm.trans (if_neg (by omega))
  have h06 : μ.1 0 6 = nI 0 := R.wc.trans P.w0
  have hu14 : u1 < 4 := by omega
  have hu24 : u2 < 4 := by omega
  have hu34 : u3 < 4 := by omega
  obtain ⟨X3, M3, S3⟩ := sw_of (s := u3) R P hA G hp hu34 (by omega) hc
  have cw := fun (d : Nat) (hd : 11 ≤ d) => gc_winByTile001 d (by omega) μ t c u1 u2 u3 ht4 P.tx hu1 hu14 hu2 hu24 hu3 hu34 dl e (R.dl.trans hdl) hdl4 he h06 hA (by rw [R.sy u1 hu14]; exact hs1) (by rw [R.sy u2 hu24]; exact hs2) (by rw [R.sy u3 hu34]; exact hs3) X3 S3.1
  have cc := pw_x (d := d) (by omega) R P hp han _ cw
  refine z_C_mono (zC_and d kx cc) (fun r μ1 qq => ?_)
  obtain ⟨⟨q1, qM⟩, q2, v3, W3, b3, f3, o3, q3⟩ := qq
  have eM : EqM μ (z_ui μ1 50 0 0) := eqM_tr qM (t0_EqM μ1 0)
  have E : ∀ r k', gMc r k' → (z_ui μ1 50 0 0).1 r k' = μ.1 r k' := fun r k' g => (eM r k' g).1
  have hA1 : a_H (z_ui μ1 50 0 0) := a_H_ui q1.1.1 (bI_top _)
  refine go_in q1 km q2 (X := wA001 W3 t dl e u1 u2 u3 v3 μ) (by rw [q3]; exact eqX_rf _) ?_
  have mm := gm_passW d (by omega) μ1 (by
    rw [(qM 50 44 (Or.inr ⟨rfl, by decide, by decide⟩)).1, P.pm]
    rcases P.p3 with q | q | q
    · exact absurd q hp
    · rw [q]; decide
    · rw [q]; decide) (anS μ1) (sy_m μ1) ((anS_e qM).trans han) _ (fun d hd => gm_allWin001 d (by omega) (z_ui μ1 50 0 0) hA1 t c u1 u2 u3 dl e ht4 ((E 50 45 (Or.inr ⟨rfl, by decide, by decide⟩)).trans P.tm) hu1 hu14 hu2 hu24 hu3 hu34 ((E 50 40 (Or.inr ⟨rfl, by decide, by decide⟩)).trans hdl) hdl4 he hc ((E 50 49 (Or.inr ⟨rfl, by decide, by decide⟩)).trans cm) (by rw [E 71 u1 (Or.inl ⟨by decide, by decide⟩)]; exact hs1) (by rw [E 71 u2 (Or.inl ⟨by decide, by decide⟩)]; exact hs2) (by rw [E 71 u3 (Or.inl ⟨by decide, by decide⟩)]; exact hs3) M3 (fun M hM => S3.2.1 M (fun r k g => (hM r k g).trans (EqM_SVl eM r k g))))
  refine z_C_mono mm (fun r μ' z => ?_)
  obtain ⟨z1, N3, g3, z3⟩ := z
  refine ⟨z1, RG.cg (eqX_rf _) (sm_EqM z3) ?_⟩
  have P' := P.cg (eqX_rf _) eM
  have k3 := S3.2.2 _ _ b3 g3
  exact rg_aw001 (R.cg (eqX_rf _) eM) P'.fo (P'.tx.trans P'.tm.symm) ((E 50 40 (Or.inr ⟨rfl, by decide, by decide⟩)).trans hdl) hdl4 he ht4 hu1 hu2 hu3 cx o3 f3 k3.1 k3.2.1 k3.2.2
theorem lg_pw010 {d : Nat} (hd : 705 ≤ d) {μ : zM} (hJ : LJ μ) (hR : RG μ μ) {p t c u1 u2 u3 dl e : Nat} (P : RPh μ μ p t c) (hp : p ≠ 1) (hc : c < 34) (hu1 : (t + 1) % 4 = u1) (hu2 : (t + 2) % 4 = u2) (hu3 : (t + 3) % 4 = u3) (hdl : μ.1 50 40 = nI dl) (hdl4 : dl < 4) (he : (dl + 1) % 4 = e) (han : anS μ = true) (hs1 : decide (μ.1 71 u1 = 0) = true) (hs2 : decide (μ.1 71 u2 = 0) = false) (hs3 : decide (μ.1 71 u3 = 0) = true) (kx : z_C d mi_X6_pass [.ref 0] μ (fun _ μ' => LJ μ' ∧ EqM μ μ')) (km : ∀ μ1, LJ μ1 → z_C d mi_X7_pass [.ref 50] μ1 (fun _ μ' => LJ μ' ∧ EqX μ1 μ')) : GO d mi_X6_pass mi_X7_pass [.ref 0] [.ref 50] μ := by
  have hA := hJ.1.1
  have R := hR.1
  have ht4 := P.t4
  have hp0 : ¬ μ.1 50 44 = 0 := by rw [P.pm]; rcases P.p3 with q | q | q <;> (rw [q]; decide)
  have G := hJ.1.2.2 hp0
  have cx : μ.1 0 15 = nI c := P.cx.trans (if_neg (by omega))
  have cm : μ.1 50 49 = nI c := P.cm.trans (if_neg (by omega))
  have h06 : μ.1 0 6 = nI 0 := R.wc.trans P.w0
  have hu14 : u1 < 4 := by omega
  have hu24 : u2 < 4 := by omega
  have hu34 : u3 < 4 := by omega
  obtain ⟨X2, M2, S2⟩ := sw_of (s := u2) R P hA G hp hu24 (by omega) hc
  have cw := fun (d : Nat) (hd : 11 ≤ d) => gc_winByTile010 d (by omega) μ t c u1 u2 u3 ht4 P.tx hu1 hu14 hu2 hu24 hu3 hu34 dl e (R.dl.trans hdl) hdl4 he h06 hA (by rw [R.sy u1 hu14]; exact hs1) (by rw [R.sy u2 hu24]; exact hs2) (by rw [R.sy u3 hu34]; exact hs3) X2 S2.1
  have cc := pw_x (d := d) (by omega) R P hp han _ cw
  refine z_C_mono (zC_and d kx cc) (fun r μ1 qq => ?_)
  obtain ⟨⟨q1, qM⟩, q2, v2, W2, b2, f2, o2, q3⟩ := qq
  have eM : EqM μ (z_ui μ1 50 0 0) := eqM_tr qM (t0_EqM μ1 0)
  have E : ∀ r k', gMc r k' → (z_ui μ1 50 0 0).1 r k' = μ.1 r k' := fun r k' g => (eM r k' g).1
  have hA1 : a_H (z_ui μ1 50 0 0) := a_H_ui q1.1.1 (bI_top _)
  refine go_in q1 km q2 (X := wA010 W2 t dl e u1 u2 u3 v2 μ) (by rw [q3]; exact eqX_rf _) ?_
  have mm := gm_passW d (by omega) μ1 (by
    rw [(qM 50 44 (Or.inr ⟨rfl, by decide, by decide⟩)).1, P.pm]
    rcases P.p3 with q | q | q
    · exact absurd q hp
    · rw [q]; decide
    · rw [q]; decide) (anS μ1) (sy_m μ1) ((anS_e qM).trans han) _ (fun d hd => gm_allWin010 d (by omega) (z_ui μ1 50 0 0) hA1 t c u1 u2 u3 dl e ht4 ((E 50 45 (Or.inr ⟨rfl, by decide, by decide⟩)).trans P.tm) hu1 hu14 hu2 hu24 hu3 hu34 ((E 50 40 (Or.inr ⟨rfl, by decide, by decide⟩)).trans hdl) hdl4 he hc ((E 50 49 (Or.inr ⟨rfl, by decide, by decide⟩)).trans cm) (by rw [E 71 u1 (Or.inl ⟨by decide, by decide⟩)]; exact hs1) (by rw [E 71 u2 (Or.inl ⟨by decide, by decide⟩)]; exact hs2) (by rw [E 71 u3 (Or.inl ⟨by decide, by decide⟩)]; exact hs3) M2 (fun M hM => S2.2.1 M (fun r k g => (hM r k g).trans (EqM_SVl eM r k g))))
  refine z_C_mono mm (fun r μ' z => ?_)
  obtain ⟨z1, N2, g2, z3⟩ := z
  refine ⟨z1, RG.cg (eqX_rf _) (sm_EqM z3) ?_⟩
  have P' := P.cg (eqX_rf _) eM
  have k2 := S2.2.2 _ _ b2 g2
  exact rg_aw010 (R.cg (eqX_rf _) eM) P'.fo (P'.tx.trans P'.tm.symm) ((E 50 40 (Or.inr ⟨rfl, by decide, by decide⟩)).trans hdl) hdl4 he ht4 hu1 hu2 hu3 cx o2 f2 k2.1 k2.2.1 k2.2.2
theorem lg_pw011 {d : Nat} (hd : 705 ≤ d) {μ : zM} (hJ : LJ μ) (hR : RG μ μ) {p t c u1 u2 u3 dl e : Nat} (P : RPh μ μ p t c) (hp : p ≠ 1) (hc : c < 34) (hu1 : (t + 1) % 4 = u1) (hu2 : (t + 2) % 4 = u2) (hu3 : (t + 3) % 4 = u3) (hdl : μ.1 50 40 = nI dl) (hdl4 : dl < 4) (he : (dl + 1) % 4 = e) (han : anS μ = true) (hs1 : decide (μ.1 71 u1 = 0) = true) (hs2 : decide (μ.1 71 u2 = 0) = false) (hs3 : decide (μ.1 71 u3 = 0) = false) (kx : z_C d mi_X6_pass [.ref 0] μ (fun _ μ' => LJ μ' ∧ EqM μ μ')) (km : ∀ μ1, LJ μ1 → z_C d mi_X7_pass [.ref 50] μ1 (fun _ μ' => LJ μ' ∧ EqX μ1 μ')) : GO d mi_X6_pass mi_X7_pass [.ref 0] [.ref 50] μ := by
  have hA := hJ.1.1
  have R := hR.1
  have ht4 := P.t4
  have hp0 : ¬ μ.1 50 44 = 0 := by rw [P.pm]; rcases P.p3 with q | q | q <;> (rw [q]; decide)
  have G := hJ.1.2.2 hp0
  have cx : μ.1 0 15 = nI c := P.cx.trans (if_neg (by omega))
  have cm : μ.1 50 49 = nI c := P.cm.trans (if_neg (by omega))
  have h06 : μ.1 0 6 = nI 0 := R.wc.trans P.w0
  have hu14 : u1 < 4 := by omega
  have hu24 : u2 < 4 := by omega
  have hu34 : u3 < 4 := by omega
  obtain ⟨X2, M2, S2⟩ := sw_of (s := u2) R P hA G hp hu24 (by omega) hc
  obtain ⟨X3, M3, S3⟩ := sw_of (s := u3) R P hA G hp hu34 (by omega) hc
  have cw := fun (d : Nat) (hd : 11 ≤ d) => gc_winByTile011 d (by omega) μ t c u1 u2 u3 ht4 P.tx hu1 hu14 hu2 hu24 hu3 hu34 dl e (R.dl.trans hdl) hdl4 he h06 hA (by rw [R.sy u1 hu14]; exact hs1) (by rw [R.sy u2 hu24]; exact hs2) (by rw [R.sy u3 hu34]; exact hs3) X2 S2.1 X3 S3.1
  have cc := pw_x (d := d) (by omega) R P hp han _ cw
  refine z_C_mono (zC_and d kx cc) (fun r μ1 qq => ?_)
  obtain ⟨⟨q1, qM⟩, q2, v2, W2, v3, W3, b2, f2, o2, b3, f3, o3, q3⟩ := qq
  have eM : EqM μ (z_ui μ1 50 0 0) := eqM_tr qM (t0_EqM μ1 0)
  have E : ∀ r k', gMc r k' → (z_ui μ1 50 0 0).1 r k' = μ.1 r k' := fun r k' g => (eM r k' g).1
  have hA1 : a_H (z_ui μ1 50 0 0) := a_H_ui q1.1.1 (bI_top _)
  refine go_in q1 km q2 (X := wA011 W3 t dl e u1 u2 u3 v2 v3 μ) (by rw [q3]; exact eqX_rf _) ?_
  have mm := gm_passW d (by omega) μ1 (by
    rw [(qM 50 44 (Or.inr ⟨rfl, by decide, by decide⟩)).1, P.pm]
    rcases P.p3 with q | q | q
    · exact absurd q hp
    · rw [q]; decide
    · rw [q]; decide) (anS μ1) (sy_m μ1) ((anS_e qM).trans han) _ (fun d hd => gm_allWin011 d (by omega) (z_ui μ1 50 0 0) hA1 t c u1 u2 u3 dl e ht4 ((E 50 45 (Or.inr ⟨rfl, by decide, by decide⟩)).trans P.tm) hu1 hu14 hu2 hu24 hu3 hu34 ((E 50 40 (Or.inr ⟨rfl, by decide, by decide⟩)).trans hdl) hdl4 he hc ((E 50 49 (Or.inr ⟨rfl, by decide, by decide⟩)).trans cm) (by rw [E 71 u1 (Or.inl ⟨by decide, by decide⟩)]; exact hs1) (by rw [E 71 u2 (Or.inl ⟨by decide, by decide⟩)]; exact hs2) (by rw [E 71 u3 (Or.inl ⟨by decide, by decide⟩)]; exact hs3) M2 (fun M hM => S2.2.1 M (fun r k g => (hM r k g).trans (EqM_SVl eM r k g))) M3 (fun M hM => S3.2.1 M (fun r k g => (hM r k g).trans (EqM_SVl eM r k g))))
  refine z_C_mono mm (fun r μ' z => ?_)
  obtain ⟨z1, N2, N3, g2, g3, z3⟩ := z
  refine ⟨z1, RG.cg (eqX_rf _) (sm_EqM z3) ?_⟩
  have P' := P.cg (eqX_rf _) eM
  have k2 := S2.2.2 _ _ b2 g2
  have k3 := S3.2.2 _ _ b3 g3
  exact rg_aw011 (R.cg (eqX_rf _) eM) P'.fo (P'.tx.trans P'.tm.symm) ((E 50 40 (Or.inr ⟨rfl, by decide, by decide⟩)).trans hdl) hdl4 he ht4 hu1 hu2 hu3 cx o2 f2 k2.1 k2.2.1 k2.2.2 o3 f3 k3.1 k3.2.1 k3.2.2
theorem lg_pw100 {d : Nat} (hd : 705 ≤ d) {μ : zM} (hJ : LJ μ) (hR : RG μ μ) {p t c u1 u2 u3 dl e : Nat} (P : RPh μ μ p t c) (hp : p ≠ 1) (hc : c < 34) (hu1 : (t + 1) % 4 = u1) (hu2 : (t + 2) % 4 = u2) (hu3 : (t + 3) % 4 = u3) (hdl : μ.1 50 40 = nI dl) (hdl4 : dl < 4) (he : (dl + 1) % 4 = e) (han : anS μ = true) (hs1 : decide (μ.1 71 u1 = 0) = false) (hs2 : decide (μ.1 71 u2 = 0) = true) (hs3 : decide (μ.1 71 u3 = 0) = true) (kx : z_C d mi_X6_pass [.ref 0] μ (fun _ μ' => LJ μ' ∧ EqM μ μ')) (km : ∀ μ1, LJ μ1 → z_C d mi_X7_pass [.ref 50] μ1 (fun _ μ' => LJ μ' ∧ EqX μ1 μ')) : GO d mi_X6_pass mi_X7_pass [.ref 0] [.ref 50] μ := by
  have hA := hJ.1.1
  have R := hR.1
  have ht4 := P.t4
  have hp0 : ¬ μ.1 50 44 = 0 := by rw [P.pm]; rcases P.p3 with q | q | q <;> (rw [q]; decide)
  have G := hJ.1.2.2 hp0
  have cx : μ.1 0 15 = nI c := P.cx.trans (if_neg (by omega))
  have cm : μ.1 50 49 = nI c := P.cm.trans (if_neg (by omega))
  have h06 : μ.1 0 6 = nI 0 := R.wc.trans P.w0
  have hu14 : u1 < 4 := by omega
  have hu24 : u2 < 4 := by omega
  have hu34 : u3 < 4 := by omega
  obtain ⟨X1, M1, S1⟩ := sw_of (s := u1) R P hA G hp hu14 (by omega) hc
  have cw := fun (d : Nat) (hd : 11 ≤ d) => gc_winByTile100 d (by omega) μ t c u1 u2 u3 ht4 P.tx hu1 hu14 hu2 hu24 hu3 hu34 dl e (R.dl.trans hdl) hdl4 he h06 hA (by rw [R.sy u1 hu14]; exact hs1) (by rw [R.sy u2 hu24]; exact hs2) (by rw [R.sy u3 hu34]; exact hs3) X1 S1.1
  have cc := pw_x (d := d) (by omega) R P hp han _ cw
  refine z_C_mono (zC_and d kx cc) (fun r μ1 qq => ?_)
  obtain ⟨⟨q1, qM⟩, q2, v1, W1, b1, f1, o1, q3⟩ := qq
  have eM : EqM μ (z_ui μ1 50 0 0) := eqM_tr qM (t0_EqM μ1 0)
  have E : ∀ r k', gMc r k' → (z_ui μ1 50 0 0).1 r k' = μ.1 r k' := fun r k' g => (eM r k' g).1
  have hA1 : a_H (z_ui μ1 50 0 0) := a_H_ui q1.1.1 (bI_top _)
  refine go_in q1 km q2 (X := wA100 W1 t dl e u1 u2 u3 v1 μ) (by rw [q3]; exact eqX_rf _) ?_
  have mm := gm_passW d (by omega) μ1 (by
    rw [(qM 50 44 (Or.inr ⟨rfl, by decide, by decide⟩)).1, P.pm]
    rcases P.p3 with q | q | q
    · exact absurd q hp
    · rw [q]; decide
    · rw [q]; decide) (anS μ1) (sy_m μ1) ((anS_e qM).trans han) _ (fun d hd => gm_allWin100 d (by omega) (z_ui μ1 50 0 0) hA1 t c u1 u2 u3 dl e ht4 ((E 50 45 (Or.inr ⟨rfl, by decide, by decide⟩)).trans P.tm) hu1 hu14 hu2 hu24 hu3 hu34 ((E 50 40 (Or.inr ⟨rfl, by decide, by decide⟩)).trans hdl) hdl4 he hc ((E 50 49 (Or.inr ⟨rfl, by decide, by decide⟩)).trans cm) (by rw [E 71 u1 (Or.inl ⟨by decide, by decide⟩)]; exact hs1) (by rw [E 71 u2 (Or.inl ⟨by decide, by decide⟩)]; exact hs2) (by rw [E 71 u3 (Or.inl ⟨by decide, by decide⟩)]; exact hs3) M1 (fun M hM => S1.2.1 M (fun r k g => (hM r k g).trans (EqM_SVl eM r k g))))
  refine z_C_mono mm (fun r μ' z => ?_)
  obtain ⟨z1, N1, g1, z3⟩ := z
  refine ⟨z1, RG.cg (eqX_rf _) (sm_EqM z3) ?_⟩
  have P' := P.cg (eqX_rf _) eM
  have k1 := S1.2.2 _ _ b1 g1
  exact rg_aw100 (R.cg (eqX_rf _) eM) P'.fo (P'.tx.trans P'.tm.symm) ((E 50 40 (Or.inr ⟨rfl, by decide, by decide⟩)).trans hdl) hdl4 he ht4 hu1 hu2 hu3 cx o1 f1 k1.1 k1.2.1 k1.2.2
theorem lg_pw101 {d : Nat} (hd : 705 ≤ d) {μ : zM} (hJ : LJ μ) (hR : RG μ μ) {p t c u1 u2 u3 dl e : Nat} (P : RPh μ μ p t c) (hp : p ≠ 1) (hc : c < 34) (hu1 : (t + 1) % 4 = u1) (hu2 : (t + 2) % 4 = u2) (hu3 : (t + 3) % 4 = u3) (hdl : μ.1 50 40 = nI dl) (hdl4 : dl < 4) (he : (dl + 1) % 4 = e) (han : anS μ = true) (hs1 : decide (μ.1 71 u1 = 0) = false) (hs2 : decide (μ.1 71 u2 = 0) = true) (hs3 : decide (μ.1 71 u3 = 0) = false) (kx : z_C d mi_X6_pass [.ref 0] μ (fun _ μ' => LJ μ' ∧ EqM μ μ')) (km : ∀ μ1, LJ μ1 → z_C d mi_X7_pass [.ref 50] μ1 (fun _ μ' => LJ μ' ∧ EqX μ1 μ')) : GO d mi_X6_pass mi_X7_pass [.ref 0] [.ref 50] μ := by
  have hA := hJ.1.1
  have R := hR.1
  have ht4 := P.t4
  have hp0 : ¬ μ.1 50 44 = 0 := by rw [P.pm]; rcases P.p3 with q | q | q <;> (rw [q]; decide)
  have G := hJ.1.2.2 hp0
  have cx : μ.1 0 15 = nI c := P.cx.trans (if_neg (by omega))
  have cm : μ.1 50 49 = nI c := P.cm.trans (if_neg (by omega))
  have h06 : μ.1 0 6 = nI 0 := R.wc.trans P.w0
  have hu14 : u1 < 4 := by omega
  have hu24 : u2 < 4 := by omega
  have hu34 : u3 < 4 := by omega
  obtain ⟨X1, M1, S1⟩ := sw_of (s := u1) R P hA G hp hu14 (by omega) hc
  obtain ⟨X3, M3, S3⟩ := sw_of (s := u3) R P hA G hp hu34 (by omega) hc
  have cw := fun (d : Nat) (hd : 11 ≤ d) => gc_winByTile101 d (by omega) μ t c u1 u2 u3 ht4 P.tx hu1 hu14 hu2 hu24 hu3 hu34 dl e (R.dl.trans hdl) hdl4 he h06 hA (by rw [R.sy u1 hu14]; exact hs1) (by rw [R.sy u2 hu24]; exact hs2) (by rw [R.sy u3 hu34]; exact hs3) X1 S1.1 X3 S3.1
  have cc := pw_x (d := d) (by omega) R P hp han _ cw
  refine z_C_mono (zC_and d kx cc) (fun r μ1 qq => ?_)
  obtain ⟨⟨q1, qM⟩, q2, v1, W1, v3, W3, b1, f1, o1, b3, f3, o3, q3⟩ := qq
  have eM : EqM μ (z_ui μ1 50 0 0) := eqM_tr qM (t0_EqM μ1 0)
  have E : ∀ r k', gMc r k' → (z_ui μ1 50 0 0).1 r k' = μ.1 r k' := fun r k' g => (eM r k' g).1
  have hA1 : a_H (z_ui μ1 50 0 0) := a_H_ui q1.1.1 (bI_top _)
  refine go_in q1 km q2 (X := wA101 W3 t dl e u1 u2 u3 v1 v3 μ) (by rw [q3]; exact eqX_rf _) ?_
  have mm := gm_passW d (by omega) μ1 (by
    rw [(qM 50 44 (Or.inr ⟨rfl, by decide, by decide⟩)).1, P.pm]
    rcases P.p3 with q | q | q
    · exact absurd q hp
    · rw [q]; decide
    · rw [q]; decide) (anS μ1) (sy_m μ1) ((anS_e qM).trans han) _ (fun d hd => gm_allWin101 d (by omega) (z_ui μ1 50 0 0) hA1 t c u1 u2 u3 dl e ht4 ((E 50 45 (Or.inr ⟨rfl, by decide, by decide⟩)).trans P.tm) hu1 hu14 hu2 hu24 hu3 hu34 ((E 50 40 (Or.inr ⟨rfl, by decide, by decide⟩)).trans hdl) hdl4 he hc ((E 50 49 (Or.inr ⟨rfl, by decide, by decide⟩)).trans cm) (by rw [E 71 u1 (Or.inl ⟨by decide, by decide⟩)]; exact hs1) (by rw [E 71 u2 (Or.inl ⟨by decide, by decide⟩)]; exact hs2) (by rw [E 71 u3 (Or.inl ⟨by decide, by decide⟩)]; exact hs3) M1 (fun M hM => S1.2.1 M (fun r k g => (hM r k g).trans (EqM_SVl eM r k g))) M3 (fun M hM => S3.2.1 M (fun r k g => (hM r k g).trans (EqM_SVl eM r k g))))
  refine z_C_mono mm (fun r μ' z => ?_)
  obtain ⟨z1, N1, N3, g1, g3, z3⟩ := z
  refine ⟨z1, RG.cg (eqX_rf _) (sm_EqM z3) ?_⟩
  have P' := P.cg (eqX_rf _) eM
  have k1 := S1.2.2 _ _ b1 g1
  have k3 := S3.2.2 _ _ b3 g3
  exact rg_aw101 (R.cg (eqX_rf _) eM) P'.fo (P'.tx.trans P'.tm.symm) ((E 50 40 (Or.inr ⟨rfl, by decide, by decide⟩)).trans hdl) hdl4 he ht4 hu1 hu2 hu3 cx o1 f1 k1.1 k1.2.1 k1.2.2 o3 f3 k3.1 k3.2.1 k3.2.2
theorem lg_pw110 {d : Nat} (hd : 705 ≤ d) {μ : zM} (hJ : LJ μ) (hR : RG μ μ) {p t c u1 u2 u3 dl e : Nat} (P : RPh μ μ p t c) (hp : p ≠ 1) (hc : c < 34) (hu1 : (t + 1) % 4 = u1) (hu2 : (t + 2) % 4 = u2) (hu3 : (t + 3) % 4 = u3) (hdl : μ.1 50 40 = nI dl) (hdl4 : dl < 4) (he : (dl + 1) % 4 = e) (han : anS μ = true) (hs1 : decide (μ.1 71 u1 = 0) = false) (hs2 : decide (μ.1 71 u2 = 0) = false) (hs3 : decide (μ.1 71 u3 = 0) = true) (kx : z_C d mi_X6_pass [.ref 0] μ (fun _ μ' => LJ μ' ∧ EqM μ μ')) (km : ∀ μ1, LJ μ1 → z_C d mi_X7_pass [.ref 50] μ1 (fun _ μ' => LJ μ' ∧ EqX μ1 μ')) : GO d mi_X6_pass mi_X7_pass [.ref 0] [.ref 50] μ := by
  have hA := hJ.1.1
  have R := hR.1
  have ht4 := P.t4
  have hp0 : ¬ μ.1 50 44 = 0 := by rw [P.pm]; rcases P.p3 with q | q | q <;> (rw [q]; decide)
  have G := hJ.1.2.2 hp0
  have cx : μ.1 0 15 = nI c := P.cx.trans (if_neg (by omega))
  have cm : μ.1 50 49 = nI c := P.cm.trans (if_neg (by omega))
  have h06 : μ.1 0 6 = nI 0 := R.wc.trans P.w0
  have hu14 : u1 < 4 := by omega
  have hu24 : u2 < 4 := by omega
  have hu34 : u3 < 4 := by omega
  obtain ⟨X1, M1, S1⟩ := sw_of (s := u1) R P hA G hp hu14 (by omega) hc
  obtain ⟨X2, M2, S2⟩ := sw_of (s := u2) R P hA G hp hu24 (by omega) hc
  have cw := fun (d : Nat) (hd : 11 ≤ d) => gc_winByTile110 d (by omega) μ t c u1 u2 u3 ht4 P.tx hu1 hu14 hu2 hu24 hu3 hu34 dl e (R.dl.trans hdl) hdl4 he h06 hA (by rw [R.sy u1 hu14]; exact hs1) (by rw [R.sy u2 hu24]; exact hs2) (by rw [R.sy u3 hu34]; exact hs3) X1 S1.1 X2 S2.1
  have cc := pw_x (d := d) (by omega) R P hp han _ cw
  refine z_C_mono (zC_and d kx cc) (fun r μ1 qq => ?_)
  obtain ⟨⟨q1, qM⟩, q2, v1, W1, v2, W2, b1, f1, o1, b2, f2, o2, q3⟩ := qq
  have eM : EqM μ (z_ui μ1 50 0 0) := eqM_tr qM (t0_EqM μ1 0)
  have E : ∀ r k', gMc r k' → (z_ui μ1 50 0 0).1 r k' = μ.1 r k' := fun r k' g => (eM r k' g).1
  have hA1 : a_H (z_ui μ1 50 0 0) := a_H_ui q1.1.1 (bI_top _)
  refine go_in q1 km q2 (X := wA110 W2 t dl e u1 u2 u3 v1 v2 μ) (by rw [q3]; exact eqX_rf _) ?_
  have mm := gm_passW d (by omega) μ1 (by
    rw [(qM 50 44 (Or.inr ⟨rfl, by decide, by decide⟩)).1, P.pm]
    rcases P.p3 with q | q | q
    · exact absurd q hp
    · rw [q]; decide
    · rw [q]; decide) (anS μ1) (sy_m μ1) ((anS_e qM).trans han) _ (fun d hd => gm_allWin110 d (by omega) (z_ui μ1 50 0 0) hA1 t c u1 u2 u3 dl e ht4 ((E 50 45 (Or.inr ⟨rfl, by decide, by decide⟩)).trans P.tm) hu1 hu14 hu2 hu24 hu3 hu34 ((E 50 40 (Or.inr ⟨rfl, by decide, by decide⟩)).trans hdl) hdl4 he hc ((E 50 49 (Or.inr ⟨rfl, by decide, by decide⟩)).trans cm) (by rw [E 71 u1 (Or.inl ⟨by decide, by decide⟩)]; exact hs1) (by rw [E 71 u2 (Or.inl ⟨by decide, by decide⟩)]; exact hs2) (by rw [E 71 u3 (Or.inl ⟨by decide, by decide⟩)]; exact hs3) M1 (fun M hM => S1.2.1 M (fun r k g => (hM r k g).trans (EqM_SVl eM r k g))) M2 (fun M hM => S2.2.1 M (fun r k g => (hM r k g).trans (EqM_SVl eM r k g))))
  refine z_C_mono mm (fun r μ' z => ?_)
  obtain ⟨z1, N1, N2, g1, g2, z3⟩ := z
  refine ⟨z1, RG.cg (eqX_rf _) (sm_EqM z3) ?_⟩
  have P' := P.cg (eqX_rf _) eM
  have k1 := S1.2.2 _ _ b1 g1
  have k2 := S2.2.2 _ _ b2 g2
  exact rg_aw110 (R.cg (eqX_rf _) eM) P'.fo (P'.tx.trans P'.tm.symm) ((E 50 40 (Or.inr ⟨rfl, by decide, by decide⟩)).trans hdl) hdl4 he ht4 hu1 hu2 hu3 cx o1 f1 k1.1 k1.2.1 k1.2.2 o2 f2 k2.1 k2.2.1 k2.2.2
theorem lg_pw111 {d : Nat} (hd : 705 ≤ d) {μ : zM} (hJ : LJ μ) (hR : RG μ μ) {p t c u1 u2 u3 dl e : Nat} (P : RPh μ μ p t c) (hp : p ≠ 1) (hc : c < 34) (hu1 : (t + 1) % 4 = u1) (hu2 : (t + 2) % 4 = u2) (hu3 : (t + 3) % 4 = u3) (hdl : μ.1 50 40 = nI dl) (hdl4 : dl < 4) (he : (dl + 1) % 4 = e) (han : anS μ = true) (hs1 : decide (μ.1 71 u1 = 0) = false) (hs2 : decide (μ.1 71 u2 = 0) = false) (hs3 : decide (μ.1 71 u3 = 0) = false) (kx : z_C d mi_X6_pass [.ref 0] μ (fun _ μ' => LJ μ' ∧ EqM μ μ')) (km : ∀ μ1, LJ μ1 → z_C d mi_X7_pass [.ref 50] μ1 (fun _ μ' => LJ μ' ∧ EqX μ1 μ')) : GO d mi_X6_pass mi_X7_pass [.ref 0] [.ref 50] μ := by
  have hA := hJ.1.1
  have R := hR.1
  have ht4 := P.t4
  have hp0 : ¬ μ.1 50 44 = 0 := by rw [P.pm]; rcases P.p3 with q | q | q <;> (rw [q]; decide)
  have G := hJ.1.2.2 hp0
  have cx : μ.1 0 15 = nI c := P.cx.trans (if_neg (by omega))
  have cm : μ.1 50 49 = nI c := P.cm.trans (if_neg (by omega))
  have h06 : μ.1 0 6 = nI 0 := R.wc.trans P.w0
  have hu14 : u1 < 4 := by omega
  have hu24 : u2 < 4 := by omega
  have hu34 : u3 < 4 := by omega
  obtain ⟨X1, M1, S1⟩ := sw_of (s := u1) R P hA G hp hu14 (by omega) hc
  obtain ⟨X2, M2, S2⟩ := sw_of (s := u2) R P hA G hp hu24 (by omega) hc
  obtain ⟨X3, M3, S3⟩ := sw_of (s := u3) R P hA G hp hu34 (by omega) hc
  have cw := fun (d : Nat) (hd : 11 ≤ d) => gc_winByTile111 d (by omega) μ t c u1 u2 u3 ht4 P.tx hu1 hu14 hu2 hu24 hu3 hu34 dl e (R.dl.trans hdl) hdl4 he h06 hA (by rw [R.sy u1 hu14]; exact hs1) (by rw [R.sy u2 hu24]; exact hs2) (by rw [R.sy u3 hu34]; exact hs3) X1 S1.1 X2 S2.1 X3 S3.1
  have cc := pw_x (d := d) (by omega) R P hp han _ cw
  refine z_C_mono (zC_and d kx cc) (fun r μ1 qq => ?_)
  obtain ⟨⟨q1, qM⟩, q2, v1, W1, v2, W2, v3, W3, b1, f1, o1, b2, f2, o2, b3, f3, o3, q3⟩ := qq
  have eM : EqM μ (z_ui μ1 50 0 0) := eqM_tr qM (t0_EqM μ1 0)
  have E : ∀ r k', gMc r k' → (z_ui μ1 50 0 0).1 r k' = μ.1 r k' := fun r k' g => (eM r k' g).1
  have hA1 : a_H (z_ui μ1 50 0 0) := a_H_ui q1.1.1 (bI_top _)
  refine go_in q1 km q2 (X := wA111 W3 t dl e u1 u2 u3 v1 v2 v3 μ) (by rw [q3]; exact eqX_rf _) ?_
  have mm := gm_passW d (by omega) μ1 (by
    rw [(qM 50 44 (Or.inr ⟨rfl, by decide, by decide⟩)).1, P.pm]
    rcases P.p3 with q | q | q
    · exact absurd q hp
    · rw [q]; decide
    · rw [q]; decide) (anS μ1) (sy_m μ1) ((anS_e qM).trans han) _ (fun d hd => gm_allWin111 d (by omega) (z_ui μ1 50 0 0) hA1 t c u1 u2 u3 dl e ht4 ((E 50 45 (Or.inr ⟨rfl, by decide, by decide⟩)).trans P.tm) hu1 hu14 hu2 hu24 hu3 hu34 ((E 50 40 (Or.inr ⟨rfl, by decide, by decide⟩)).trans hdl) hdl4 he hc ((E 50 49 (Or.inr ⟨rfl, by decide, by decide⟩)).trans cm) (by rw [E 71 u1 (Or.inl ⟨by decide, by decide⟩)]; exact hs1) (by rw [E 71 u2 (Or.inl ⟨by decide, by decide⟩)]; exact hs2) (by rw [E 71 u3 (Or.inl ⟨by decide, by decide⟩)]; exact hs3) M1 (fun M hM => S1.2.1 M (fun r k g => (hM r k g).trans (EqM_SVl eM r k g))) M2 (fun M hM => S2.2.1 M (fun r k g => (hM r k g).trans (EqM_SVl eM r k g))) M3 (fun M hM => S3.2.1 M (fun r k g => (hM r k g).trans (EqM_SVl eM r k g))))
  refine z_C_mono mm (fun r μ' z => ?_)
  obtain ⟨z1, N1, N2, N3, g1, g2, g3, z3⟩ := z
  refine ⟨z1, RG.cg (eqX_rf _) (sm_EqM z3) ?_⟩
  have P' := P.cg (eqX_rf _) eM
  have k1 := S1.2.2 _ _ b1 g1
  have k2 := S2.2.2 _ _ b2 g2
  have k3 := S3.2.2 _ _ b3 g3
  exact rg_aw111 (R.cg (eqX_rf _) eM) P'.fo (P'.tx.trans P'.tm.symm) ((E 50 40 (Or.inr ⟨rfl, by decide, by decide⟩)).trans hdl) hdl4 he ht4 hu1 hu2 hu3 cx o1 f1 k1.1 k1.2.1 k1.2.2 o2 f2 k2.1 k2.2.1 k2.2.2 o3 f3 k3.1 k3.2.1 k3.2.2
/-! pass answers alike: nobody said so -/
set_option maxRecDepth 8000
theorem nI_sb {a b : Nat} (h : b ≤ a) : nI a - nI b = nI (a - b) := by
  have e : nI a = nI (a - b) + nI b := by rw [nI_add, Nat.sub_add_cancel h]
  rw [e, Int32.add_sub_cancel]
theorem left_n {f n : Nat} (h : f + n ≤ 122) : (122 : Int32) - nI f - nI n = nI (122 - f - n) := by
  rw [show (122 : Int32) = nI 122 from rfl, nI_sb (by omega), nI_sb (by omega)]
theorem TE_lT {μ : zM} {t u1 u2 u3 : Nat} {c1 c2 c3 : Bool} (ht : t < 4) (h1 : u1 < 4) (h2 : u2 < 4) (h3 : u3 < 4) : TE μ (lT μ t u1 u2 u3 c1 c2 c3) := fun i hi a h4 h5 k => lT_r ⟨by omega, by omega, by omega, by omega, by omega⟩
theorem ov_f {μ M : zM} {t c : Nat} {W : Nat → Int64} (e : EqM μ M) : ∀ r k, gMc r k → r ≠ 70 → r ≠ 61 → (r ≠ 50 ∨ (k ≠ 43 ∧ k ≠ 59)) → (ovF M t c W).1 r k = μ.1 r k := fun r k g z1 z2 z3 => (ovF_o z1 z2 z3).trans (e r k g).1
theorem lg_pass3 {d : Nat} (hd : 705 ≤ d) {μ : zM} (hJ : LJ μ) (hR : RG μ μ) {t c : Nat} (P : RPh μ μ 3 t c) (han : anS μ = false) (kx : z_C d mi_X6_pass [.ref 0] μ (fun _ μ' => LJ μ' ∧ EqM μ μ')) (km : ∀ μ1, LJ μ1 → z_C d mi_X7_pass [.ref 50] μ1 (fun _ μ' => LJ μ' ∧ EqX μ1 μ')) : GO d mi_X6_pass mi_X7_pass [.ref 0] [.ref 50] μ := by
  have hA := hJ.1.1
  have R := hR.1
  have ht4 := P.t4
  have hp0 : ¬ μ.1 50 44 = 0 := by rw [P.pm]; decide
  have G := hJ.1.2.2 hp0
  have hc : c < 34 := by
    rcases P.c3 with q | ⟨_, q⟩
    · exact q
    · exact absurd q (by decide)
  have cx : μ.1 0 15 = nI c := P.cx.trans (if_neg (by omega))
  have cm : μ.1 50 49 = nI c := P.cm.trans (if_neg (by omega))
  have hsy := an_z han
  obtain ⟨W, hW⟩ := ww_of R P hA G hc
  obtain ⟨f, hf4, hf47⟩ := i_nat (v := μ.1 50 47) (n := 4) (hA 50 47).1 (hA 50 47).2 (by decide)
  obtain ⟨n, hn4, hn46⟩ := i_nat (v := μ.1 50 46) (n := 122) (hA 50 46).1 (hA 50 46).2 (by decide)
  have hfn : f + n ≤ 122 := by
    have y := G.2.1
    rw [hf47, hn46, nI_toInt (by omega), nI_toInt (by omega)] at y
    omega
  have e48 : μ.1 50 48 = nI f := G.2.2.1.trans hf47
  have xl : xLf μ = nI (122 - f - n) := by rw [left_x R P rfl rfl rfl, hf47, hn46, left_n hfn]
  have hf3 : f < 4 := by
    have y := (G.2.2.2.1 P.pm).2
    rw [hf47, nI_toInt (by omega)] at y
    omega
  obtain ⟨k2, hk2a, hk2b⟩ := i_nat (v := μ.1 59 (122 + f)) (n := 33) (hA 59 _).1 (hA 59 _).2 (by decide)
  have hk2 : k2 < 34 := by omega
  refine go_yes (X := dT1 (bkH (lTf μ t c W)) t f k2) (y := 1) kx km (z_C_mono (gc_pass3 d (by omega) μ t c ((t + 1) % 4) ((t + 2) % 4) ((t + 3) % 4) _ _ _ ht4 P.tx hc cx rfl (Nat.mod_lt _ (by decide)) (hW ((t + 1) % 4) (Nat.mod_lt _ (by decide))).1 rfl (Nat.mod_lt _ (by decide)) (hW ((t + 2) % 4) (Nat.mod_lt _ (by decide))).1 rfl (Nat.mod_lt _ (by decide)) (hW ((t + 3) % 4) (Nat.mod_lt _ (by decide))).1 f k2 (by omega) (P.fo.trans hf47) (R.sd.trans P.is) hk2 ((R.wl _ (by omega)).trans hk2b) (by rw [P.px]; decide) (by rw [P.px]; decide) (anS μ) (sy_x R) han) (fun r μ' z => ⟨z.1, by rw [z.2]; exact eqX_rf _⟩)) (fun μ1 h1 qM => ?_)
  have eM : EqM μ (z_ui μ1 50 0 0) := eqM_tr qM (t0_EqM μ1 0)
  have P' := P.cg (eqX_rf _) eM
  have R' := R.cg (eqX_rf _) eM
  have o := ov_f (t := t) (c := c) (W := W) eM
  have ov := ov_go (hW.m (eB_SE (eB_M eM))) (a_H_ui h1.1.1 (bI_top _)) ht4 P'.tm (P'.cm.trans (if_neg (by omega)))
  obtain ⟨RO, QO, fO⟩ := ov_rq (W := W) R' P' (Or.inr rfl) (fun j hj => (eM 71 j (Or.inl ⟨by decide, by decide⟩)).1.trans (hsy j hj))
  rw [if_neg (by decide)] at QO
  refine z_C_mono (gm_pass3 d (by omega) μ1 t f k2 ht4 (by rw [(qM 50 44 (Or.inr ⟨rfl, by decide, by decide⟩)).1, P.pm]; decide) (by rw [(qM 50 44 (Or.inr ⟨rfl, by decide, by decide⟩)).1, P.pm]; decide) (anS μ1) (sy_m μ1) ((anS_e qM).trans han) (ovF (z_ui μ1 50 0 0) t c W) ov ((o 50 45 (Or.inr ⟨rfl, by decide, by decide⟩) (by decide) (by decide) (Or.inr ⟨by decide, by decide⟩)).trans P.tm) hk2 (by omega) ((o 50 48 (Or.inr ⟨rfl, by decide, by decide⟩) (by decide) (by decide) (Or.inr ⟨by decide, by decide⟩)).trans e48) ((o 59 (122 + f) (Or.inl ⟨by decide, by decide⟩) (by decide) (by decide) (Or.inl (by decide))).trans hk2b)) (fun r μ' z => ⟨z.1, RG.cg (eqX_rf _) (sm_EqM z.2) ?_⟩)
  exact rg_pass3 RO QO ht4 hf3 ((o 50 47 (Or.inr ⟨rfl, by decide, by decide⟩) (by decide) (by decide) (Or.inr ⟨by decide, by decide⟩)).trans hf47) ((o 50 48 (Or.inr ⟨rfl, by decide, by decide⟩) (by decide) (by decide) (Or.inr ⟨by decide, by decide⟩)).trans e48) hk2 ((o 59 (122 + f) (Or.inl ⟨by decide, by decide⟩) (by decide) (by decide) (Or.inl (by decide))).trans hk2b) (by rw [o 50 46 (Or.inr ⟨rfl, by decide, by decide⟩) (by decide) (by decide) (Or.inr ⟨by decide, by decide⟩)]; exact hA 50 46) (by
    obtain ⟨w, aw, q, sL, lL, H⟩ := hf_of R P hA G ht4
    rw [o 60 (34 * t + k2) (Or.inl ⟨by decide, by decide⟩) (by decide) (by decide) (Or.inl (by decide)), (H.1.1 k2 hk2).1]
    exact of_decide_eq_false (kn_m1 (by have := (H.1.1 k2 hk2).2; omega)))
theorem lg_pass2d {d : Nat} (hd : 705 ≤ d) {μ : zM} (hJ : LJ μ) (hR : RG μ μ) {t c : Nat} (P : RPh μ μ 2 t c) (han : anS μ = false) (hlf : ¬ 122 - μ.1 50 47 - μ.1 50 46 = 0) (kx : z_C d mi_X6_pass [.ref 0] μ (fun _ μ' => LJ μ' ∧ EqM μ μ')) (km : ∀ μ1, LJ μ1 → z_C d mi_X7_pass [.ref 50] μ1 (fun _ μ' => LJ μ' ∧ EqX μ1 μ')) : GO d mi_X6_pass mi_X7_pass [.ref 0] [.ref 50] μ := by
  have hA := hJ.1.1
  have R := hR.1
  have ht4 := P.t4
  have hp0 : ¬ μ.1 50 44 = 0 := by rw [P.pm]; decide
  have G := hJ.1.2.2 hp0
  have hc : c < 34 := by
    rcases P.c3 with q | ⟨_, q⟩
    · exact q
    · exact absurd q (by decide)
  have cx : μ.1 0 15 = nI c := P.cx.trans (if_neg (by omega))
  have cm : μ.1 50 49 = nI c := P.cm.trans (if_neg (by omega))
  have hsy := an_z han
  obtain ⟨W, hW⟩ := ww_of R P hA G hc
  obtain ⟨f, hf4, hf47⟩ := i_nat (v := μ.1 50 47) (n := 4) (hA 50 47).1 (hA 50 47).2 (by decide)
  obtain ⟨n, hn4, hn46⟩ := i_nat (v := μ.1 50 46) (n := 122) (hA 50 46).1 (hA 50 46).2 (by decide)
  have hfn : f + n ≤ 122 := by
    have y := G.2.1
    rw [hf47, hn46, nI_toInt (by omega), nI_toInt (by omega)] at y
    omega
  have e48 : μ.1 50 48 = nI f := G.2.2.1.trans hf47
  have xl : xLf μ = nI (122 - f - n) := by rw [left_x R P rfl rfl rfl, hf47, hn46, left_n hfn]
  have hlt : f + n < 122 := by
    rcases Nat.lt_or_ge (f + n) 122 with y | y
    · exact y
    · exfalso
      rw [hf47, hn46, left_n hfn, show 122 - f - n = 0 by omega] at hlf
      exact hlf rfl
  obtain ⟨k2, hk2a, hk2b⟩ := i_nat (v := μ.1 59 n) (n := 33) (hA 59 _).1 (hA 59 _).2 (by decide)
  have hk2 : k2 < 34 := by omega
  have hu4 : (t + 1) % 4 < 4 := Nat.mod_lt _ (by decide)
  refine go_yes (X := dT0 (lTf μ t c W) ((t + 1) % 4) n k2) (y := 1) kx km (z_C_mono (gc_pass2d d (by omega) μ t c ((t + 1) % 4) ((t + 2) % 4) ((t + 3) % 4) _ _ _ ht4 P.tx hc cx rfl (Nat.mod_lt _ (by decide)) (hW ((t + 1) % 4) (Nat.mod_lt _ (by decide))).1 rfl (Nat.mod_lt _ (by decide)) (hW ((t + 2) % 4) (Nat.mod_lt _ (by decide))).1 rfl (Nat.mod_lt _ (by decide)) (hW ((t + 3) % 4) (Nat.mod_lt _ (by decide))).1 n k2 (by omega) (R.nx.trans hn46) (R.sd.trans P.is) hk2 ((R.wl _ (by omega)).trans hk2b) _ xl ((nI_le2 (b := 0) (by omega) (by decide)).trans (decide_eq_false (by omega))) (by rw [P.px]; decide) (by rw [P.px]; decide) (anS μ) (sy_x R) han) (fun r μ' z => ⟨z.1, by rw [z.2]; exact eqX_rf _⟩)) (fun μ1 h1 qM => ?_)
  have eM : EqM μ (z_ui μ1 50 0 0) := eqM_tr qM (t0_EqM μ1 0)
  have P' := P.cg (eqX_rf _) eM
  have R' := R.cg (eqX_rf _) eM
  have o := ov_f (t := t) (c := c) (W := W) eM
  have ov := ov_go (hW.m (eB_SE (eB_M eM))) (a_H_ui h1.1.1 (bI_top _)) ht4 P'.tm (P'.cm.trans (if_neg (by omega)))
  obtain ⟨RO, QO, fO⟩ := ov_rq (W := W) R' P' (Or.inl rfl) (fun j hj => (eM 71 j (Or.inl ⟨by decide, by decide⟩)).1.trans (hsy j hj))
  rw [if_pos rfl] at QO
  refine z_C_mono (gm_pass2d d (by omega) μ1 t ((t + 1) % 4) n k2 ht4 rfl hu4 (by rw [(qM 50 44 (Or.inr ⟨rfl, by decide, by decide⟩)).1, P.pm]; decide) (by rw [(qM 50 44 (Or.inr ⟨rfl, by decide, by decide⟩)).1, P.pm]; decide) (anS μ1) (sy_m μ1) ((anS_e qM).trans han) (ovF (z_ui μ1 50 0 0) t c W) ov ((o 50 45 (Or.inr ⟨rfl, by decide, by decide⟩) (by decide) (by decide) (Or.inr ⟨by decide, by decide⟩)).trans P.tm) hk2 (by omega) ((o 50 46 (Or.inr ⟨rfl, by decide, by decide⟩) (by decide) (by decide) (Or.inr ⟨by decide, by decide⟩)).trans hn46) ((o 59 n (Or.inl ⟨by decide, by decide⟩) (by decide) (by decide) (Or.inl (by decide))).trans hk2b) (by rw [o 50 47 (Or.inr ⟨rfl, by decide, by decide⟩) (by decide) (by decide) (Or.inr ⟨by decide, by decide⟩), hf47, left_n hfn]; exact decide_eq_false (fun e => by have := (nI_eq (a := 122 - f - n) (b := 0) (by omega) (by decide)).mp e; omega))) (fun r μ' z => ⟨z.1, RG.cg (eqX_rf _) (sm_EqM z.2) ?_⟩)
  exact rg_pass2 RO (rq_34 QO) hu4 hk2 ((o 50 46 (Or.inr ⟨rfl, by decide, by decide⟩) (by decide) (by decide) (Or.inr ⟨by decide, by decide⟩)).trans hn46) (by omega) (by rw [o 50 48 (Or.inr ⟨rfl, by decide, by decide⟩) (by decide) (by decide) (Or.inr ⟨by decide, by decide⟩)]; exact hA 50 48) ((o 59 n (Or.inl ⟨by decide, by decide⟩) (by decide) (by decide) (Or.inl (by decide))).trans hk2b) fO (by
    obtain ⟨w, aw, q, sL, lL, H⟩ := hf_of R P hA G hu4
    rw [o 60 (34 * ((t + 1) % 4) + k2) (Or.inl ⟨by decide, by decide⟩) (by decide) (by decide) (Or.inl (by decide)), (H.1.1 k2 hk2).1]
    exact of_decide_eq_false (kn_m1 (by have := (H.1.1 k2 hk2).2; omega)))
theorem nbS_dl {W : Nat → Int64} {b0 b1 b2 b3 : Bool} (h0 : decide (lg_cmp (W 0) 0 = 0) = !b0) (h1 : decide (lg_cmp (W 1) 0 = 0) = !b1) (h2 : decide (lg_cmp (W 2) 0 = 0) = !b2) (h3 : decide (lg_cmp (W 3) 0 = 0) = !b3) {dl : Nat} (hdl : dl < 4) : (!decide (lg_cmp (W dl) 0 = 0)) = nbS b0 b1 b2 b3 dl := by
  obtain rfl | rfl | rfl | rfl := t_four hdl
  · rw [h0, Bool.not_not]; rfl
  · rw [h1, Bool.not_not]; rfl
  · rw [h2, Bool.not_not]; rfl
  · rw [h3, Bool.not_not]; rfl
theorem lg_pu0000 {d : Nat} (hd : 705 ≤ d) {μ : zM} (hJ : LJ μ) (hR : RG μ μ) {t c dl e : Nat} (P : RPh μ μ 2 t c) (han : anS μ = false) (hlf : 122 - μ.1 50 47 - μ.1 50 46 = 0) (hdl : μ.1 50 40 = nI dl) (hdl4 : dl < 4) (he : (dl + 1) % 4 = e) {W : Nat → Int64} (hW : WW μ μ c W) (hb0 : decide (lg_cmp (W 0) 0 = 0) = true) (hb1 : decide (lg_cmp (W 1) 0 = 0) = true) (hb2 : decide (lg_cmp (W 2) 0 = 0) = true) (hb3 : decide (lg_cmp (W 3) 0 = 0) = true) (kx : z_C d mi_X6_pass [.ref 0] μ (fun _ μ' => LJ μ' ∧ EqM μ μ')) (km : ∀ μ1, LJ μ1 → z_C d mi_X7_pass [.ref 50] μ1 (fun _ μ' => LJ μ' ∧ EqX μ1 μ')) : GO d mi_X6_pass mi_X7_pass [.ref 0] [.ref 50] μ := by
  have hA := hJ.1.1
  have R := hR.1
  have ht4 := P.t4
  have hp0 : ¬ μ.1 50 44 = 0 := by rw [P.pm]; decide
  have G := hJ.1.2.2 hp0
  have hc : c < 34 := by
    rcases P.c3 with q | ⟨_, q⟩
    · exact q
    · exact absurd q (by decide)
  have cx : μ.1 0 15 = nI c := P.cx.trans (if_neg (by omega))
  have cm : μ.1 50 49 = nI c := P.cm.trans (if_neg (by omega))
  have hsy := an_z han
  obtain ⟨f, hf4, hf47⟩ := i_nat (v := μ.1 50 47) (n := 4) (hA 50 47).1 (hA 50 47).2 (by decide)
  obtain ⟨n, hn4, hn46⟩ := i_nat (v := μ.1 50 46) (n := 122) (hA 50 46).1 (hA 50 46).2 (by decide)
  have hfn : f + n ≤ 122 := by
    have y := G.2.1
    rw [hf47, hn46, nI_toInt (by omega), nI_toInt (by omega)] at y
    omega
  have e48 : μ.1 50 48 = nI f := G.2.2.1.trans hf47
  have xl : xLf μ = nI (122 - f - n) := by rw [left_x R P rfl rfl rfl, hf47, hn46, left_n hfn]
  have TT : ∀ {μ1 : zM}, TE (lTf μ t c W) μ1 → TE μ μ1 := fun h => TE_tr (TE_lT ht4 (Nat.mod_lt _ (by decide)) (Nat.mod_lt _ (by decide)) (Nat.mod_lt _ (by decide))) h
  have z0 : (122 : Int32) - μ.1 50 47 - μ.1 50 46 = nI 0 := hlf
  have hl0 : 122 - f - n = 0 := by
    rw [hf47, hn46, left_n hfn] at z0
    exact (nI_eq (by omega) (by decide)).mp z0
  have cw := fun (d : Nat) (hd : 10 ≤ d) => gc_endUnwon0000 d (by omega) (lTf μ t c W) dl e (show (lT μ t _ _ _ _ _ _).1 0 9 = nI dl from (lT_0 (by decide)).trans (R.dl.trans hdl)) hdl4 he (W 0) (fun μ1 h1 => (hW 0 (by decide)).2.2.1 μ1 (TT h1)) (W 1) (fun μ1 h1 => (hW 1 (by decide)).2.2.1 μ1 (TT h1)) (W 2) (fun μ1 h1 => (hW 2 (by decide)).2.2.1 μ1 (TT h1)) (W 3) (fun μ1 h1 => (hW 3 (by decide)).2.2.1 μ1 (TT h1)) (W dl) (fun μ1 h1 => (hW dl hdl4).2.2.1 μ1 (TT h1)) hb0 hb1 hb2 hb3
  rw [nbS_dl (b0 := false) (b1 := false) (b2 := false) (b3 := false) hb0 hb1 hb2 hb3 hdl4] at cw
  have cc := gc_pass2u d (by omega) μ t c ((t + 1) % 4) ((t + 2) % 4) ((t + 3) % 4) _ _ _ ht4 P.tx hc cx rfl (Nat.mod_lt _ (by decide)) (hW ((t + 1) % 4) (Nat.mod_lt _ (by decide))).1 rfl (Nat.mod_lt _ (by decide)) (hW ((t + 2) % 4) (Nat.mod_lt _ (by decide))).1 rfl (Nat.mod_lt _ (by decide)) (hW ((t + 3) % 4) (Nat.mod_lt _ (by decide))).1 _ xl (by rw [hl0]; decide) _ cw (by rw [P.px]; decide) (by rw [P.px]; decide) (anS μ) (sy_x R) han
  refine go_yes (y := 1) kx km (z_C_mono cc (fun r μ' z => ⟨z.1, by rw [z.2]; exact eqX_rf _⟩)) (fun μ1 h1 qM => ?_)
  have eM : EqM μ (z_ui μ1 50 0 0) := eqM_tr qM (t0_EqM μ1 0)
  have P' := P.cg (eqX_rf _) eM
  have R' := R.cg (eqX_rf _) eM
  have o := ov_f (t := t) (c := c) (W := W) eM
  have ov := ov_go (hW.m (eB_SE (eB_M eM))) (a_H_ui h1.1.1 (bI_top _)) ht4 P'.tm (P'.cm.trans (if_neg (by omega)))
  obtain ⟨RO, QO, fO⟩ := ov_rq (W := W) R' P' (Or.inl rfl) (fun j hj => (eM 71 j (Or.inl ⟨by decide, by decide⟩)).1.trans (hsy j hj))
  rw [if_pos rfl] at QO
  refine z_C_mono (gm_pass2u d (by omega) μ1 (by rw [(qM 50 44 (Or.inr ⟨rfl, by decide, by decide⟩)).1, P.pm]; decide) (by rw [(qM 50 44 (Or.inr ⟨rfl, by decide, by decide⟩)).1, P.pm]; decide) (anS μ1) (sy_m μ1) ((anS_e qM).trans han) (ovF (z_ui μ1 50 0 0) t c W) ov (by rw [o 50 47 (Or.inr ⟨rfl, by decide, by decide⟩) (by decide) (by decide) (Or.inr ⟨by decide, by decide⟩), o 50 46 (Or.inr ⟨rfl, by decide, by decide⟩) (by decide) (by decide) (Or.inr ⟨by decide, by decide⟩), hlf]; decide) (fun μ' => ∃ V, SMj (ovF (z_ui μ1 50 0 0) t c W) V ∧ SMj (eMB (nM0000 V) (nbS false false false false dl) true dl e) μ') (fun V hV hAV d hd => ?_)) (fun r μ' z => ⟨z.1, ?_⟩)
  · have S1 : SE μ V := fun r k g => (hV r k (by omega)).1.trans ((ovF_o (by omega) (by omega) (Or.inl (by omega))).trans (eM r k (Or.inl ⟨by omega, by omega⟩)).1)
    exact z_C_mono (gm_nobody0000 d (by omega) V hAV dl e ((hV 50 40 (by decide)).1.trans ((o 50 40 (Or.inr ⟨rfl, by decide, by decide⟩) (by decide) (by decide) (Or.inr ⟨by decide, by decide⟩)).trans hdl)) hdl4 he (W 0) (fun M hM => (hW 0 (by decide)).2.1 M (fun r k g => (hM r k g).trans (S1 r k g))) hb0 (W 1) (fun M hM => (hW 1 (by decide)).2.1 M (fun r k g => (hM r k g).trans (S1 r k g))) hb1 (W 2) (fun M hM => (hW 2 (by decide)).2.1 M (fun r k g => (hM r k g).trans (S1 r k g))) hb2 (W 3) (fun M hM => (hW 3 (by decide)).2.1 M (fun r k g => (hM r k g).trans (S1 r k g))) hb3) (fun r μ' z => ⟨z.1, V, hV, z.2⟩)
  · obtain ⟨V, hV, z3⟩ := z.2
    refine RG.cg (eqX_rf _) (sm_EqM z3) ?_
    have RV := RO.cg (eqX_rf _) (sm_EqM hV)
    exact rg_nob0000 RV (fO.trans (sm_EqM hV 50 47 (Or.inr ⟨rfl, by decide, by decide⟩)).1.symm) (show (lT μ t _ _ _ _ _ _).1 0 8 = V.1 50 45 from by rw [lT_0 (by decide), P.tx, (sm_EqM hV 50 45 (Or.inr ⟨rfl, by decide, by decide⟩)).1, o 50 45 (Or.inr ⟨rfl, by decide, by decide⟩) (by decide) (by decide) (Or.inr ⟨by decide, by decide⟩), P.tm]) ((sm_EqM hV 50 40 (Or.inr ⟨rfl, by decide, by decide⟩)).1.trans ((o 50 40 (Or.inr ⟨rfl, by decide, by decide⟩) (by decide) (by decide) (Or.inr ⟨by decide, by decide⟩)).trans hdl)) hdl4 he _
theorem lg_pu0001 {d : Nat} (hd : 705 ≤ d) {μ : zM} (hJ : LJ μ) (hR : RG μ μ) {t c dl e : Nat} (P : RPh μ μ 2 t c) (han : anS μ = false) (hlf : 122 - μ.1 50 47 - μ.1 50 46 = 0) (hdl : μ.1 50 40 = nI dl) (hdl4 : dl < 4) (he : (dl + 1) % 4 = e) {W : Nat → Int64} (hW : WW μ μ c W) (hb0 : decide (lg_cmp (W 0) 0 = 0) = true) (hb1 : decide (lg_cmp (W 1) 0 = 0) = true) (hb2 : decide (lg_cmp (W 2) 0 = 0) = true) (hb3 : decide (lg_cmp (W 3) 0 = 0) = false) (kx : z_C d mi_X6_pass [.ref 0] μ (fun _ μ' => LJ μ' ∧ EqM μ μ')) (km : ∀ μ1, LJ μ1 → z_C d mi_X7_pass [.ref 50] μ1 (fun _ μ' => LJ μ' ∧ EqX μ1 μ')) : GO d mi_X6_pass mi_X7_pass [.ref 0] [.ref 50] μ := by
  have hA := hJ.1.1
  have R := hR.1
  have ht4 := P.t4
  have hp0 : ¬ μ.1 50 44 = 0 := by rw [P.pm]; decide
  have G := hJ.1.2.2 hp0
  have hc : c < 34 := by
    rcases P.c3 with q | ⟨_, q⟩
    · exact q
    · exact absurd q (by decide)
  have cx : μ.1 0 15 = nI c := P.cx.trans (if_neg (by omega))
  have cm : μ.1 50 49 = nI c := P.cm.trans (if_neg (by omega))
  have hsy := an_z han
  obtain ⟨f, hf4, hf47⟩ := i_nat (v := μ.1 50 47) (n := 4) (hA 50 47).1 (hA 50 47).2 (by decide)
  obtain ⟨n, hn4, hn46⟩ := i_nat (v := μ.1 50 46) (n := 122) (hA 50 46).1 (hA 50 46).2 (by decide)
  have hfn : f + n ≤ 122 := by
    have y := G.2.1
    rw [hf47, hn46, nI_toInt (by omega), nI_toInt (by omega)] at y
    omega
  have e48 : μ.1 50 48 = nI f := G.2.2.1.trans hf47
  have xl : xLf μ = nI (122 - f - n) := by rw [left_x R P rfl rfl rfl, hf47, hn46, left_n hfn]
  have TT : ∀ {μ1 : zM}, TE (lTf μ t c W) μ1 → TE μ μ1 := fun h => TE_tr (TE_lT ht4 (Nat.mod_lt _ (by decide)) (Nat.mod_lt _ (by decide)) (Nat.mod_lt _ (by decide))) h
  have z0 : (122 : Int32) - μ.1 50 47 - μ.1 50 46 = nI 0 := hlf
  have hl0 : 122 - f - n = 0 := by
    rw [hf47, hn46, left_n hfn] at z0
    exact (nI_eq (by omega) (by decide)).mp z0
  have cw := fun (d : Nat) (hd : 10 ≤ d) => gc_endUnwon0001 d (by omega) (lTf μ t c W) dl e (show (lT μ t _ _ _ _ _ _).1 0 9 = nI dl from (lT_0 (by decide)).trans (R.dl.trans hdl)) hdl4 he (W 0) (fun μ1 h1 => (hW 0 (by decide)).2.2.1 μ1 (TT h1)) (W 1) (fun μ1 h1 => (hW 1 (by decide)).2.2.1 μ1 (TT h1)) (W 2) (fun μ1 h1 => (hW 2 (by decide)).2.2.1 μ1 (TT h1)) (W 3) (fun μ1 h1 => (hW 3 (by decide)).2.2.1 μ1 (TT h1)) (W dl) (fun μ1 h1 => (hW dl hdl4).2.2.1 μ1 (TT h1)) hb0 hb1 hb2 hb3
  rw [nbS_dl (b0 := false) (b1 := false) (b2 := false) (b3 := true) hb0 hb1 hb2 hb3 hdl4] at cw
  have cc := gc_pass2u d (by omega) μ t c ((t + 1) % 4) ((t + 2) % 4) ((t + 3) % 4) _ _ _ ht4 P.tx hc cx rfl (Nat.mod_lt _ (by decide)) (hW ((t + 1) % 4) (Nat.mod_lt _ (by decide))).1 rfl (Nat.mod_lt _ (by decide)) (hW ((t + 2) % 4) (Nat.mod_lt _ (by decide))).1 rfl (Nat.mod_lt _ (by decide)) (hW ((t + 3) % 4) (Nat.mod_lt _ (by decide))).1 _ xl (by rw [hl0]; decide) _ cw (by rw [P.px]; decide) (by rw [P.px]; decide) (anS μ) (sy_x R) han
  refine go_yes (y := 1) kx km (z_C_mono cc (fun r μ' z => ⟨z.1, by rw [z.2]; exact eqX_rf _⟩)) (fun μ1 h1 qM => ?_)
  have eM : EqM μ (z_ui μ1 50 0 0) := eqM_tr qM (t0_EqM μ1 0)
  have P' := P.cg (eqX_rf _) eM
  have R' := R.cg (eqX_rf _) eM
  have o := ov_f (t := t) (c := c) (W := W) eM
  have ov := ov_go (hW.m (eB_SE (eB_M eM))) (a_H_ui h1.1.1 (bI_top _)) ht4 P'.tm (P'.cm.trans (if_neg (by omega)))
  obtain ⟨RO, QO, fO⟩ := ov_rq (W := W) R' P' (Or.inl rfl) (fun j hj => (eM 71 j (Or.inl ⟨by decide, by decide⟩)).1.trans (hsy j hj))
  rw [if_pos rfl] at QO
  refine z_C_mono (gm_pass2u d (by omega) μ1 (by rw [(qM 50 44 (Or.inr ⟨rfl, by decide, by decide⟩)).1, P.pm]; decide) (by rw [(qM 50 44 (Or.inr ⟨rfl, by decide, by decide⟩)).1, P.pm]; decide) (anS μ1) (sy_m μ1) ((anS_e qM).trans han) (ovF (z_ui μ1 50 0 0) t c W) ov (by rw [o 50 47 (Or.inr ⟨rfl, by decide, by decide⟩) (by decide) (by decide) (Or.inr ⟨by decide, by decide⟩), o 50 46 (Or.inr ⟨rfl, by decide, by decide⟩) (by decide) (by decide) (Or.inr ⟨by decide, by decide⟩), hlf]; decide) (fun μ' => ∃ V, SMj (ovF (z_ui μ1 50 0 0) t c W) V ∧ SMj (eMB (nM0001 V) (nbS false false false true dl) true dl e) μ') (fun V hV hAV d hd => ?_)) (fun r μ' z => ⟨z.1, ?_⟩)
  · have S1 : SE μ V := fun r k g => (hV r k (by omega)).1.trans ((ovF_o (by omega) (by omega) (Or.inl (by omega))).trans (eM r k (Or.inl ⟨by omega, by omega⟩)).1)
    exact z_C_mono (gm_nobody0001 d (by omega) V hAV dl e ((hV 50 40 (by decide)).1.trans ((o 50 40 (Or.inr ⟨rfl, by decide, by decide⟩) (by decide) (by decide) (Or.inr ⟨by decide, by decide⟩)).trans hdl)) hdl4 he (W 0) (fun M hM => (hW 0 (by decide)).2.1 M (fun r k g => (hM r k g).trans (S1 r k g))) hb0 (W 1) (fun M hM => (hW 1 (by decide)).2.1 M (fun r k g => (hM r k g).trans (S1 r k g))) hb1 (W 2) (fun M hM => (hW 2 (by decide)).2.1 M (fun r k g => (hM r k g).trans (S1 r k g))) hb2 (W 3) (fun M hM => (hW 3 (by decide)).2.1 M (fun r k g => (hM r k g).trans (S1 r k g))) hb3) (fun r μ' z => ⟨z.1, V, hV, z.2⟩)
  · obtain ⟨V, hV, z3⟩ := z.2
    refine RG.cg (eqX_rf _) (sm_EqM z3) ?_
    have RV := RO.cg (eqX_rf _) (sm_EqM hV)
    exact rg_nob0001 RV (fO.trans (sm_EqM hV 50 47 (Or.inr ⟨rfl, by decide, by decide⟩)).1.symm) (show (lT μ t _ _ _ _ _ _).1 0 8 = V.1 50 45 from by rw [lT_0 (by decide), P.tx, (sm_EqM hV 50 45 (Or.inr ⟨rfl, by decide, by decide⟩)).1, o 50 45 (Or.inr ⟨rfl, by decide, by decide⟩) (by decide) (by decide) (Or.inr ⟨by decide, by decide⟩), P.tm]) ((sm_EqM hV 50 40 (Or.inr ⟨rfl, by decide, by decide⟩)).1.trans ((o 50 40 (Or.inr ⟨rfl, by decide, by decide⟩) (by decide) (by decide) (Or.inr ⟨by decide, by decide⟩)).trans hdl)) hdl4 he _
theorem lg_pu0010 {d : Nat} (hd : 705 ≤ d) {μ : zM} (hJ : LJ μ) (hR : RG μ μ) {t c dl e : Nat} (P : RPh μ μ 2 t c) (han : anS μ = false) (hlf : 122 - μ.1 50 47 - μ.1 50 46 = 0) (hdl : μ.1 50 40 = nI dl) (hdl4 : dl < 4) (he : (dl + 1) % 4 = e) {W : Nat → Int64} (hW : WW μ μ c W) (hb0 : decide (lg_cmp (W 0) 0 = 0) = true) (hb1 : decide (lg_cmp (W 1) 0 = 0) = true) (hb2 : decide (lg_cmp (W 2) 0 = 0) = false) (hb3 : decide (lg_cmp (W 3) 0 = 0) = true) (kx : z_C d mi_X6_pass [.ref 0] μ (fun _ μ' => LJ μ' ∧ EqM μ μ')) (km : ∀ μ1, LJ μ1 → z_C d mi_X7_pass [.ref 50] μ1 (fun _ μ' => LJ μ' ∧ EqX μ1 μ')) : GO d mi_X6_pass mi_X7_pass [.ref 0] [.ref 50] μ := by
  have hA := hJ.1.1
  have R := hR.1
  have ht4 := P.t4
  have hp0 : ¬ μ.1 50 44 = 0 := by rw [P.pm]; decide
  have G := hJ.1.2.2 hp0
  have hc : c < 34 := by
    rcases P.c3 with q | ⟨_, q⟩
    · exact q
    · exact absurd q (by decide)
  have cx : μ.1 0 15 = nI c := P.cx.trans (if_neg (by omega))
  have cm : μ.1 50 49 = nI c := P.cm.trans (if_neg (by omega))
  have hsy := an_z han
  obtain ⟨f, hf4, hf47⟩ := i_nat (v := μ.1 50 47) (n := 4) (hA 50 47).1 (hA 50 47).2 (by decide)
  obtain ⟨n, hn4, hn46⟩ := i_nat (v := μ.1 50 46) (n := 122) (hA 50 46).1 (hA 50 46).2 (by decide)
  have hfn : f + n ≤ 122 := by
    have y := G.2.1
    rw [hf47, hn46, nI_toInt (by omega), nI_toInt (by omega)] at y
    omega
  have e48 : μ.1 50 48 = nI f := G.2.2.1.trans hf47
  have xl : xLf μ = nI (122 - f - n) := by rw [left_x R P rfl rfl rfl, hf47, hn46, left_n hfn]
  have TT : ∀ {μ1 : zM}, TE (lTf μ t c W) μ1 → TE μ μ1 := fun h => TE_tr (TE_lT ht4 (Nat.mod_lt _ (by decide)) (Nat.mod_lt _ (by decide)) (Nat.mod_lt _ (by decide))) h
  have z0 : (122 : Int32) - μ.1 50 47 - μ.1 50 46 = nI 0 := hlf
  have hl0 : 122 - f - n = 0 := by
    rw [hf47, hn46, left_n hfn] at z0
    exact (nI_eq (by omega) (by decide)).mp z0
  have cw := fun (d : Nat) (hd : 10 ≤ d) => gc_endUnwon0010 d (by omega) (lTf μ t c W) dl e (show (lT μ t _ _ _ _ _ _).1 0 9 = nI dl from (lT_0 (by decide)).trans (R.dl.trans hdl)) hdl4 he (W 0) (fun μ1 h1 => (hW 0 (by decide)).2.2.1 μ1 (TT h1)) (W 1) (fun μ1 h1 => (hW 1 (by decide)).2.2.1 μ1 (TT h1)) (W 2) (fun μ1 h1 => (hW 2 (by decide)).2.2.1 μ1 (TT h1)) (W 3) (fun μ1 h1 => (hW 3 (by decide)).2.2.1 μ1 (TT h1)) (W dl) (fun μ1 h1 => (hW dl hdl4).2.2.1 μ1 (TT h1)) hb0 hb1 hb2 hb3
  rw [nbS_dl (b0 := false) (b1 := false) (b2 := true) (b3 := false) hb0 hb1 hb2 hb3 hdl4] at cw
  have cc := gc_pass2u d (by omega) μ t c ((t + 1) % 4) ((t + 2) % 4) ((t + 3) % 4) _ _ _ ht4 P.tx hc cx rfl (Nat.mod_lt _ (by decide)) (hW ((t + 1) % 4) (Nat.mod_lt _ (by decide))).1 rfl (Nat.mod_lt _ (by decide)) (hW ((t + 2) % 4) (Nat.mod_lt _ (by decide))).1 rfl (Nat.mod_lt _ (by decide)) (hW ((t + 3) % 4) (Nat.mod_lt _ (by decide))).1 _ xl (by rw [hl0]; decide) _ cw (by rw [P.px]; decide) (by rw [P.px]; decide) (anS μ) (sy_x R) han
  refine go_yes (y := 1) kx km (z_C_mono cc (fun r μ' z => ⟨z.1, by rw [z.2]; exact eqX_rf _⟩)) (fun μ1 h1 qM => ?_)
  have eM : EqM μ (z_ui μ1 50 0 0) := eqM_tr qM (t0_EqM μ1 0)
  have P' := P.cg (eqX_rf _) eM
  have R' := R.cg (eqX_rf _) eM
  have o := ov_f (t := t) (c := c) (W := W) eM
  have ov := ov_go (hW.m (eB_SE (eB_M eM))) (a_H_ui h1.1.1 (bI_top _)) ht4 P'.tm (P'.cm.trans (if_neg (by omega)))
  obtain ⟨RO, QO, fO⟩ := ov_rq (W := W) R' P' (Or.inl rfl) (fun j hj => (eM 71 j (Or.inl ⟨by decide, by decide⟩)).1.trans (hsy j hj))
  rw [if_pos rfl] at QO
  refine z_C_mono (gm_pass2u d (by omega) μ1 (by rw [(qM 50 44 (Or.inr ⟨rfl, by decide, by decide⟩)).1, P.pm]; decide) (by rw [(qM 50 44 (Or.inr ⟨rfl, by decide, by decide⟩)).1, P.pm]; decide) (anS μ1) (sy_m μ1) ((anS_e qM).trans han) (ovF (z_ui μ1 50 0 0) t c W) ov (by rw [o 50 47 (Or.inr ⟨rfl, by decide, by decide⟩) (by decide) (by decide) (Or.inr ⟨by decide, by decide⟩), o 50 46 (Or.inr ⟨rfl, by decide, by decide⟩) (by decide) (by decide) (Or.inr ⟨by decide, by decide⟩), hlf]; decide) (fun μ' => ∃ V, SMj (ovF (z_ui μ1 50 0 0) t c W) V ∧ SMj (eMB (nM0010 V) (nbS false false true false dl) true dl e) μ') (fun V hV hAV d hd => ?_)) (fun r μ' z => ⟨z.1, ?_⟩)
  · have S1 : SE μ V := fun r k g => (hV r k (by omega)).1.trans ((ovF_o (by omega) (by omega) (Or.inl (by omega))).trans (eM r k (Or.inl ⟨by omega, by omega⟩)).1)
    exact z_C_mono (gm_nobody0010 d (by omega) V hAV dl e ((hV 50 40 (by decide)).1.trans ((o 50 40 (Or.inr ⟨rfl, by decide, by decide⟩) (by decide) (by decide) (Or.inr ⟨by decide, by decide⟩)).trans hdl)) hdl4 he (W 0) (fun M hM => (hW 0 (by decide)).2.1 M (fun r k g => (hM r k g).trans (S1 r k g))) hb0 (W 1) (fun M hM => (hW 1 (by decide)).2.1 M (fun r k g => (hM r k g).trans (S1 r k g))) hb1 (W 2) (fun M hM => (hW 2 (by decide)).2.1 M (fun r k g => (hM r k g).trans (S1 r k g))) hb2 (W 3) (fun M hM => (hW 3 (by decide)).2.1 M (fun r k g => (hM r k g).trans (S1 r k g))) hb3) (fun r μ' z => ⟨z.1, V, hV, z.2⟩)
  · obtain ⟨V, hV, z3⟩ := z.2
    refine RG.cg (eqX_rf _) (sm_EqM z3) ?_
    have RV := RO.cg (eqX_rf _) (sm_EqM hV)
    exact rg_nob0010 RV (fO.trans (sm_EqM hV 50 47 (Or.inr ⟨rfl, by decide, by decide⟩)).1.symm) (show (lT μ t _ _ _ _ _ _).1 0 8 = V.1 50 45 from by rw [lT_0 (by decide), P.tx, (sm_EqM hV 50 45 (Or.inr ⟨rfl, by decide, by decide⟩)).1, o 50 45 (Or.inr ⟨rfl, by decide, by decide⟩) (by decide) (by decide) (Or.inr ⟨by decide, by decide⟩), P.tm]) ((sm_EqM hV 50 40 (Or.inr ⟨rfl, by decide, by decide⟩)).1.trans ((o 50 40 (Or.inr ⟨rfl, by decide, by decide⟩) (by decide) (by decide) (Or.inr ⟨by decide, by decide⟩)).trans hdl)) hdl4 he _
theorem lg_pu0011 {d : Nat} (hd : 705 ≤ d) {μ : zM} (hJ : LJ μ) (hR : RG μ μ) {t c dl e : Nat} (P : RPh μ μ 2 t c) (han : anS μ = false) (hlf : 122 - μ.1 50 47 - μ.1 50 46 = 0) (hdl : μ.1 50 40 = nI dl) (hdl4 : dl < 4) (he : (dl + 1) % 4 = e) {W : Nat → Int64} (hW : WW μ μ c W) (hb0 : decide (lg_cmp (W 0) 0 = 0) = true) (hb1 : decide (lg_cmp (W 1) 0 = 0) = true) (hb2 : decide (lg_cmp (W 2) 0 = 0) = false) (hb3 : decide (lg_cmp (W 3) 0 = 0) = false) (kx : z_C d mi_X6_pass [.ref 0] μ (fun _ μ' => LJ μ' ∧ EqM μ μ')) (km : ∀ μ1, LJ μ1 → z_C d mi_X7_pass [.ref 50] μ1 (fun _ μ' => LJ μ' ∧ EqX μ1 μ')) : GO d mi_X6_pass mi_X7_pass [.ref 0] [.ref 50] μ := by
  have hA := hJ.1.1
  have R := hR.1
  have ht4 := P.t4
  have hp0 : ¬ μ.1 50 44 = 0 := by rw [P.pm]; decide
  have G := hJ.1.2.2 hp0
  have hc : c < 34 := by
    rcases P.c3 with q | ⟨_, q⟩
    · exact q
    · exact absurd q (by decide)
  have cx : μ.1 0 15 = nI c := P.cx.trans (if_neg (by omega))
  have cm : μ.1 50 49 = nI c := P.cm.trans (if_neg (by omega))
  have hsy := an_z han
  obtain ⟨f, hf4, hf47⟩ := i_nat (v := μ.1 50 47) (n := 4) (hA 50 47).1 (hA 50 47).2 (by decide)
  obtain ⟨n, hn4, hn46⟩ := i_nat (v := μ.1 50 46) (n := 122) (hA 50 46).1 (hA 50 46).2 (by decide)
  have hfn : f + n ≤ 122 := by
    have y := G.2.1
    rw [hf47, hn46, nI_toInt (by omega), nI_toInt (by omega)] at y
    omega
  have e48 : μ.1 50 48 = nI f := G.2.2.1.trans hf47
  have xl : xLf μ = nI (122 - f - n) := by rw [left_x R P rfl rfl rfl, hf47, hn46, left_n hfn]
  have TT : ∀ {μ1 : zM}, TE (lTf μ t c W) μ1 → TE μ μ1 := fun h => TE_tr (TE_lT ht4 (Nat.mod_lt _ (by decide)) (Nat.mod_lt _ (by decide)) (Nat.mod_lt _ (by decide))) h
  have z0 : (122 : Int32) - μ.1 50 47 - μ.1 50 46 = nI 0 := hlf
  have hl0 : 122 - f - n = 0 := by
    rw [hf47, hn46, left_n hfn] at z0
    exact (nI_eq (by omega) (by decide)).mp z0
  have cw := fun (d : Nat) (hd : 10 ≤ d) => gc_endUnwon0011 d (by omega) (lTf μ t c W) dl e (show (lT μ t _ _ _ _ _ _).1 0 9 = nI dl from (lT_0 (by decide)).trans (R.dl.trans hdl)) hdl4 he (W 0) (fun μ1 h1 => (hW 0 (by decide)).2.2.1 μ1 (TT h1)) (W 1) (fun μ1 h1 => (hW 1 (by decide)).2.2.1 μ1 (TT h1)) (W 2) (fun μ1 h1 => (hW 2 (by decide)).2.2.1 μ1 (TT h1)) (W 3) (fun μ1 h1 => (hW 3 (by decide)).2.2.1 μ1 (TT h1)) (W dl) (fun μ1 h1 => (hW dl hdl4).2.2.1 μ1 (TT h1)) hb0 hb1 hb2 hb3
  rw [nbS_dl (b0 := false) (b1 := false) (b2 := true) (b3 := true) hb0 hb1 hb2 hb3 hdl4] at cw
  have cc := gc_pass2u d (by omega) μ t c ((t + 1) % 4) ((t + 2) % 4) ((t + 3) % 4) _ _ _ ht4 P.tx hc cx rfl (Nat.mod_lt _ (by decide)) (hW ((t + 1) % 4) (Nat.mod_lt _ (by decide))).1 rfl (Nat.mod_lt _ (by decide)) (hW ((t + 2) % 4) (Nat.mod_lt _ (by decide))).1 rfl (Nat.mod_lt _ (by decide)) (hW ((t + 3) % 4) (Nat.mod_lt _ (by decide))).1 _ xl (by rw [hl0]; decide) _ cw (by rw [P.px]; decide) (by rw [P.px]; decide) (anS μ) (sy_x R) han
  refine go_yes (y := 1) kx km (z_C_mono cc (fun r μ' z => ⟨z.1, by rw [z.2]; exact eqX_rf _⟩)) (fun μ1 h1 qM => ?_)
  have eM : EqM μ (z_ui μ1 50 0 0) := eqM_tr qM (t0_EqM μ1 0)
  have P' := P.cg (eqX_rf _) eM
  have R' := R.cg (eqX_rf _) eM
  have o := ov_f (t := t) (c := c) (W := W) eM
  have ov := ov_go (hW.m (eB_SE (eB_M eM))) (a_H_ui h1.1.1 (bI_top _)) ht4 P'.tm (P'.cm.trans (if_neg (by omega)))
  obtain ⟨RO, QO, fO⟩ := ov_rq (W := W) R' P' (Or.inl rfl) (fun j hj => (eM 71 j (Or.inl ⟨by decide, by decide⟩)).1.trans (hsy j hj))
  rw [if_pos rfl] at QO
  refine z_C_mono (gm_pass2u d (by omega) μ1 (by rw [(qM 50 44 (Or.inr ⟨rfl, by decide, by decide⟩)).1, P.pm]; decide) (by rw [(qM 50 44 (Or.inr ⟨rfl, by decide, by decide⟩)).1, P.pm]; decide) (anS μ1) (sy_m μ1) ((anS_e qM).trans han) (ovF (z_ui μ1 50 0 0) t c W) ov (by rw [o 50 47 (Or.inr ⟨rfl, by decide, by decide⟩) (by decide) (by decide) (Or.inr ⟨by decide, by decide⟩), o 50 46 (Or.inr ⟨rfl, by decide, by decide⟩) (by decide) (by decide) (Or.inr ⟨by decide, by decide⟩), hlf]; decide) (fun μ' => ∃ V, SMj (ovF (z_ui μ1 50 0 0) t c W) V ∧ SMj (eMB (nM0011 V) (nbS false false true true dl) true dl e) μ') (fun V hV hAV d hd => ?_)) (fun r μ' z => ⟨z.1, ?_⟩)
  · have S1 : SE μ V := fun r k g => (hV r k (by omega)).1.trans ((ovF_o (by omega) (by omega) (Or.inl (by omega))).trans (eM r k (Or.inl ⟨by omega, by omega⟩)).1)
    exact z_C_mono (gm_nobody0011 d (by omega) V hAV dl e ((hV 50 40 (by decide)).1.trans ((o 50 40 (Or.inr ⟨rfl, by decide, by decide⟩) (by decide) (by decide) (Or.inr ⟨by decide, by decide⟩)).trans hdl)) hdl4 he (W 0) (fun M hM => (hW 0 (by decide)).2.1 M (fun r k g => (hM r k g).trans (S1 r k g))) hb0 (W 1) (fun M hM => (hW 1 (by decide)).2.1 M (fun r k g => (hM r k g).trans (S1 r k g))) hb1 (W 2) (fun M hM => (hW 2 (by decide)).2.1 M (fun r k g => (hM r k g).trans (S1 r k g))) hb2 (W 3) (fun M hM => (hW 3 (by decide)).2.1 M (fun r k g => (hM r k g).trans (S1 r k g))) hb3) (fun r μ' z => ⟨z.1, V, hV, z.2⟩)
  · obtain ⟨V, hV, z3⟩ := z.2
    refine RG.cg (eqX_rf _) (sm_EqM z3) ?_
    have RV := RO.cg (eqX_rf _) (sm_EqM hV)
    exact rg_nob0011 RV (fO.trans (sm_EqM hV 50 47 (Or.inr ⟨rfl, by decide, by decide⟩)).1.symm) (show (lT μ t _ _ _ _ _ _).1 0 8 = V.1 50 45 from by rw [lT_0 (by decide), P.tx, (sm_EqM hV 50 45 (Or.inr ⟨rfl, by decide, by decide⟩)).1, o 50 45 (Or.inr ⟨rfl, by decide, by decide⟩) (by decide) (by decide) (Or.inr ⟨by decide, by decide⟩), P.tm]) ((sm_EqM hV 50 40 (Or.inr ⟨rfl, by decide, by decide⟩)).1.trans ((o 50 40 (Or.inr ⟨rfl, by decide, by decide⟩) (by decide) (by decide) (Or.inr ⟨by decide, by decide⟩)).trans hdl)) hdl4 he _
theorem lg_pu0100 {d : Nat} (hd : 705 ≤ d) {μ : zM} (hJ : LJ μ) (hR : RG μ μ) {t c dl e : Nat} (P : RPh μ μ 2 t c) (han : anS μ = false) (hlf : 122 - μ.1 50 47 - μ.1 50 46 = 0) (hdl : μ.1 50 40 = nI dl) (hdl4 : dl < 4) (he : (dl + 1) % 4 = e) {W : Nat → Int64} (hW : WW μ μ c W) (hb0 : decide (lg_cmp (W 0) 0 = 0) = true) (hb1 : decide (lg_cmp (W 1) 0 = 0) = false) (hb2 : decide (lg_cmp (W 2) 0 = 0) = true) (hb3 : decide (lg_cmp (W 3) 0 = 0) = true) (kx : z_C d mi_X6_pass [.ref 0] μ (fun _ μ' => LJ μ' ∧ EqM μ μ')) (km : ∀ μ1, LJ μ1 → z_C d mi_X7_pass [.ref 50] μ1 (fun _ μ' => LJ μ' ∧ EqX μ1 μ')) : GO d mi_X6_pass mi_X7_pass [.ref 0] [.ref 50] μ := by
  have hA := hJ.1.1
  have R := hR.1
  have ht4 := P.t4
  have hp0 : ¬ μ.1 50 44 = 0 := by rw [P.pm]; decide
  have G := hJ.1.2.2 hp0
  have hc : c < 34 := by
    rcases P.c3 with q | ⟨_, q⟩
    · exact q
    · exact absurd q (by decide)
  have cx : μ.1 0 15 = nI c := P.cx.trans (if_neg (by omega))
  have cm : μ.1 50 49 = nI c := P.cm.trans (if_neg (by omega))
  have hsy := an_z han
  obtain ⟨f, hf4, hf47⟩ := i_nat (v := μ.1 50 47) (n := 4) (hA 50 47).1 (hA 50 47).2 (by decide)
  obtain ⟨n, hn4, hn46⟩ := i_nat (v := μ.1 50 46) (n := 122) (hA 50 46).1 (hA 50 46).2 (by decide)
  have hfn : f + n ≤ 122 := by
    have y := G.2.1
    rw [hf47, hn46, nI_toInt (by omega), nI_toInt (by omega)] at y
    omega
  have e48 : μ.1 50 48 = nI f := G.2.2.1.trans hf47
  have xl : xLf μ = nI (122 - f - n) := by rw [left_x R P rfl rfl rfl, hf47, hn46, left_n hfn]
  have TT : ∀ {μ1 : zM}, TE (lTf μ t c W) μ1 → TE μ μ1 := fun h => TE_tr (TE_lT ht4 (Nat.mod_lt _ (by decide)) (Nat.mod_lt _ (by decide)) (Nat.mod_lt _ (by decide))) h
  have z0 : (122 : Int32) - μ.1 50 47 - μ.1 50 46 = nI 0 := hlf
  have hl0 : 122 - f - n = 0 := by
    rw [hf47, hn46, left_n hfn] at z0
    exact (nI_eq (by omega) (by decide)).mp z0
  have cw := fun (d : Nat) (hd : 10 ≤ d) => gc_endUnwon0100 d (by omega) (lTf μ t c W) dl e (show (lT μ t _ _ _ _ _ _).1 0 9 = nI dl from (lT_0 (by decide)).trans (R.dl.trans hdl)) hdl4 he (W 0) (fun μ1 h1 => (hW 0 (by decide)).2.2.1 μ1 (TT h1)) (W 1) (fun μ1 h1 => (hW 1 (by decide)).2.2.1 μ1 (TT h1)) (W 2) (fun μ1 h1 => (hW 2 (by decide)).2.2.1 μ1 (TT h1)) (W 3) (fun μ1 h1 => (hW 3 (by decide)).2.2.1 μ1 (TT h1)) (W dl) (fun μ1 h1 => (hW dl hdl4).2.2.1 μ1 (TT h1)) hb0 hb1 hb2 hb3
  rw [nbS_dl (b0 := false) (b1 := true) (b2 := false) (b3 := false) hb0 hb1 hb2 hb3 hdl4] at cw
  have cc := gc_pass2u d (by omega) μ t c ((t + 1) % 4) ((t + 2) % 4) ((t + 3) % 4) _ _ _ ht4 P.tx hc cx rfl (Nat.mod_lt _ (by decide)) (hW ((t + 1) % 4) (Nat.mod_lt _ (by decide))).1 rfl (Nat.mod_lt _ (by decide)) (hW ((t + 2) % 4) (Nat.mod_lt _ (by decide))).1 rfl (Nat.mod_lt _ (by decide)) (hW ((t + 3) % 4) (Nat.mod_lt _ (by decide))).1 _ xl (by rw [hl0]; decide) _ cw (by rw [P.px]; decide) (by rw [P.px]; decide) (anS μ) (sy_x R) han
  refine go_yes (y := 1) kx km (z_C_mono cc (fun r μ' z => ⟨z.1, by rw [z.2]; exact eqX_rf _⟩)) (fun μ1 h1 qM => ?_)
  have eM : EqM μ (z_ui μ1 50 0 0) := eqM_tr qM (t0_EqM μ1 0)
  have P' := P.cg (eqX_rf _) eM
  have R' := R.cg (eqX_rf _) eM
  have o := ov_f (t := t) (c := c) (W := W) eM
  have ov := ov_go (hW.m (eB_SE (eB_M eM))) (a_H_ui h1.1.1 (bI_top _)) ht4 P'.tm (P'.cm.trans (if_neg (by omega)))
  obtain ⟨RO, QO, fO⟩ := ov_rq (W := W) R' P' (Or.inl rfl) (fun j hj => (eM 71 j (Or.inl ⟨by decide, by decide⟩)).1.trans (hsy j hj))
  rw [if_pos rfl] at QO
  refine z_C_mono (gm_pass2u d (by omega) μ1 (by rw [(qM 50 44 (Or.inr ⟨rfl, by decide, by decide⟩)).1, P.pm]; decide) (by rw [(qM 50 44 (Or.inr ⟨rfl, by decide, by decide⟩)).1, P.pm]; decide) (anS μ1) (sy_m μ1) ((anS_e qM).trans han) (ovF (z_ui μ1 50 0 0) t c W) ov (by rw [o 50 47 (Or.inr ⟨rfl, by decide, by decide⟩) (by decide) (by decide) (Or.inr ⟨by decide, by decide⟩), o 50 46 (Or.inr ⟨rfl, by decide, by decide⟩) (by decide) (by decide) (Or.inr ⟨by decide, by decide⟩), hlf]; decide) (fun μ' => ∃ V, SMj (ovF (z_ui μ1 50 0 0) t c W) V ∧ SMj (eMB (nM0100 V) (nbS false true false false dl) true dl e) μ') (fun V hV hAV d hd => ?_)) (fun r μ' z => ⟨z.1, ?_⟩)
  · have S1 : SE μ V := fun r k g => (hV r k (by omega)).1.trans ((ovF_o (by omega) (by omega) (Or.inl (by omega))).trans (eM r k (Or.inl ⟨by omega, by omega⟩)).1)
    exact z_C_mono (gm_nobody0100 d (by omega) V hAV dl e ((hV 50 40 (by decide)).1.trans ((o 50 40 (Or.inr ⟨rfl, by decide, by decide⟩) (by decide) (by decide) (Or.inr ⟨by decide, by decide⟩)).trans hdl)) hdl4 he (W 0) (fun M hM => (hW 0 (by decide)).2.1 M (fun r k g => (hM r k g).trans (S1 r k g))) hb0 (W 1) (fun M hM => (hW 1 (by decide)).2.1 M (fun r k g => (hM r k g).trans (S1 r k g))) hb1 (W 2) (fun M hM => (hW 2 (by decide)).2.1 M (fun r k g => (hM r k g).trans (S1 r k g))) hb2 (W 3) (fun M hM => (hW 3 (by decide)).2.1 M (fun r k g => (hM r k g).trans (S1 r k g))) hb3) (fun r μ' z => ⟨z.1, V, hV, z.2⟩)
  · obtain ⟨V, hV, z3⟩ := z.2
    refine RG.cg (eqX_rf _) (sm_EqM z3) ?_
    have RV := RO.cg (eqX_rf _) (sm_EqM hV)
    exact rg_nob0100 RV (fO.trans (sm_EqM hV 50 47 (Or.inr ⟨rfl, by decide, by decide⟩)).1.symm) (show (lT μ t _ _ _ _ _ _).1 0 8 = V.1 50 45 from by rw [lT_0 (by decide), P.tx, (sm_EqM hV 50 45 (Or.inr ⟨rfl, by decide, by decide⟩)).1, o 50 45 (Or.inr ⟨rfl, by decide, by decide⟩) (by decide) (by decide) (Or.inr ⟨by decide, by decide⟩), P.tm]) ((sm_EqM hV 50 40 (Or.inr ⟨rfl, by decide, by decide⟩)).1.trans ((o 50 40 (Or.inr ⟨rfl, by decide, by decide⟩) (by decide) (by decide) (Or.inr ⟨by decide, by decide⟩)).trans hdl)) hdl4 he _
theorem lg_pu0101 {d : Nat} (hd : 705 ≤ d) {μ : zM} (hJ : LJ μ) (hR : RG μ μ) {t c dl e : Nat} (P : RPh μ μ 2 t c) (han : anS μ = false) (hlf : 122 - μ.1 50 47 - μ.1 50 46 = 0) (hdl : μ.1 50 40 = nI dl) (hdl4 : dl < 4) (he : (dl + 1) % 4 = e) {W : Nat → Int64} (hW : WW μ μ c W) (hb0 : decide (lg_cmp (W 0) 0 = 0) = true) (hb1 : decide (lg_cmp (W 1) 0 = 0) = false) (hb2 : decide (lg_cmp (W 2) 0 = 0) = true) (hb3 : decide (lg_cmp (W 3) 0 = 0) = false) (kx : z_C d mi_X6_pass [.ref 0] μ (fun _ μ' => LJ μ' ∧ EqM μ μ')) (km : ∀ μ1, LJ μ1 → z_C d mi_X7_pass [.ref 50] μ1 (fun _ μ' => LJ μ' ∧ EqX μ1 μ')) : GO d mi_X6_pass mi_X7_pass [.ref 0] [.ref 50] μ := by
  have hA := hJ.1.1
  have R := hR.1
  have ht4 := P.t4
  have hp0 : ¬ μ.1 50 44 = 0 := by rw [P.pm]; decide
  have G := hJ.1.2.2 hp0
  have hc : c < 34 := by
    rcases P.c3 with q | ⟨_, q⟩
    · exact q
    · exact absurd q (by decide)
  have cx : μ.1 0 15 = nI c := P.cx.trans (if_neg (by omega))
  have cm : μ.1 50 49 = nI c := P.cm.trans (if_neg (by omega))
  have hsy := an_z han
  obtain ⟨f, hf4, hf47⟩ := i_nat (v := μ.1 50 47) (n := 4) (hA 50 47).1 (hA 50 47).2 (by decide)
  obtain ⟨n, hn4, hn46⟩ := i_nat (v := μ.1 50 46) (n := 122) (hA 50 46).1 (hA 50 46).2 (by decide)
  have hfn : f + n ≤ 122 := by
    have y := G.2.1
    rw [hf47, hn46, nI_toInt (by omega), nI_toInt (by omega)] at y
    omega
  have e48 : μ.1 50 48 = nI f := G.2.2.1.trans hf47
  have xl : xLf μ = nI (122 - f - n) := by rw [left_x R P rfl rfl rfl, hf47, hn46, left_n hfn]
  have TT : ∀ {μ1 : zM}, TE (lTf μ t c W) μ1 → TE μ μ1 := fun h => TE_tr (TE_lT ht4 (Nat.mod_lt _ (by decide)) (Nat.mod_lt _ (by decide)) (Nat.mod_lt _ (by decide))) h
  have z0 : (122 : Int32) - μ.1 50 47 - μ.1 50 46 = nI 0 := hlf
  have hl0 : 122 - f - n = 0 := by
    rw [hf47, hn46, left_n hfn] at z0
    exact (nI_eq (by omega) (by decide)).mp z0
  have cw := fun (d : Nat) (hd : 10 ≤ d) => gc_endUnwon0101 d (by omega) (lTf μ t c W) dl e (show (lT μ t _ _ _ _ _ _).1 0 9 = nI dl from (lT_0 (by decide)).trans (R.dl.trans hdl)) hdl4 he (W 0) (fun μ1 h1 => (hW 0 (by decide)).2.2.1 μ1 (TT h1)) (W 1) (fun μ1 h1 => (hW 1 (by decide)).2.2.1 μ1 (TT h1)) (W 2) (fun μ1 h1 => (hW 2 (by decide)).2.2.1 μ1 (TT h1)) (W 3) (fun μ1 h1 => (hW 3 (by decide)).2.2.1 μ1 (TT h1)) (W dl) (fun μ1 h1 => (hW dl hdl4).2.2.1 μ1 (TT h1)) hb0 hb1 hb2 hb3
  rw [nbS_dl (b0 := false) (b1 := true) (b2 := false) (b3 := true) hb0 hb1 hb2 hb3 hdl4] at cw
  have cc := gc_pass2u d (by omega) μ t c ((t + 1) % 4) ((t + 2) % 4) ((t + 3) % 4) _ _ _ ht4 P.tx hc cx rfl (Nat.mod_lt _ (by decide)) (hW ((t + 1) % 4) (Nat.mod_lt _ (by decide))).1 rfl (Nat.mod_lt _ (by decide)) (hW ((t + 2) % 4) (Nat.mod_lt _ (by decide))).1 rfl (Nat.mod_lt _ (by decide)) (hW ((t + 3) % 4) (Nat.mod_lt _ (by decide))).1 _ xl (by rw [hl0]; decide) _ cw (by rw [P.px]; decide) (by rw [P.px]; decide) (anS μ) (sy_x R) han
  refine go_yes (y := 1) kx km (z_C_mono cc (fun r μ' z => ⟨z.1, by rw [z.2]; exact eqX_rf _⟩)) (fun μ1 h1 qM => ?_)
  have eM : EqM μ (z_ui μ1 50 0 0) := eqM_tr qM (t0_EqM μ1 0)
  have P' := P.cg (eqX_rf _) eM
  have R' := R.cg (eqX_rf _) eM
  have o := ov_f (t := t) (c := c) (W := W) eM
  have ov := ov_go (hW.m (eB_SE (eB_M eM))) (a_H_ui h1.1.1 (bI_top _)) ht4 P'.tm (P'.cm.trans (if_neg (by omega)))
  obtain ⟨RO, QO, fO⟩ := ov_rq (W := W) R' P' (Or.inl rfl) (fun j hj => (eM 71 j (Or.inl ⟨by decide, by decide⟩)).1.trans (hsy j hj))
  rw [if_pos rfl] at QO
  refine z_C_mono (gm_pass2u d (by omega) μ1 (by rw [(qM 50 44 (Or.inr ⟨rfl, by decide, by decide⟩)).1, P.pm]; decide) (by rw [(qM 50 44 (Or.inr ⟨rfl, by decide, by decide⟩)).1, P.pm]; decide) (anS μ1) (sy_m μ1) ((anS_e qM).trans han) (ovF (z_ui μ1 50 0 0) t c W) ov (by rw [o 50 47 (Or.inr ⟨rfl, by decide, by decide⟩) (by decide) (by decide) (Or.inr ⟨by decide, by decide⟩), o 50 46 (Or.inr ⟨rfl, by decide, by decide⟩) (by decide) (by decide) (Or.inr ⟨by decide, by decide⟩), hlf]; decide) (fun μ' => ∃ V, SMj (ovF (z_ui μ1 50 0 0) t c W) V ∧ SMj (eMB (nM0101 V) (nbS false true false true dl) true dl e) μ') (fun V hV hAV d hd => ?_)) (fun r μ' z => ⟨z.1, ?_⟩)
  · have S1 : SE μ V := fun r k g => (hV r k (by omega)).1.trans ((ovF_o (by omega) (by omega) (Or.inl (by omega))).trans (eM r k (Or.inl ⟨by omega, by omega⟩)).1)
    exact z_C_mono (gm_nobody0101 d (by omega) V hAV dl e ((hV 50 40 (by decide)).1.trans ((o 50 40 (Or.inr ⟨rfl, by decide, by decide⟩) (by decide) (by decide) (Or.inr ⟨by decide, by decide⟩)).trans hdl)) hdl4 he (W 0) (fun M hM => (hW 0 (by decide)).2.1 M (fun r k g => (hM r k g).trans (S1 r k g))) hb0 (W 1) (fun M hM => (hW 1 (by decide)).2.1 M (fun r k g => (hM r k g).trans (S1 r k g))) hb1 (W 2) (fun M hM => (hW 2 (by decide)).2.1 M (fun r k g => (hM r k g).trans (S1 r k g))) hb2 (W 3) (fun M hM => (hW 3 (by decide)).2.1 M (fun r k g => (hM r k g).trans (S1 r k g))) hb3) (fun r μ' z => ⟨z.1, V, hV, z.2⟩)
  · obtain ⟨V, hV, z3⟩ := z.2
    refine RG.cg (eqX_rf _) (sm_EqM z3) ?_
    have RV := RO.cg (eqX_rf _) (sm_EqM hV)
    exact rg_nob0101 RV (fO.trans (sm_EqM hV 50 47 (Or.inr ⟨rfl, by decide, by decide⟩)).1.symm) (show (lT μ t _ _ _ _ _ _).1 0 8 = V.1 50 45 from by rw [lT_0 (by decide), P.tx, (sm_EqM hV 50 45 (Or.inr ⟨rfl, by decide, by decide⟩)).1, o 50 45 (Or.inr ⟨rfl, by decide, by decide⟩) (by decide) (by decide) (Or.inr ⟨by decide, by decide⟩), P.tm]) ((sm_EqM hV 50 40 (Or.inr ⟨rfl, by decide, by decide⟩)).1.trans ((o 50 40 (Or.inr ⟨rfl, by decide, by decide⟩) (by decide) (by decide) (Or.inr ⟨by decide, by decide⟩)).trans hdl)) hdl4 he _
theorem lg_pu0110 {d : Nat} (hd : 705 ≤ d) {μ : zM} (hJ : LJ μ) (hR : RG μ μ) {t c dl e : Nat} (P : RPh μ μ 2 t c) (han : anS μ = false) (hlf : 122 - μ.1 50 47 - μ.1 50 46 = 0) (hdl : μ.1 50 40 = nI dl) (hdl4 : dl < 4) (he : (dl + 1) % 4 = e) {W : Nat → Int64} (hW : WW μ μ c W) (hb0 : decide (lg_cmp (W 0) 0 = 0) = true) (hb1 : decide (lg_cmp (W 1) 0 = 0) = false) (hb2 : decide (lg_cmp (W 2) 0 = 0) = false) (hb3 : decide (lg_cmp (W 3) 0 = 0) = true) (kx : z_C d mi_X6_pass [.ref 0] μ (fun _ μ' => LJ μ' ∧ EqM μ μ')) (km : ∀ μ1, LJ μ1 → z_C d mi_X7_pass [.ref 50] μ1 (fun _ μ' => LJ μ' ∧ EqX μ1 μ')) : GO d mi_X6_pass mi_X7_pass [.ref 0] [.ref 50] μ := by
  have hA := hJ.1.1
  have R := hR.1
  have ht4 := P.t4
  have hp0 : ¬ μ.1 50 44 = 0 := by rw [P.pm]; decide
  have G := hJ.1.2.2 hp0
  have hc : c < 34 := by
    rcases P.c3 with q | ⟨_, q⟩
    · exact q
    · exact absurd q (by decide)
  have cx : μ.1 0 15 = nI c := P.cx.trans (if_neg (by omega))
  have cm : μ.1 50 49 = nI c := P.cm.trans (if_neg (by omega))
  have hsy := an_z han
  obtain ⟨f, hf4, hf47⟩ := i_nat (v := μ.1 50 47) (n := 4) (hA 50 47).1 (hA 50 47).2 (by decide)
  obtain ⟨n, hn4, hn46⟩ := i_nat (v := μ.1 50 46) (n := 122) (hA 50 46).1 (hA 50 46).2 (by decide)
  have hfn : f + n ≤ 122 := by
    have y := G.2.1
    rw [hf47, hn46, nI_toInt (by omega), nI_toInt (by omega)] at y
    omega
  have e48 : μ.1 50 48 = nI f := G.2.2.1.trans hf47
  have xl : xLf μ = nI (122 - f - n) := by rw [left_x R P rfl rfl rfl, hf47, hn46, left_n hfn]
  have TT : ∀ {μ1 : zM}, TE (lTf μ t c W) μ1 → TE μ μ1 := fun h => TE_tr (TE_lT ht4 (Nat.mod_lt _ (by decide)) (Nat.mod_lt _ (by decide)) (Nat.mod_lt _ (by decide))) h
  have z0 : (122 : Int32) - μ.1 50 47 - μ.1 50 46 = nI 0 := hlf
  have hl0 : 122 - f - n = 0 := by
    rw [hf47, hn46, left_n hfn] at z0
    exact (nI_eq (by omega) (by decide)).mp z0
  have cw := fun (d : Nat) (hd : 10 ≤ d) => gc_endUnwon0110 d (by omega) (lTf μ t c W) dl e (show (lT μ t _ _ _ _ _ _).1 0 9 = nI dl from (lT_0 (by decide)).trans (R.dl.trans hdl)) hdl4 he (W 0) (fun μ1 h1 => (hW 0 (by decide)).2.2.1 μ1 (TT h1)) (W 1) (fun μ1 h1 => (hW 1 (by decide)).2.2.1 μ1 (TT h1)) (W 2) (fun μ1 h1 => (hW 2 (by decide)).2.2.1 μ1 (TT h1)) (W 3) (fun μ1 h1 => (hW 3 (by decide)).2.2.1 μ1 (TT h1)) (W dl) (fun μ1 h1 => (hW dl hdl4).2.2.1 μ1 (TT h1)) hb0 hb1 hb2 hb3
  rw [nbS_dl (b0 := false) (b1 := true) (b2 := true) (b3 := false) hb0 hb1 hb2 hb3 hdl4] at cw
  have cc := gc_pass2u d (by omega) μ t c ((t + 1) % 4) ((t + 2) % 4) ((t + 3) % 4) _ _ _ ht4 P.tx hc cx rfl (Nat.mod_lt _ (by decide)) (hW ((t + 1) % 4) (Nat.mod_lt _ (by decide))).1 rfl (Nat.mod_lt _ (by decide)) (hW ((t + 2) % 4) (Nat.mod_lt _ (by decide))).1 rfl (Nat.mod_lt _ (by decide)) (hW ((t + 3) % 4) (Nat.mod_lt _ (by decide))).1 _ xl (by rw [hl0]; decide) _ cw (by rw [P.px]; decide) (by rw [P.px]; decide) (anS μ) (sy_x R) han
  refine go_yes (y := 1) kx km (z_C_mono cc (fun r μ' z => ⟨z.1, by rw [z.2]; exact eqX_rf _⟩)) (fun μ1 h1 qM => ?_)
  have eM : EqM μ (z_ui μ1 50 0 0) := eqM_tr qM (t0_EqM μ1 0)
  have P' := P.cg (eqX_rf _) eM
  have R' := R.cg (eqX_rf _) eM
  have o := ov_f (t := t) (c := c) (W := W) eM
  have ov := ov_go (hW.m (eB_SE (eB_M eM))) (a_H_ui h1.1.1 (bI_top _)) ht4 P'.tm (P'.cm.trans (if_neg (by omega)))
  obtain ⟨RO, QO, fO⟩ := ov_rq (W := W) R' P' (Or.inl rfl) (fun j hj => (eM 71 j (Or.inl ⟨by decide, by decide⟩)).1.trans (hsy j hj))
  rw [if_pos rfl] at QO
  refine z_C_mono (gm_pass2u d (by omega) μ1 (by rw [(qM 50 44 (Or.inr ⟨rfl, by decide, by decide⟩)).1, P.pm]; decide) (by rw [(qM 50 44 (Or.inr ⟨rfl, by decide, by decide⟩)).1, P.pm]; decide) (anS μ1) (sy_m μ1) ((anS_e qM).trans han) (ovF (z_ui μ1 50 0 0) t c W) ov (by rw [o 50 47 (Or.inr ⟨rfl, by decide, by decide⟩) (by decide) (by decide) (Or.inr ⟨by decide, by decide⟩), o 50 46 (Or.inr ⟨rfl, by decide, by decide⟩) (by decide) (by decide) (Or.inr ⟨by decide, by decide⟩), hlf]; decide) (fun μ' => ∃ V, SMj (ovF (z_ui μ1 50 0 0) t c W) V ∧ SMj (eMB (nM0110 V) (nbS false true true false dl) true dl e) μ') (fun V hV hAV d hd => ?_)) (fun r μ' z => ⟨z.1, ?_⟩)
  · have S1 : SE μ V := fun r k g => (hV r k (by omega)).1.trans ((ovF_o (by omega) (by omega) (Or.inl (by omega))).trans (eM r k (Or.inl ⟨by omega, by omega⟩)).1)
    exact z_C_mono (gm_nobody0110 d (by omega) V hAV dl e ((hV 50 40 (by decide)).1.trans ((o 50 40 (Or.inr ⟨rfl, by decide, by decide⟩) (by decide) (by decide) (Or.inr ⟨by decide, by decide⟩)).trans hdl)) hdl4 he (W 0) (fun M hM => (hW 0 (by decide)).2.1 M (fun r k g => (hM r k g).trans (S1 r k g))) hb0 (W 1) (fun M hM => (hW 1 (by decide)).2.1 M (fun r k g => (hM r k g).trans (S1 r k g))) hb1 (W 2) (fun M hM => (hW 2 (by decide)).2.1 M (fun r k g => (hM r k g).trans (S1 r k g))) hb2 (W 3) (fun M hM => (hW 3 (by decide)).2.1 M (fun r k g => (hM r k g).trans (S1 r k g))) hb3) (fun r μ' z => ⟨z.1, V, hV, z.2⟩)
  · obtain ⟨V, hV, z3⟩ := z.2
    refine RG.cg (eqX_rf _) (sm_EqM z3) ?_
    have RV := RO.cg (eqX_rf _) (sm_EqM hV)
    exact rg_nob0110 RV (fO.trans (sm_EqM hV 50 47 (Or.inr ⟨rfl, by decide, by decide⟩)).1.symm) (show (lT μ t _ _ _ _ _ _).1 0 8 = V.1 50 45 from by rw [lT_0 (by decide), P.tx, (sm_EqM hV 50 45 (Or.inr ⟨rfl, by decide, by decide⟩)).1, o 50 45 (Or.inr ⟨rfl, by decide, by decide⟩) (by decide) (by decide) (Or.inr ⟨by decide, by decide⟩), P.tm]) ((sm_EqM hV 50 40 (Or.inr ⟨rfl, by decide, by decide⟩)).1.trans ((o 50 40 (Or.inr ⟨rfl, by decide, by decide⟩) (by decide) (by decide) (Or.inr ⟨by decide, by decide⟩)).trans hdl)) hdl4 he _
theorem lg_pu0111 {d : Nat} (hd : 705 ≤ d) {μ : zM} (hJ : LJ μ) (hR : RG μ μ) {t c dl e : Nat} (P : RPh μ μ 2 t c) (han : anS μ = false) (hlf : 122 - μ.1 50 47 - μ.1 50 46 = 0) (hdl : μ.1 50 40 = nI dl) (hdl4 : dl < 4) (he : (dl + 1) % 4 = e) {W : Nat → Int64} (hW : WW μ μ c W) (hb0 : decide (lg_cmp (W 0) 0 = 0) = true) (hb1 : decide (lg_cmp (W 1) 0 = 0) = false) (hb2 : decide (lg_cmp (W 2) 0 = 0) = false) (hb3 : decide (lg_cmp (W 3) 0 = 0) = false) (kx : z_C d mi_X6_pass [.ref 0] μ (fun _ μ' => LJ μ' ∧ EqM μ μ')) (km : ∀ μ1, LJ μ1 → z_C d mi_X7_pass [.ref 50] μ1 (fun _ μ' => LJ μ' ∧ EqX μ1 μ')) : GO d mi_X6_pass mi_X7_pass [.ref 0] [.ref 50] μ := by
  have hA := hJ.1.1
  have R := hR.1
  have ht4 := P.t4
  have hp0 : ¬ μ.1 50 44 = 0 := by rw [P.pm]; decide
  have G := hJ.1.2.2 hp0
  have hc : c < 34 := by
    rcases P.c3 with q | ⟨_, q⟩
    · exact q
    · exact absurd q (by decide)
  have cx : μ.1 0 15 = nI c := P.cx.trans (if_neg (by omega))
  have cm : μ.1 50 49 = nI c := P.cm.trans (if_neg (by omega))
  have hsy := an_z han
  obtain ⟨f, hf4, hf47⟩ := i_nat (v := μ.1 50 47) (n := 4) (hA 50 47).1 (hA 50 47).2 (by decide)
  obtain ⟨n, hn4, hn46⟩ := i_nat (v := μ.1 50 46) (n := 122) (hA 50 46).1 (hA 50 46).2 (by decide)
  have hfn : f + n ≤ 122 := by
    have y := G.2.1
    rw [hf47, hn46, nI_toInt (by omega), nI_toInt (by omega)] at y
    omega
  have e48 : μ.1 50 48 = nI f := G.2.2.1.trans hf47
  have xl : xLf μ = nI (122 - f - n) := by rw [left_x R P rfl rfl rfl, hf47, hn46, left_n hfn]
  have TT : ∀ {μ1 : zM}, TE (lTf μ t c W) μ1 → TE μ μ1 := fun h => TE_tr (TE_lT ht4 (Nat.mod_lt _ (by decide)) (Nat.mod_lt _ (by decide)) (Nat.mod_lt _ (by decide))) h
  have z0 : (122 : Int32) - μ.1 50 47 - μ.1 50 46 = nI 0 := hlf
  have hl0 : 122 - f - n = 0 := by
    rw [hf47, hn46, left_n hfn] at z0
    exact (nI_eq (by omega) (by decide)).mp z0
  have cw := fun (d : Nat) (hd : 10 ≤ d) => gc_endUnwon0111 d (by omega) (lTf μ t c W) dl e (show (lT μ t _ _ _ _ _ _).1 0 9 = nI dl from (lT_0 (by decide)).trans (R.dl.trans hdl)) hdl4 he (W 0) (fun μ1 h1 => (hW 0 (by decide)).2.2.1 μ1 (TT h1)) (W 1) (fun μ1 h1 => (hW 1 (by decide)).2.2.1 μ1 (TT h1)) (W 2) (fun μ1 h1 => (hW 2 (by decide)).2.2.1 μ1 (TT h1)) (W 3) (fun μ1 h1 => (hW 3 (by decide)).2.2.1 μ1 (TT h1)) (W dl) (fun μ1 h1 => (hW dl hdl4).2.2.1 μ1 (TT h1)) hb0 hb1 hb2 hb3
  rw [nbS_dl (b0 := false) (b1 := true) (b2 := true) (b3 := true) hb0 hb1 hb2 hb3 hdl4] at cw
  have cc := gc_pass2u d (by omega) μ t c ((t + 1) % 4) ((t + 2) % 4) ((t + 3) % 4) _ _ _ ht4 P.tx hc cx rfl (Nat.mod_lt _ (by decide)) (hW ((t + 1) % 4) (Nat.mod_lt _ (by decide))).1 rfl (Nat.mod_lt _ (by decide)) (hW ((t + 2) % 4) (Nat.mod_lt _ (by decide))).1 rfl (Nat.mod_lt _ (by decide)) (hW ((t + 3) % 4) (Nat.mod_lt _ (by decide))).1 _ xl (by rw [hl0]; decide) _ cw (by rw [P.px]; decide) (by rw [P.px]; decide) (anS μ) (sy_x R) han
  refine go_yes (y := 1) kx km (z_C_mono cc (fun r μ' z => ⟨z.1, by rw [z.2]; exact eqX_rf _⟩)) (fun μ1 h1 qM => ?_)
  have eM : EqM μ (z_ui μ1 50 0 0) := eqM_tr qM (t0_EqM μ1 0)
  have P' := P.cg (eqX_rf _) eM
  have R' := R.cg (eqX_rf _) eM
  have o := ov_f (t := t) (c := c) (W := W) eM
  have ov := ov_go (hW.m (eB_SE (eB_M eM))) (a_H_ui h1.1.1 (bI_top _)) ht4 P'.tm (P'.cm.trans (if_neg (by omega)))
  obtain ⟨RO, QO, fO⟩ := ov_rq (W := W) R' P' (Or.inl rfl) (fun j hj => (eM 71 j (Or.inl ⟨by decide, by decide⟩)).1.trans (hsy j hj))
  rw [if_pos rfl] at QO
  refine z_C_mono (gm_pass2u d (by omega) μ1 (by rw [(qM 50 44 (Or.inr ⟨rfl, by decide, by decide⟩)).1, P.pm]; decide) (by rw [(qM 50 44 (Or.inr ⟨rfl, by decide, by decide⟩)).1, P.pm]; decide) (anS μ1) (sy_m μ1) ((anS_e qM).trans han) (ovF (z_ui μ1 50 0 0) t c W) ov (by rw [o 50 47 (Or.inr ⟨rfl, by decide, by decide⟩) (by decide) (by decide) (Or.inr ⟨by decide, by decide⟩), o 50 46 (Or.inr ⟨rfl, by decide, by decide⟩) (by decide) (by decide) (Or.inr ⟨by decide, by decide⟩), hlf]; decide) (fun μ' => ∃ V, SMj (ovF (z_ui μ1 50 0 0) t c W) V ∧ SMj (eMB (nM0111 V) (nbS false true true true dl) true dl e) μ') (fun V hV hAV d hd => ?_)) (fun r μ' z => ⟨z.1, ?_⟩)
  · have S1 : SE μ V := fun r k g => (hV r k (by omega)).1.trans ((ovF_o (by omega) (by omega) (Or.inl (by omega))).trans (eM r k (Or.inl ⟨by omega, by omega⟩)).1)
    exact z_C_mono (gm_nobody0111 d (by omega) V hAV dl e ((hV 50 40 (by decide)).1.trans ((o 50 40 (Or.inr ⟨rfl, by decide, by decide⟩) (by decide) (by decide) (Or.inr ⟨by decide, by decide⟩)).trans hdl)) hdl4 he (W 0) (fun M hM => (hW 0 (by decide)).2.1 M (fun r k g => (hM r k g).trans (S1 r k g))) hb0 (W 1) (fun M hM => (hW 1 (by decide)).2.1 M (fun r k g => (hM r k g).trans (S1 r k g))) hb1 (W 2) (fun M hM => (hW 2 (by decide)).2.1 M (fun r k g => (hM r k g).trans (S1 r k g))) hb2 (W 3) (fun M hM => (hW 3 (by decide)).2.1 M (fun r k g => (hM r k g).trans (S1 r k g))) hb3) (fun r μ' z => ⟨z.1, V, hV, z.2⟩)
  · obtain ⟨V, hV, z3⟩ := z.2
    refine RG.cg (eqX_rf _) (sm_EqM z3) ?_
    have RV := RO.cg (eqX_rf _) (sm_EqM hV)
    exact rg_nob0111 RV (fO.trans (sm_EqM hV 50 47 (Or.inr ⟨rfl, by decide, by decide⟩)).1.symm) (show (lT μ t _ _ _ _ _ _).1 0 8 = V.1 50 45 from by rw [lT_0 (by decide), P.tx, (sm_EqM hV 50 45 (Or.inr ⟨rfl, by decide, by decide⟩)).1, o 50 45 (Or.inr ⟨rfl, by decide, by decide⟩) (by decide) (by decide) (Or.inr ⟨by decide, by decide⟩), P.tm]) ((sm_EqM hV 50 40 (Or.inr ⟨rfl, by decide, by decide⟩)).1.trans ((o 50 40 (Or.inr ⟨rfl, by decide, by decide⟩) (by decide) (by decide) (Or.inr ⟨by decide, by decide⟩)).trans hdl)) hdl4 he _
theorem lg_pu1000 {d : Nat} (hd : 705 ≤ d) {μ : zM} (hJ : LJ μ) (hR : RG μ μ) {t c dl e : Nat} (P : RPh μ μ 2 t c) (han : anS μ = false) (hlf : 122 - μ.1 50 47 - μ.1 50 46 = 0) (hdl : μ.1 50 40 = nI dl) (hdl4 : dl < 4) (he : (dl + 1) % 4 = e) {W : Nat → Int64} (hW : WW μ μ c W) (hb0 : decide (lg_cmp (W 0) 0 = 0) = false) (hb1 : decide (lg_cmp (W 1) 0 = 0) = true) (hb2 : decide (lg_cmp (W 2) 0 = 0) = true) (hb3 : decide (lg_cmp (W 3) 0 = 0) = true) (kx : z_C d mi_X6_pass [.ref 0] μ (fun _ μ' => LJ μ' ∧ EqM μ μ')) (km : ∀ μ1, LJ μ1 → z_C d mi_X7_pass [.ref 50] μ1 (fun _ μ' => LJ μ' ∧ EqX μ1 μ')) : GO d mi_X6_pass mi_X7_pass [.ref 0] [.ref 50] μ := by
  have hA := hJ.1.1
  have R := hR.1
  have ht4 := P.t4
  have hp0 : ¬ μ.1 50 44 = 0 := by rw [P.pm]; decide
  have G := hJ.1.2.2 hp0
  have hc : c < 34 := by
    rcases P.c3 with q | ⟨_, q⟩
    · exact q
    · exact absurd q (by decide)
  have cx : μ.1 0 15 = nI c := P.cx.trans (if_neg (by omega))
  have cm : μ.1 50 49 = nI c := P.cm.trans (if_neg (by omega))
  have hsy := an_z han
  obtain ⟨f, hf4, hf47⟩ := i_nat (v := μ.1 50 47) (n := 4) (hA 50 47).1 (hA 50 47).2 (by decide)
  obtain ⟨n, hn4, hn46⟩ := i_nat (v := μ.1 50 46) (n := 122) (hA 50 46).1 (hA 50 46).2 (by decide)
  have hfn : f + n ≤ 122 := by
    have y := G.2.1
    rw [hf47, hn46, nI_toInt (by omega), nI_toInt (by omega)] at y
    omega
  have e48 : μ.1 50 48 = nI f := G.2.2.1.trans hf47
  have xl : xLf μ = nI (122 - f - n) := by rw [left_x R P rfl rfl rfl, hf47, hn46, left_n hfn]
  have TT : ∀ {μ1 : zM}, TE (lTf μ t c W) μ1 → TE μ μ1 := fun h => TE_tr (TE_lT ht4 (Nat.mod_lt _ (by decide)) (Nat.mod_lt _ (by decide)) (Nat.mod_lt _ (by decide))) h
  have z0 : (122 : Int32) - μ.1 50 47 - μ.1 50 46 = nI 0 := hlf
  have hl0 : 122 - f - n = 0 := by
    rw [hf47, hn46, left_n hfn] at z0
    exact (nI_eq (by omega) (by decide)).mp z0
  have cw := fun (d : Nat) (hd : 10 ≤ d) => gc_endUnwon1000 d (by omega) (lTf μ t c W) dl e (show (lT μ t _ _ _ _ _ _).1 0 9 = nI dl from (lT_0 (by decide)).trans (R.dl.trans hdl)) hdl4 he (W 0) (fun μ1 h1 => (hW 0 (by decide)).2.2.1 μ1 (TT h1)) (W 1) (fun μ1 h1 => (hW 1 (by decide)).2.2.1 μ1 (TT h1)) (W 2) (fun μ1 h1 => (hW 2 (by decide)).2.2.1 μ1 (TT h1)) (W 3) (fun μ1 h1 => (hW 3 (by decide)).2.2.1 μ1 (TT h1)) (W dl) (fun μ1 h1 => (hW dl hdl4).2.2.1 μ1 (TT h1)) hb0 hb1 hb2 hb3
  rw [nbS_dl (b0 := true) (b1 := false) (b2 := false) (b3 := false) hb0 hb1 hb2 hb3 hdl4] at cw
  have cc := gc_pass2u d (by omega) μ t c ((t + 1) % 4) ((t + 2) % 4) ((t + 3) % 4) _ _ _ ht4 P.tx hc cx rfl (Nat.mod_lt _ (by decide)) (hW ((t + 1) % 4) (Nat.mod_lt _ (by decide))).1 rfl (Nat.mod_lt _ (by decide)) (hW ((t + 2) % 4) (Nat.mod_lt _ (by decide))).1 rfl (Nat.mod_lt _ (by decide)) (hW ((t + 3) % 4) (Nat.mod_lt _ (by decide))).1 _ xl (by rw [hl0]; decide) _ cw (by rw [P.px]; decide) (by rw [P.px]; decide) (anS μ) (sy_x R) han
  refine go_yes (y := 1) kx km (z_C_mono cc (fun r μ' z => ⟨z.1, by rw [z.2]; exact eqX_rf _⟩)) (fun μ1 h1 qM => ?_)
  have eM : EqM μ (z_ui μ1 50 0 0) := eqM_tr qM (t0_EqM μ1 0)
  have P' := P.cg (eqX_rf _) eM
  have R' := R.cg (eqX_rf _) eM
  have o := ov_f (t := t) (c := c) (W := W) eM
  have ov := ov_go (hW.m (eB_SE (eB_M eM))) (a_H_ui h1.1.1 (bI_top _)) ht4 P'.tm (P'.cm.trans (if_neg (by omega)))
  obtain ⟨RO, QO, fO⟩ := ov_rq (W := W) R' P' (Or.inl rfl) (fun j hj => (eM 71 j (Or.inl ⟨by decide, by decide⟩)).1.trans (hsy j hj))
  rw [if_pos rfl] at QO
  refine z_C_mono (gm_pass2u d (by omega) μ1 (by rw [(qM 50 44 (Or.inr ⟨rfl, by decide, by decide⟩)).1, P.pm]; decide) (by rw [(qM 50 44 (Or.inr ⟨rfl, by decide, by decide⟩)).1, P.pm]; decide) (anS μ1) (sy_m μ1) ((anS_e qM).trans han) (ovF (z_ui μ1 50 0 0) t c W) ov (by rw [o 50 47 (Or.inr ⟨rfl, by decide, by decide⟩) (by decide) (by decide) (Or.inr ⟨by decide, by decide⟩), o 50 46 (Or.inr ⟨rfl, by decide, by decide⟩) (by decide) (by decide) (Or.inr ⟨by decide, by decide⟩), hlf]; decide) (fun μ' => ∃ V, SMj (ovF (z_ui μ1 50 0 0) t c W) V ∧ SMj (eMB (nM1000 V) (nbS true false false false dl) true dl e) μ') (fun V hV hAV d hd => ?_)) (fun r μ' z => ⟨z.1, ?_⟩)
  · have S1 : SE μ V := fun r k g => (hV r k (by omega)).1.trans ((ovF_o (by omega) (by omega) (Or.inl (by omega))).trans (eM r k (Or.inl ⟨by omega, by omega⟩)).1)
    exact z_C_mono (gm_nobody1000 d (by omega) V hAV dl e ((hV 50 40 (by decide)).1.trans ((o 50 40 (Or.inr ⟨rfl, by decide, by decide⟩) (by decide) (by decide) (Or.inr ⟨by decide, by decide⟩)).trans hdl)) hdl4 he (W 0) (fun M hM => (hW 0 (by decide)).2.1 M (fun r k g => (hM r k g).trans (S1 r k g))) hb0 (W 1) (fun M hM => (hW 1 (by decide)).2.1 M (fun r k g => (hM r k g).trans (S1 r k g))) hb1 (W 2) (fun M hM => (hW 2 (by decide)).2.1 M (fun r k g => (hM r k g).trans (S1 r k g))) hb2 (W 3) (fun M hM => (hW 3 (by decide)).2.1 M (fun r k g => (hM r k g).trans (S1 r k g))) hb3) (fun r μ' z => ⟨z.1, V, hV, z.2⟩)
  · obtain ⟨V, hV, z3⟩ := z.2
    refine RG.cg (eqX_rf _) (sm_EqM z3) ?_
    have RV := RO.cg (eqX_rf _) (sm_EqM hV)
    exact rg_nob1000 RV (fO.trans (sm_EqM hV 50 47 (Or.inr ⟨rfl, by decide, by decide⟩)).1.symm) (show (lT μ t _ _ _ _ _ _).1 0 8 = V.1 50 45 from by rw [lT_0 (by decide), P.tx, (sm_EqM hV 50 45 (Or.inr ⟨rfl, by decide, by decide⟩)).1, o 50 45 (Or.inr ⟨rfl, by decide, by decide⟩) (by decide) (by decide) (Or.inr ⟨by decide, by decide⟩), P.tm]) ((sm_EqM hV 50 40 (Or.inr ⟨rfl, by decide, by decide⟩)).1.trans ((o 50 40 (Or.inr ⟨rfl, by decide, by decide⟩) (by decide) (by decide) (Or.inr ⟨by decide, by decide⟩)).trans hdl)) hdl4 he _
theorem lg_pu1001 {d : Nat} (hd : 705 ≤ d) {μ : zM} (hJ : LJ μ) (hR : RG μ μ) {t c dl e : Nat} (P : RPh μ μ 2 t c) (han : anS μ = false) (hlf : 122 - μ.1 50 47 - μ.1 50 46 = 0) (hdl : μ.1 50 40 = nI dl) (hdl4 : dl < 4) (he : (dl + 1) % 4 = e) {W : Nat → Int64} (hW : WW μ μ c W) (hb0 : decide (lg_cmp (W 0) 0 = 0) = false) (hb1 : decide (lg_cmp (W 1) 0 = 0) = true) (hb2 : decide (lg_cmp (W 2) 0 = 0) = true) (hb3 : decide (lg_cmp (W 3) 0 = 0) = false) (kx : z_C d mi_X6_pass [.ref 0] μ (fun _ μ' => LJ μ' ∧ EqM μ μ')) (km : ∀ μ1, LJ μ1 → z_C d mi_X7_pass [.ref 50] μ1 (fun _ μ' => LJ μ' ∧ EqX μ1 μ')) : GO d mi_X6_pass mi_X7_pass [.ref 0] [.ref 50] μ := by
  have hA := hJ.1.1
  have R := hR.1
  have ht4 := P.t4
  have hp0 : ¬ μ.1 50 44 = 0 := by rw [P.pm]; decide
  have G := hJ.1.2.2 hp0
  have hc : c < 34 := by
    rcases P.c3 with q | ⟨_, q⟩
    · exact q
    · exact absurd q (by decide)
  have cx : μ.1 0 15 = nI c := P.cx.trans (if_neg (by omega))
  have cm : μ.1 50 49 = nI c := P.cm.trans (if_neg (by omega))
  have hsy := an_z han
  obtain ⟨f, hf4, hf47⟩ := i_nat (v := μ.1 50 47) (n := 4) (hA 50 47).1 (hA 50 47).2 (by decide)
  obtain ⟨n, hn4, hn46⟩ := i_nat (v := μ.1 50 46) (n := 122) (hA 50 46).1 (hA 50 46).2 (by decide)
  have hfn : f + n ≤ 122 := by
    have y := G.2.1
    rw [hf47, hn46, nI_toInt (by omega), nI_toInt (by omega)] at y
    omega
  have e48 : μ.1 50 48 = nI f := G.2.2.1.trans hf47
  have xl : xLf μ = nI (122 - f - n) := by rw [left_x R P rfl rfl rfl, hf47, hn46, left_n hfn]
  have TT : ∀ {μ1 : zM}, TE (lTf μ t c W) μ1 → TE μ μ1 := fun h => TE_tr (TE_lT ht4 (Nat.mod_lt _ (by decide)) (Nat.mod_lt _ (by decide)) (Nat.mod_lt _ (by decide))) h
  have z0 : (122 : Int32) - μ.1 50 47 - μ.1 50 46 = nI 0 := hlf
  have hl0 : 122 - f - n = 0 := by
    rw [hf47, hn46, left_n hfn] at z0
    exact (nI_eq (by omega) (by decide)).mp z0
  have cw := fun (d : Nat) (hd : 10 ≤ d) => gc_endUnwon1001 d (by omega) (lTf μ t c W) dl e (show (lT μ t _ _ _ _ _ _).1 0 9 = nI dl from (lT_0 (by decide)).trans (R.dl.trans hdl)) hdl4 he (W 0) (fun μ1 h1 => (hW 0 (by decide)).2.2.1 μ1 (TT h1)) (W 1) (fun μ1 h1 => (hW 1 (by decide)).2.2.1 μ1 (TT h1)) (W 2) (fun μ1 h1 => (hW 2 (by decide)).2.2.1 μ1 (TT h1)) (W 3) (fun μ1 h1 => (hW 3 (by decide)).2.2.1 μ1 (TT h1)) (W dl) (fun μ1 h1 => (hW dl hdl4).2.2.1 μ1 (TT h1)) hb0 hb1 hb2 hb3
  rw [nbS_dl (b0 := true) (b1 := false) (b2 := false) (b3 := true) hb0 hb1 hb2 hb3 hdl4] at cw
  have cc := gc_pass2u d (by omega) μ t c ((t + 1) % 4) ((t + 2) % 4) ((t + 3) % 4) _ _ _ ht4 P.tx hc cx rfl (Nat.mod_lt _ (by decide)) (hW ((t + 1) % 4) (Nat.mod_lt _ (by decide))).1 rfl (Nat.mod_lt _ (by decide)) (hW ((t + 2) % 4) (Nat.mod_lt _ (by decide))).1 rfl (Nat.mod_lt _ (by decide)) (hW ((t + 3) % 4) (Nat.mod_lt _ (by decide))).1 _ xl (by rw [hl0]; decide) _ cw (by rw [P.px]; decide) (by rw [P.px]; decide) (anS μ) (sy_x R) han
  refine go_yes (y := 1) kx km (z_C_mono cc (fun r μ' z => ⟨z.1, by rw [z.2]; exact eqX_rf _⟩)) (fun μ1 h1 qM => ?_)
  have eM : EqM μ (z_ui μ1 50 0 0) := eqM_tr qM (t0_EqM μ1 0)
  have P' := P.cg (eqX_rf _) eM
  have R' := R.cg (eqX_rf _) eM
  have o := ov_f (t := t) (c := c) (W := W) eM
  have ov := ov_go (hW.m (eB_SE (eB_M eM))) (a_H_ui h1.1.1 (bI_top _)) ht4 P'.tm (P'.cm.trans (if_neg (by omega)))
  obtain ⟨RO, QO, fO⟩ := ov_rq (W := W) R' P' (Or.inl rfl) (fun j hj => (eM 71 j (Or.inl ⟨by decide, by decide⟩)).1.trans (hsy j hj))
  rw [if_pos rfl] at QO
  refine z_C_mono (gm_pass2u d (by omega) μ1 (by rw [(qM 50 44 (Or.inr ⟨rfl, by decide, by decide⟩)).1, P.pm]; decide) (by rw [(qM 50 44 (Or.inr ⟨rfl, by decide, by decide⟩)).1, P.pm]; decide) (anS μ1) (sy_m μ1) ((anS_e qM).trans han) (ovF (z_ui μ1 50 0 0) t c W) ov (by rw [o 50 47 (Or.inr ⟨rfl, by decide, by decide⟩) (by decide) (by decide) (Or.inr ⟨by decide, by decide⟩), o 50 46 (Or.inr ⟨rfl, by decide, by decide⟩) (by decide) (by decide) (Or.inr ⟨by decide, by decide⟩), hlf]; decide) (fun μ' => ∃ V, SMj (ovF (z_ui μ1 50 0 0) t c W) V ∧ SMj (eMB (nM1001 V) (nbS true false false true dl) true dl e) μ') (fun V hV hAV d hd => ?_)) (fun r μ' z => ⟨z.1, ?_⟩)
  · have S1 : SE μ V := fun r k g => (hV r k (by omega)).1.trans ((ovF_o (by omega) (by omega) (Or.inl (by omega))).trans (eM r k (Or.inl ⟨by omega, by omega⟩)).1)
    exact z_C_mono (gm_nobody1001 d (by omega) V hAV dl e ((hV 50 40 (by decide)).1.trans ((o 50 40 (Or.inr ⟨rfl, by decide, by decide⟩) (by decide) (by decide) (Or.inr ⟨by decide, by decide⟩)).trans hdl)) hdl4 he (W 0) (fun M hM => (hW 0 (by decide)).2.1 M (fun r k g => (hM r k g).trans (S1 r k g))) hb0 (W 1) (fun M hM => (hW 1 (by decide)).2.1 M (fun r k g => (hM r k g).trans (S1 r k g))) hb1 (W 2) (fun M hM => (hW 2 (by decide)).2.1 M (fun r k g => (hM r k g).trans (S1 r k g))) hb2 (W 3) (fun M hM => (hW 3 (by decide)).2.1 M (fun r k g => (hM r k g).trans (S1 r k g))) hb3) (fun r μ' z => ⟨z.1, V, hV, z.2⟩)
  · obtain ⟨V, hV, z3⟩ := z.2
    refine RG.cg (eqX_rf _) (sm_EqM z3) ?_
    have RV := RO.cg (eqX_rf _) (sm_EqM hV)
    exact rg_nob1001 RV (fO.trans (sm_EqM hV 50 47 (Or.inr ⟨rfl, by decide, by decide⟩)).1.symm) (show (lT μ t _ _ _ _ _ _).1 0 8 = V.1 50 45 from by rw [lT_0 (by decide), P.tx, (sm_EqM hV 50 45 (Or.inr ⟨rfl, by decide, by decide⟩)).1, o 50 45 (Or.inr ⟨rfl, by decide, by decide⟩) (by decide) (by decide) (Or.inr ⟨by decide, by decide⟩), P.tm]) ((sm_EqM hV 50 40 (Or.inr ⟨rfl, by decide, by decide⟩)).1.trans ((o 50 40 (Or.inr ⟨rfl, by decide, by decide⟩) (by decide) (by decide) (Or.inr ⟨by decide, by decide⟩)).trans hdl)) hdl4 he _
theorem lg_pu1010 {d : Nat} (hd : 705 ≤ d) {μ : zM} (hJ : LJ μ) (hR : RG μ μ) {t c dl e : Nat} (P : RPh μ μ 2 t c) (han : anS μ = false) (hlf : 122 - μ.1 50 47 - μ.1 50 46 = 0) (hdl : μ.1 50 40 = nI dl) (hdl4 : dl < 4) (he : (dl + 1) % 4 = e) {W : Nat → Int64} (hW : WW μ μ c W) (hb0 : decide (lg_cmp (W 0) 0 = 0) = false) (hb1 : decide (lg_cmp (W 1) 0 = 0) = true) (hb2 : decide (lg_cmp (W 2) 0 = 0) = false) (hb3 : decide (lg_cmp (W 3) 0 = 0) = true) (kx : z_C d mi_X6_pass [.ref 0] μ (fun _ μ' => LJ μ' ∧ EqM μ μ')) (km : ∀ μ1, LJ μ1 → z_C d mi_X7_pass [.ref 50] μ1 (fun _ μ' => LJ μ' ∧ EqX μ1 μ')) : GO d mi_X6_pass mi_X7_pass [.ref 0] [.ref 50] μ := by
  have hA := hJ.1.1
  have R := hR.1
  have ht4 := P.t4
  have hp0 : ¬ μ.1 50 44 = 0 := by rw [P.pm]; decide
  have G := hJ.1.2.2 hp0
  have hc : c < 34 := by
    rcases P.c3 with q | ⟨_, q⟩
    · exact q
    · exact absurd q (by decide)
  have cx : μ.1 0 15 = nI c := P.cx.trans (if_neg (by omega))
  have cm : μ.1 50 49 = nI c := P.cm.trans (if_neg (by omega))
  have hsy := an_z han
  obtain ⟨f, hf4, hf47⟩ := i_nat (v := μ.1 50 47) (n := 4) (hA 50 47).1 (hA 50 47).2 (by decide)
  obtain ⟨n, hn4, hn46⟩ := i_nat (v := μ.1 50 46) (n := 122) (hA 50 46).1 (hA 50 46).2 (by decide)
  have hfn : f + n ≤ 122 := by
    have y := G.2.1
    rw [hf47, hn46, nI_toInt (by omega), nI_toInt (by omega)] at y
    omega
  have e48 : μ.1 50 48 = nI f := G.2.2.1.trans hf47
  have xl : xLf μ = nI (122 - f - n) := by rw [left_x R P rfl rfl rfl, hf47, hn46, left_n hfn]
  have TT : ∀ {μ1 : zM}, TE (lTf μ t c W) μ1 → TE μ μ1 := fun h => TE_tr (TE_lT ht4 (Nat.mod_lt _ (by decide)) (Nat.mod_lt _ (by decide)) (Nat.mod_lt _ (by decide))) h
  have z0 : (122 : Int32) - μ.1 50 47 - μ.1 50 46 = nI 0 := hlf
  have hl0 : 122 - f - n = 0 := by
    rw [hf47, hn46, left_n hfn] at z0
    exact (nI_eq (by omega) (by decide)).mp z0
  have cw := fun (d : Nat) (hd : 10 ≤ d) => gc_endUnwon1010 d (by omega) (lTf μ t c W) dl e (show (lT μ t _ _ _ _ _ _).1 0 9 = nI dl from (lT_0 (by decide)).trans (R.dl.trans hdl)) hdl4 he (W 0) (fun μ1 h1 => (hW 0 (by decide)).2.2.1 μ1 (TT h1)) (W 1) (fun μ1 h1 => (hW 1 (by decide)).2.2.1 μ1 (TT h1)) (W 2) (fun μ1 h1 => (hW 2 (by decide)).2.2.1 μ1 (TT h1)) (W 3) (fun μ1 h1 => (hW 3 (by decide)).2.2.1 μ1 (TT h1)) (W dl) (fun μ1 h1 => (hW dl hdl4).2.2.1 μ1 (TT h1)) hb0 hb1 hb2 hb3
  rw [nbS_dl (b0 := true) (b1 := false) (b2 := true) (b3 := false) hb0 hb1 hb2 hb3 hdl4] at cw
  have cc := gc_pass2u d (by omega) μ t c ((t + 1) % 4) ((t + 2) % 4) ((t + 3) % 4) _ _ _ ht4 P.tx hc cx rfl (Nat.mod_lt _ (by decide)) (hW ((t + 1) % 4) (Nat.mod_lt _ (by decide))).1 rfl (Nat.mod_lt _ (by decide)) (hW ((t + 2) % 4) (Nat.mod_lt _ (by decide))).1 rfl (Nat.mod_lt _ (by decide)) (hW ((t + 3) % 4) (Nat.mod_lt _ (by decide))).1 _ xl (by rw [hl0]; decide) _ cw (by rw [P.px]; decide) (by rw [P.px]; decide) (anS μ) (sy_x R) han
  refine go_yes (y := 1) kx km (z_C_mono cc (fun r μ' z => ⟨z.1, by rw [z.2]; exact eqX_rf _⟩)) (fun μ1 h1 qM => ?_)
  have eM : EqM μ (z_ui μ1 50 0 0) := eqM_tr qM (t0_EqM μ1 0)
  have P' := P.cg (eqX_rf _) eM
  have R' := R.cg (eqX_rf _) eM
  have o := ov_f (t := t) (c := c) (W := W) eM
  have ov := ov_go (hW.m (eB_SE (eB_M eM))) (a_H_ui h1.1.1 (bI_top _)) ht4 P'.tm (P'.cm.trans (if_neg (by omega)))
  obtain ⟨RO, QO, fO⟩ := ov_rq (W := W) R' P' (Or.inl rfl) (fun j hj => (eM 71 j (Or.inl ⟨by decide, by decide⟩)).1.trans (hsy j hj))
  rw [if_pos rfl] at QO
  refine z_C_mono (gm_pass2u d (by omega) μ1 (by rw [(qM 50 44 (Or.inr ⟨rfl, by decide, by decide⟩)).1, P.pm]; decide) (by rw [(qM 50 44 (Or.inr ⟨rfl, by decide, by decide⟩)).1, P.pm]; decide) (anS μ1) (sy_m μ1) ((anS_e qM).trans han) (ovF (z_ui μ1 50 0 0) t c W) ov (by rw [o 50 47 (Or.inr ⟨rfl, by decide, by decide⟩) (by decide) (by decide) (Or.inr ⟨by decide, by decide⟩), o 50 46 (Or.inr ⟨rfl, by decide, by decide⟩) (by decide) (by decide) (Or.inr ⟨by decide, by decide⟩), hlf]; decide) (fun μ' => ∃ V, SMj (ovF (z_ui μ1 50 0 0) t c W) V ∧ SMj (eMB (nM1010 V) (nbS true false true false dl) true dl e) μ') (fun V hV hAV d hd => ?_)) (fun r μ' z => ⟨z.1, ?_⟩)
  · have S1 : SE μ V := fun r k g => (hV r k (by omega)).1.trans ((ovF_o (by omega) (by omega) (Or.inl (by omega))).trans (eM r k (Or.inl ⟨by omega, by omega⟩)).1)
    exact z_C_mono (gm_nobody1010 d (by omega) V hAV dl e ((hV 50 40 (by decide)).1.trans ((o 50 40 (Or.inr ⟨rfl, by decide, by decide⟩) (by decide) (by decide) (Or.inr ⟨by decide, by decide⟩)).trans hdl)) hdl4 he (W 0) (fun M hM => (hW 0 (by decide)).2.1 M (fun r k g => (hM r k g).trans (S1 r k g))) hb0 (W 1) (fun M hM => (hW 1 (by decide)).2.1 M (fun r k g => (hM r k g).trans (S1 r k g))) hb1 (W 2) (fun M hM => (hW 2 (by decide)).2.1 M (fun r k g => (hM r k g).trans (S1 r k g))) hb2 (W 3) (fun M hM => (hW 3 (by decide)).2.1 M (fun r k g => (hM r k g).trans (S1 r k g))) hb3) (fun r μ' z => ⟨z.1, V, hV, z.2⟩)
  · obtain ⟨V, hV, z3⟩ := z.2
    refine RG.cg (eqX_rf _) (sm_EqM z3) ?_
    have RV := RO.cg (eqX_rf _) (sm_EqM hV)
    exact rg_nob1010 RV (fO.trans (sm_EqM hV 50 47 (Or.inr ⟨rfl, by decide, by decide⟩)).1.symm) (show (lT μ t _ _ _ _ _ _).1 0 8 = V.1 50 45 from by rw [lT_0 (by decide), P.tx, (sm_EqM hV 50 45 (Or.inr ⟨rfl, by decide, by decide⟩)).1, o 50 45 (Or.inr ⟨rfl, by decide, by decide⟩) (by decide) (by decide) (Or.inr ⟨by decide, by decide⟩), P.tm]) ((sm_EqM hV 50 40 (Or.inr ⟨rfl, by decide, by decide⟩)).1.trans ((o 50 40 (Or.inr ⟨rfl, by decide, by decide⟩) (by decide) (by decide) (Or.inr ⟨by decide, by decide⟩)).trans hdl)) hdl4 he _
theorem lg_pu1011 {d : Nat} (hd : 705 ≤ d) {μ : zM} (hJ : LJ μ) (hR : RG μ μ) {t c dl e : Nat} (P : RPh μ μ 2 t c) (han : anS μ = false) (hlf : 122 - μ.1 50 47 - μ.1 50 46 = 0) (hdl : μ.1 50 40 = nI dl) (hdl4 : dl < 4) (he : (dl + 1) % 4 = e) {W : Nat → Int64} (hW : WW μ μ c W) (hb0 : decide (lg_cmp (W 0) 0 = 0) = false) (hb1 : decide (lg_cmp (W 1) 0 = 0) = true) (hb2 : decide (lg_cmp (W 2) 0 = 0) = false) (hb3 : decide (lg_cmp (W 3) 0 = 0) = false) (kx : z_C d mi_X6_pass [.ref 0] μ (fun _ μ' => LJ μ' ∧ EqM μ μ')) (km : ∀ μ1, LJ μ1 → z_C d mi_X7_pass [.ref 50] μ1 (fun _ μ' => LJ μ' ∧ EqX μ1 μ')) : GO d mi_X6_pass mi_X7_pass [.ref 0] [.ref 50] μ := by
  have hA := hJ.1.1
  have R := hR.1
  have ht4 := P.t4
  have hp0 : ¬ μ.1 50 44 = 0 := by rw [P.pm]; decide
  have G := hJ.1.2.2 hp0
  have hc : c < 34 := by
    rcases P.c3 with q | ⟨_, q⟩
    · exact q
    · exact absurd q (by decide)
  have cx : μ.1 0 15 = nI c := P.cx.trans (if_neg (by omega))
  have cm : μ.1 50 49 = nI c := P.cm.trans (if_neg (by omega))
  have hsy := an_z han
  obtain ⟨f, hf4, hf47⟩ := i_nat (v := μ.1 50 47) (n := 4) (hA 50 47).1 (hA 50 47).2 (by decide)
  obtain ⟨n, hn4, hn46⟩ := i_nat (v := μ.1 50 46) (n := 122) (hA 50 46).1 (hA 50 46).2 (by decide)
  have hfn : f + n ≤ 122 := by
    have y := G.2.1
    rw [hf47, hn46, nI_toInt (by omega), nI_toInt (by omega)] at y
    omega
  have e48 : μ.1 50 48 = nI f := G.2.2.1.trans hf47
  have xl : xLf μ = nI (122 - f - n) := by rw [left_x R P rfl rfl rfl, hf47, hn46, left_n hfn]
  have TT : ∀ {μ1 : zM}, TE (lTf μ t c W) μ1 → TE μ μ1 := fun h => TE_tr (TE_lT ht4 (Nat.mod_lt _ (by decide)) (Nat.mod_lt _ (by decide)) (Nat.mod_lt _ (by decide))) h
  have z0 : (122 : Int32) - μ.1 50 47 - μ.1 50 46 = nI 0 := hlf
  have hl0 : 122 - f - n = 0 := by
    rw [hf47, hn46, left_n hfn] at z0
    exact (nI_eq (by omega) (by decide)).mp z0
  have cw := fun (d : Nat) (hd : 10 ≤ d) => gc_endUnwon1011 d (by omega) (lTf μ t c W) dl e (show (lT μ t _ _ _ _ _ _).1 0 9 = nI dl from (lT_0 (by decide)).trans (R.dl.trans hdl)) hdl4 he (W 0) (fun μ1 h1 => (hW 0 (by decide)).2.2.1 μ1 (TT h1)) (W 1) (fun μ1 h1 => (hW 1 (by decide)).2.2.1 μ1 (TT h1)) (W 2) (fun μ1 h1 => (hW 2 (by decide)).2.2.1 μ1 (TT h1)) (W 3) (fun μ1 h1 => (hW 3 (by decide)).2.2.1 μ1 (TT h1)) (W dl) (fun μ1 h1 => (hW dl hdl4).2.2.1 μ1 (TT h1)) hb0 hb1 hb2 hb3
  rw [nbS_dl (b0 := true) (b1 := false) (b2 := true) (b3 := true) hb0 hb1 hb2 hb3 hdl4] at cw
  have cc := gc_pass2u d (by omega) μ t c ((t + 1) % 4) ((t + 2) % 4) ((t + 3) % 4) _ _ _ ht4 P.tx hc cx rfl (Nat.mod_lt _ (by decide)) (hW ((t + 1) % 4) (Nat.mod_lt _ (by decide))).1 rfl (Nat.mod_lt _ (by decide)) (hW ((t + 2) % 4) (Nat.mod_lt _ (by decide))).1 rfl (Nat.mod_lt _ (by decide)) (hW ((t + 3) % 4) (Nat.mod_lt _ (by decide))).1 _ xl (by rw [hl0]; decide) _ cw (by rw [P.px]; decide) (by rw [P.px]; decide) (anS μ) (sy_x R) han
  refine go_yes (y := 1) kx km (z_C_mono cc (fun r μ' z => ⟨z.1, by rw [z.2]; exact eqX_rf _⟩)) (fun μ1 h1 qM => ?_)
  have eM : EqM μ (z_ui μ1 50 0 0) := eqM_tr qM (t0_EqM μ1 0)
  have P' := P.cg (eqX_rf _) eM
  have R' := R.cg (eqX_rf _) eM
  have o := ov_f (t := t) (c := c) (W := W) eM
  have ov := ov_go (hW.m (eB_SE (eB_M eM))) (a_H_ui h1.1.1 (bI_top _)) ht4 P'.tm (P'.cm.trans (if_neg (by omega)))
  obtain ⟨RO, QO, fO⟩ := ov_rq (W := W) R' P' (Or.inl rfl) (fun j hj => (eM 71 j (Or.inl ⟨by decide, by decide⟩)).1.trans (hsy j hj))
  rw [if_pos rfl] at QO
  refine z_C_mono (gm_pass2u d (by omega) μ1 (by rw [(qM 50 44 (Or.inr ⟨rfl, by decide, by decide⟩)).1, P.pm]; decide) (by rw [(qM 50 44 (Or.inr ⟨rfl, by decide, by decide⟩)).1, P.pm]; decide) (anS μ1) (sy_m μ1) ((anS_e qM).trans han) (ovF (z_ui μ1 50 0 0) t c W) ov (by rw [o 50 47 (Or.inr ⟨rfl, by decide, by decide⟩) (by decide) (by decide) (Or.inr ⟨by decide, by decide⟩), o 50 46 (Or.inr ⟨rfl, by decide, by decide⟩) (by decide) (by decide) (Or.inr ⟨by decide, by decide⟩), hlf]; decide) (fun μ' => ∃ V, SMj (ovF (z_ui μ1 50 0 0) t c W) V ∧ SMj (eMB (nM1011 V) (nbS true false true true dl) true dl e) μ') (fun V hV hAV d hd => ?_)) (fun r μ' z => ⟨z.1, ?_⟩)
  · have S1 : SE μ V := fun r k g => (hV r k (by omega)).1.trans ((ovF_o (by omega) (by omega) (Or.inl (by omega))).trans (eM r k (Or.inl ⟨by omega, by omega⟩)).1)
    exact z_C_mono (gm_nobody1011 d (by omega) V hAV dl e ((hV 50 40 (by decide)).1.trans ((o 50 40 (Or.inr ⟨rfl, by decide, by decide⟩) (by decide) (by decide) (Or.inr ⟨by decide, by decide⟩)).trans hdl)) hdl4 he (W 0) (fun M hM => (hW 0 (by decide)).2.1 M (fun r k g => (hM r k g).trans (S1 r k g))) hb0 (W 1) (fun M hM => (hW 1 (by decide)).2.1 M (fun r k g => (hM r k g).trans (S1 r k g))) hb1 (W 2) (fun M hM => (hW 2 (by decide)).2.1 M (fun r k g => (hM r k g).trans (S1 r k g))) hb2 (W 3) (fun M hM => (hW 3 (by decide)).2.1 M (fun r k g => (hM r k g).trans (S1 r k g))) hb3) (fun r μ' z => ⟨z.1, V, hV, z.2⟩)
  · obtain ⟨V, hV, z3⟩ := z.2
    refine RG.cg (eqX_rf _) (sm_EqM z3) ?_
    have RV := RO.cg (eqX_rf _) (sm_EqM hV)
    exact rg_nob1011 RV (fO.trans (sm_EqM hV 50 47 (Or.inr ⟨rfl, by decide, by decide⟩)).1.symm) (show (lT μ t _ _ _ _ _ _).1 0 8 = V.1 50 45 from by rw [lT_0 (by decide), P.tx, (sm_EqM hV 50 45 (Or.inr ⟨rfl, by decide, by decide⟩)).1, o 50 45 (Or.inr ⟨rfl, by decide, by decide⟩) (by decide) (by decide) (Or.inr ⟨by decide, by decide⟩), P.tm]) ((sm_EqM hV 50 40 (Or.inr ⟨rfl, by decide, by decide⟩)).1.trans ((o 50 40 (Or.inr ⟨rfl, by decide, by decide⟩) (by decide) (by decide) (Or.inr ⟨by decide, by decide⟩)).trans hdl)) hdl4 he _
theorem lg_pu1100 {d : Nat} (hd : 705 ≤ d) {μ : zM} (hJ : LJ μ) (hR : RG μ μ) {t c dl e : Nat} (P : RPh μ μ 2 t c) (han : anS μ = false) (hlf : 122 - μ.1 50 47 - μ.1 50 46 = 0) (hdl : μ.1 50 40 = nI dl) (hdl4 : dl < 4) (he : (dl + 1) % 4 = e) {W : Nat → Int64} (hW : WW μ μ c W) (hb0 : decide (lg_cmp (W 0) 0 = 0) = false) (hb1 : decide (lg_cmp (W 1) 0 = 0) = false) (hb2 : decide (lg_cmp (W 2) 0 = 0) = true) (hb3 : decide (lg_cmp (W 3) 0 = 0) = true) (kx : z_C d mi_X6_pass [.ref 0] μ (fun _ μ' => LJ μ' ∧ EqM μ μ')) (km : ∀ μ1, LJ μ1 → z_C d mi_X7_pass [.ref 50] μ1 (fun _ μ' => LJ μ' ∧ EqX μ1 μ')) : GO d mi_X6_pass mi_X7_pass [.ref 0] [.ref 50] μ := by
  have hA := hJ.1.1
  have R := hR.1
  have ht4 := P.t4
  have hp0 : ¬ μ.1 50 44 = 0 := by rw [P.pm]; decide
  have G := hJ.1.2.2 hp0
  have hc : c < 34 := by
    rcases P.c3 with q | ⟨_, q⟩
    · exact q
    · exact absurd q (by decide)
  have cx : μ.1 0 15 = nI c := P.cx.trans (if_neg (by omega))
  have cm : μ.1 50 49 = nI c := P.cm.trans (if_neg (by omega))
  have hsy := an_z han
  obtain ⟨f, hf4, hf47⟩ := i_nat (v := μ.1 50 47) (n := 4) (hA 50 47).1 (hA 50 47).2 (by decide)
  obtain ⟨n, hn4, hn46⟩ := i_nat (v := μ.1 50 46) (n := 122) (hA 50 46).1 (hA 50 46).2 (by decide)
  have hfn : f + n ≤ 122 := by
    have y := G.2.1
    rw [hf47, hn46, nI_toInt (by omega), nI_toInt (by omega)] at y
    omega
  have e48 : μ.1 50 48 = nI f := G.2.2.1.trans hf47
  have xl : xLf μ = nI (122 - f - n) := by rw [left_x R P rfl rfl rfl, hf47, hn46, left_n hfn]
  have TT : ∀ {μ1 : zM}, TE (lTf μ t c W) μ1 → TE μ μ1 := fun h => TE_tr (TE_lT ht4 (Nat.mod_lt _ (by decide)) (Nat.mod_lt _ (by decide)) (Nat.mod_lt _ (by decide))) h
  have z0 : (122 : Int32) - μ.1 50 47 - μ.1 50 46 = nI 0 := hlf
  have hl0 : 122 - f - n = 0 := by
    rw [hf47, hn46, left_n hfn] at z0
    exact (nI_eq (by omega) (by decide)).mp z0
  have cw := fun (d : Nat) (hd : 10 ≤ d) => gc_endUnwon1100 d (by omega) (lTf μ t c W) dl e (show (lT μ t _ _ _ _ _ _).1 0 9 = nI dl from (lT_0 (by decide)).trans (R.dl.trans hdl)) hdl4 he (W 0) (fun μ1 h1 => (hW 0 (by decide)).2.2.1 μ1 (TT h1)) (W 1) (fun μ1 h1 => (hW 1 (by decide)).2.2.1 μ1 (TT h1)) (W 2) (fun μ1 h1 => (hW 2 (by decide)).2.2.1 μ1 (TT h1)) (W 3) (fun μ1 h1 => (hW 3 (by decide)).2.2.1 μ1 (TT h1)) (W dl) (fun μ1 h1 => (hW dl hdl4).2.2.1 μ1 (TT h1)) hb0 hb1 hb2 hb3
  rw [nbS_dl (b0 := true) (b1 := true) (b2 := false) (b3 := false) hb0 hb1 hb2 hb3 hdl4] at cw
  have cc := gc_pass2u d (by omega) μ t c ((t + 1) % 4) ((t + 2) % 4) ((t + 3) % 4) _ _ _ ht4 P.tx hc cx rfl (Nat.mod_lt _ (by decide)) (hW ((t + 1) % 4) (Nat.mod_lt _ (by decide))).1 rfl (Nat.mod_lt _ (by decide)) (hW ((t + 2) % 4) (Nat.mod_lt _ (by decide))).1 rfl (Nat.mod_lt _ (by decide)) (hW ((t + 3) % 4) (Nat.mod_lt _ (by decide))).1 _ xl (by rw [hl0]; decide) _ cw (by rw [P.px]; decide) (by rw [P.px]; decide) (anS μ) (sy_x R) han
  refine go_yes (y := 1) kx km (z_C_mono cc (fun r μ' z => ⟨z.1, by rw [z.2]; exact eqX_rf _⟩)) (fun μ1 h1 qM => ?_)
  have eM : EqM μ (z_ui μ1 50 0 0) := eqM_tr qM (t0_EqM μ1 0)
  have P' := P.cg (eqX_rf _) eM
  have R' := R.cg (eqX_rf _) eM
  have o := ov_f (t := t) (c := c) (W := W) eM
  have ov := ov_go (hW.m (eB_SE (eB_M eM))) (a_H_ui h1.1.1 (bI_top _)) ht4 P'.tm (P'.cm.trans (if_neg (by omega)))
  obtain ⟨RO, QO, fO⟩ := ov_rq (W := W) R' P' (Or.inl rfl) (fun j hj => (eM 71 j (Or.inl ⟨by decide, by decide⟩)).1.trans (hsy j hj))
  rw [if_pos rfl] at QO
  refine z_C_mono (gm_pass2u d (by omega) μ1 (by rw [(qM 50 44 (Or.inr ⟨rfl, by decide, by decide⟩)).1, P.pm]; decide) (by rw [(qM 50 44 (Or.inr ⟨rfl, by decide, by decide⟩)).1, P.pm]; decide) (anS μ1) (sy_m μ1) ((anS_e qM).trans han) (ovF (z_ui μ1 50 0 0) t c W) ov (by rw [o 50 47 (Or.inr ⟨rfl, by decide, by decide⟩) (by decide) (by decide) (Or.inr ⟨by decide, by decide⟩), o 50 46 (Or.inr ⟨rfl, by decide, by decide⟩) (by decide) (by decide) (Or.inr ⟨by decide, by decide⟩), hlf]; decide) (fun μ' => ∃ V, SMj (ovF (z_ui μ1 50 0 0) t c W) V ∧ SMj (eMB (nM1100 V) (nbS true true false false dl) true dl e) μ') (fun V hV hAV d hd => ?_)) (fun r μ' z => ⟨z.1, ?_⟩)
  · have S1 : SE μ V := fun r k g => (hV r k (by omega)).1.trans ((ovF_o (by omega) (by omega) (Or.inl (by omega))).trans (eM r k (Or.inl ⟨by omega, by omega⟩)).1)
    exact z_C_mono (gm_nobody1100 d (by omega) V hAV dl e ((hV 50 40 (by decide)).1.trans ((o 50 40 (Or.inr ⟨rfl, by decide, by decide⟩) (by decide) (by decide) (Or.inr ⟨by decide, by decide⟩)).trans hdl)) hdl4 he (W 0) (fun M hM => (hW 0 (by decide)).2.1 M (fun r k g => (hM r k g).trans (S1 r k g))) hb0 (W 1) (fun M hM => (hW 1 (by decide)).2.1 M (fun r k g => (hM r k g).trans (S1 r k g))) hb1 (W 2) (fun M hM => (hW 2 (by decide)).2.1 M (fun r k g => (hM r k g).trans (S1 r k g))) hb2 (W 3) (fun M hM => (hW 3 (by decide)).2.1 M (fun r k g => (hM r k g).trans (S1 r k g))) hb3) (fun r μ' z => ⟨z.1, V, hV, z.2⟩)
  · obtain ⟨V, hV, z3⟩ := z.2
    refine RG.cg (eqX_rf _) (sm_EqM z3) ?_
    have RV := RO.cg (eqX_rf _) (sm_EqM hV)
    exact rg_nob1100 RV (fO.trans (sm_EqM hV 50 47 (Or.inr ⟨rfl, by decide, by decide⟩)).1.symm) (show (lT μ t _ _ _ _ _ _).1 0 8 = V.1 50 45 from by rw [lT_0 (by decide), P.tx, (sm_EqM hV 50 45 (Or.inr ⟨rfl, by decide, by decide⟩)).1, o 50 45 (Or.inr ⟨rfl, by decide, by decide⟩) (by decide) (by decide) (Or.inr ⟨by decide, by decide⟩), P.tm]) ((sm_EqM hV 50 40 (Or.inr ⟨rfl, by decide, by decide⟩)).1.trans ((o 50 40 (Or.inr ⟨rfl, by decide, by decide⟩) (by decide) (by decide) (Or.inr ⟨by decide, by decide⟩)).trans hdl)) hdl4 he _
theorem lg_pu1101 {d : Nat} (hd : 705 ≤ d) {μ : zM} (hJ : LJ μ) (hR : RG μ μ) {t c dl e : Nat} (P : RPh μ μ 2 t c) (han : anS μ = false) (hlf : 122 - μ.1 50 47 - μ.1 50 46 = 0) (hdl : μ.1 50 40 = nI dl) (hdl4 : dl < 4) (he : (dl + 1) % 4 = e) {W : Nat → Int64} (hW : WW μ μ c W) (hb0 : decide (lg_cmp (W 0) 0 = 0) = false) (hb1 : decide (lg_cmp (W 1) 0 = 0) = false) (hb2 : decide (lg_cmp (W 2) 0 = 0) = true) (hb3 : decide (lg_cmp (W 3) 0 = 0) = false) (kx : z_C d mi_X6_pass [.ref 0] μ (fun _ μ' => LJ μ' ∧ EqM μ μ')) (km : ∀ μ1, LJ μ1 → z_C d mi_X7_pass [.ref 50] μ1 (fun _ μ' => LJ μ' ∧ EqX μ1 μ')) : GO d mi_X6_pass mi_X7_pass [.ref 0] [.ref 50] μ := by
  have hA := hJ.1.1
  have R := hR.1
  have ht4 := P.t4
  have hp0 : ¬ μ.1 50 44 = 0 := by rw [P.pm]; decide
  have G := hJ.1.2.2 hp0
  have hc : c < 34 := by
    rcases P.c3 with q | ⟨_, q⟩
    · exact q
    · exact absurd q (by decide)
  have cx : μ.1 0 15 = nI c := P.cx.trans (if_neg (by omega))
  have cm : μ.1 50 49 = nI c := P.cm.trans (if_neg (by omega))
  have hsy := an_z han
  obtain ⟨f, hf4, hf47⟩ := i_nat (v := μ.1 50 47) (n := 4) (hA 50 47).1 (hA 50 47).2 (by decide)
  obtain ⟨n, hn4, hn46⟩ := i_nat (v := μ.1 50 46) (n := 122) (hA 50 46).1 (hA 50 46).2 (by decide)
  have hfn : f + n ≤ 122 := by
    have y := G.2.1
    rw [hf47, hn46, nI_toInt (by omega), nI_toInt (by omega)] at y
    omega
  have e48 : μ.1 50 48 = nI f := G.2.2.1.trans hf47
  have xl : xLf μ = nI (122 - f - n) := by rw [left_x R P rfl rfl rfl, hf47, hn46, left_n hfn]
  have TT : ∀ {μ1 : zM}, TE (lTf μ t c W) μ1 → TE μ μ1 := fun h => TE_tr (TE_lT ht4 (Nat.mod_lt _ (by decide)) (Nat.mod_lt _ (by decide)) (Nat.mod_lt _ (by decide))) h
  have z0 : (122 : Int32) - μ.1 50 47 - μ.1 50 46 = nI 0 := hlf
  have hl0 : 122 - f - n = 0 := by
    rw [hf47, hn46, left_n hfn] at z0
    exact (nI_eq (by omega) (by decide)).mp z0
  have cw := fun (d : Nat) (hd : 10 ≤ d) => gc_endUnwon1101 d (by omega) (lTf μ t c W) dl e (show (lT μ t _ _ _ _ _ _).1 0 9 = nI dl from (lT_0 (by decide)).trans (R.dl.trans hdl)) hdl4 he (W 0) (fun μ1 h1 => (hW 0 (by decide)).2.2.1 μ1 (TT h1)) (W 1) (fun μ1 h1 => (hW 1 (by decide)).2.2.1 μ1 (TT h1)) (W 2) (fun μ1 h1 => (hW 2 (by decide)).2.2.1 μ1 (TT h1)) (W 3) (fun μ1 h1 => (hW 3 (by decide)).2.2.1 μ1 (TT h1)) (W dl) (fun μ1 h1 => (hW dl hdl4).2.2.1 μ1 (TT h1)) hb0 hb1 hb2 hb3
  rw [nbS_dl (b0 := true) (b1 := true) (b2 := false) (b3 := true) hb0 hb1 hb2 hb3 hdl4] at cw
  have cc := gc_pass2u d (by omega) μ t c ((t + 1) % 4) ((t + 2) % 4) ((t + 3) % 4) _ _ _ ht4 P.tx hc cx rfl (Nat.mod_lt _ (by decide)) (hW ((t + 1) % 4) (Nat.mod_lt _ (by decide))).1 rfl (Nat.mod_lt _ (by decide)) (hW ((t + 2) % 4) (Nat.mod_lt _ (by decide))).1 rfl (Nat.mod_lt _ (by decide)) (hW ((t + 3) % 4) (Nat.mod_lt _ (by decide))).1 _ xl (by rw [hl0]; decide) _ cw (by rw [P.px]; decide) (by rw [P.px]; decide) (anS μ) (sy_x R) han
  refine go_yes (y := 1) kx km (z_C_mono cc (fun r μ' z => ⟨z.1, by rw [z.2]; exact eqX_rf _⟩)) (fun μ1 h1 qM => ?_)
  have eM : EqM μ (z_ui μ1 50 0 0) := eqM_tr qM (t0_EqM μ1 0)
  have P' := P.cg (eqX_rf _) eM
  have R' := R.cg (eqX_rf _) eM
  have o := ov_f (t := t) (c := c) (W := W) eM
  have ov := ov_go (hW.m (eB_SE (eB_M eM))) (a_H_ui h1.1.1 (bI_top _)) ht4 P'.tm (P'.cm.trans (if_neg (by omega)))
  obtain ⟨RO, QO, fO⟩ := ov_rq (W := W) R' P' (Or.inl rfl) (fun j hj => (eM 71 j (Or.inl ⟨by decide, by decide⟩)).1.trans (hsy j hj))
  rw [if_pos rfl] at QO
  refine z_C_mono (gm_pass2u d (by omega) μ1 (by rw [(qM 50 44 (Or.inr ⟨rfl, by decide, by decide⟩)).1, P.pm]; decide) (by rw [(qM 50 44 (Or.inr ⟨rfl, by decide, by decide⟩)).1, P.pm]; decide) (anS μ1) (sy_m μ1) ((anS_e qM).trans han) (ovF (z_ui μ1 50 0 0) t c W) ov (by rw [o 50 47 (Or.inr ⟨rfl, by decide, by decide⟩) (by decide) (by decide) (Or.inr ⟨by decide, by decide⟩), o 50 46 (Or.inr ⟨rfl, by decide, by decide⟩) (by decide) (by decide) (Or.inr ⟨by decide, by decide⟩), hlf]; decide) (fun μ' => ∃ V, SMj (ovF (z_ui μ1 50 0 0) t c W) V ∧ SMj (eMB (nM1101 V) (nbS true true false true dl) true dl e) μ') (fun V hV hAV d hd => ?_)) (fun r μ' z => ⟨z.1, ?_⟩)
  · have S1 : SE μ V := fun r k g => (hV r k (by omega)).1.trans ((ovF_o (by omega) (by omega) (Or.inl (by omega))).trans (eM r k (Or.inl ⟨by omega, by omega⟩)).1)
    exact z_C_mono (gm_nobody1101 d (by omega) V hAV dl e ((hV 50 40 (by decide)).1.trans ((o 50 40 (Or.inr ⟨rfl, by decide, by decide⟩) (by decide) (by decide) (Or.inr ⟨by decide, by decide⟩)).trans hdl)) hdl4 he (W 0) (fun M hM => (hW 0 (by decide)).2.1 M (fun r k g => (hM r k g).trans (S1 r k g))) hb0 (W 1) (fun M hM => (hW 1 (by decide)).2.1 M (fun r k g => (hM r k g).trans (S1 r k g))) hb1 (W 2) (fun M hM => (hW 2 (by decide)).2.1 M (fun r k g => (hM r k g).trans (S1 r k g))) hb2 (W 3) (fun M hM => (hW 3 (by decide)).2.1 M (fun r k g => (hM r k g).trans (S1 r k g))) hb3) (fun r μ' z => ⟨z.1, V, hV, z.2⟩)
  · obtain ⟨V, hV, z3⟩ := z.2
    refine RG.cg (eqX_rf _) (sm_EqM z3) ?_
    have RV := RO.cg (eqX_rf _) (sm_EqM hV)
    exact rg_nob1101 RV (fO.trans (sm_EqM hV 50 47 (Or.inr ⟨rfl, by decide, by decide⟩)).1.symm) (show (lT μ t _ _ _ _ _ _).1 0 8 = V.1 50 45 from by rw [lT_0 (by decide), P.tx, (sm_EqM hV 50 45 (Or.inr ⟨rfl, by decide, by decide⟩)).1, o 50 45 (Or.inr ⟨rfl, by decide, by decide⟩) (by decide) (by decide) (Or.inr ⟨by decide, by decide⟩), P.tm]) ((sm_EqM hV 50 40 (Or.inr ⟨rfl, by decide, by decide⟩)).1.trans ((o 50 40 (Or.inr ⟨rfl, by decide, by decide⟩) (by decide) (by decide) (Or.inr ⟨by decide, by decide⟩)).trans hdl)) hdl4 he _
theorem lg_pu1110 {d : Nat} (hd : 705 ≤ d) {μ : zM} (hJ : LJ μ) (hR : RG μ μ) {t c dl e : Nat} (P : RPh μ μ 2 t c) (han : anS μ = false) (hlf : 122 - μ.1 50 47 - μ.1 50 46 = 0) (hdl : μ.1 50 40 = nI dl) (hdl4 : dl < 4) (he : (dl + 1) % 4 = e) {W : Nat → Int64} (hW : WW μ μ c W) (hb0 : decide (lg_cmp (W 0) 0 = 0) = false) (hb1 : decide (lg_cmp (W 1) 0 = 0) = false) (hb2 : decide (lg_cmp (W 2) 0 = 0) = false) (hb3 : decide (lg_cmp (W 3) 0 = 0) = true) (kx : z_C d mi_X6_pass [.ref 0] μ (fun _ μ' => LJ μ' ∧ EqM μ μ')) (km : ∀ μ1, LJ μ1 → z_C d mi_X7_pass [.ref 50] μ1 (fun _ μ' => LJ μ' ∧ EqX μ1 μ')) : GO d mi_X6_pass mi_X7_pass [.ref 0] [.ref 50] μ := by
  have hA := hJ.1.1
  have R := hR.1
  have ht4 := P.t4
  have hp0 : ¬ μ.1 50 44 = 0 := by rw [P.pm]; decide
  have G := hJ.1.2.2 hp0
  have hc : c < 34 := by
    rcases P.c3 with q | ⟨_, q⟩
    · exact q
    · exact absurd q (by decide)
  have cx : μ.1 0 15 = nI c := P.cx.trans (if_neg (by omega))
  have cm : μ.1 50 49 = nI c := P.cm.trans (if_neg (by omega))
  have hsy := an_z han
  obtain ⟨f, hf4, hf47⟩ := i_nat (v := μ.1 50 47) (n := 4) (hA 50 47).1 (hA 50 47).2 (by decide)
  obtain ⟨n, hn4, hn46⟩ := i_nat (v := μ.1 50 46) (n := 122) (hA 50 46).1 (hA 50 46).2 (by decide)
  have hfn : f + n ≤ 122 := by
    have y := G.2.1
    rw [hf47, hn46, nI_toInt (by omega), nI_toInt (by omega)] at y
    omega
  have e48 : μ.1 50 48 = nI f := G.2.2.1.trans hf47
  have xl : xLf μ = nI (122 - f - n) := by rw [left_x R P rfl rfl rfl, hf47, hn46, left_n hfn]
  have TT : ∀ {μ1 : zM}, TE (lTf μ t c W) μ1 → TE μ μ1 := fun h => TE_tr (TE_lT ht4 (Nat.mod_lt _ (by decide)) (Nat.mod_lt _ (by decide)) (Nat.mod_lt _ (by decide))) h
  have z0 : (122 : Int32) - μ.1 50 47 - μ.1 50 46 = nI 0 := hlf
  have hl0 : 122 - f - n = 0 := by
    rw [hf47, hn46, left_n hfn] at z0
    exact (nI_eq (by omega) (by decide)).mp z0
  have cw := fun (d : Nat) (hd : 10 ≤ d) => gc_endUnwon1110 d (by omega) (lTf μ t c W) dl e (show (lT μ t _ _ _ _ _ _).1 0 9 = nI dl from (lT_0 (by decide)).trans (R.dl.trans hdl)) hdl4 he (W 0) (fun μ1 h1 => (hW 0 (by decide)).2.2.1 μ1 (TT h1)) (W 1) (fun μ1 h1 => (hW 1 (by decide)).2.2.1 μ1 (TT h1)) (W 2) (fun μ1 h1 => (hW 2 (by decide)).2.2.1 μ1 (TT h1)) (W 3) (fun μ1 h1 => (hW 3 (by decide)).2.2.1 μ1 (TT h1)) (W dl) (fun μ1 h1 => (hW dl hdl4).2.2.1 μ1 (TT h1)) hb0 hb1 hb2 hb3
  rw [nbS_dl (b0 := true) (b1 := true) (b2 := true) (b3 := false) hb0 hb1 hb2 hb3 hdl4] at cw
  have cc := gc_pass2u d (by omega) μ t c ((t + 1) % 4) ((t + 2) % 4) ((t + 3) % 4) _ _ _ ht4 P.tx hc cx rfl (Nat.mod_lt _ (by decide)) (hW ((t + 1) % 4) (Nat.mod_lt _ (by decide))).1 rfl (Nat.mod_lt _ (by decide)) (hW ((t + 2) % 4) (Nat.mod_lt _ (by decide))).1 rfl (Nat.mod_lt _ (by decide)) (hW ((t + 3) % 4) (Nat.mod_lt _ (by decide))).1 _ xl (by rw [hl0]; decide) _ cw (by rw [P.px]; decide) (by rw [P.px]; decide) (anS μ) (sy_x R) han
  refine go_yes (y := 1) kx km (z_C_mono cc (fun r μ' z => ⟨z.1, by rw [z.2]; exact eqX_rf _⟩)) (fun μ1 h1 qM => ?_)
  have eM : EqM μ (z_ui μ1 50 0 0) := eqM_tr qM (t0_EqM μ1 0)
  have P' := P.cg (eqX_rf _) eM
  have R' := R.cg (eqX_rf _) eM
  have o := ov_f (t := t) (c := c) (W := W) eM
  have ov := ov_go (hW.m (eB_SE (eB_M eM))) (a_H_ui h1.1.1 (bI_top _)) ht4 P'.tm (P'.cm.trans (if_neg (by omega)))
  obtain ⟨RO, QO, fO⟩ := ov_rq (W := W) R' P' (Or.inl rfl) (fun j hj => (eM 71 j (Or.inl ⟨by decide, by decide⟩)).1.trans (hsy j hj))
  rw [if_pos rfl] at QO
  refine z_C_mono (gm_pass2u d (by omega) μ1 (by rw [(qM 50 44 (Or.inr ⟨rfl, by decide, by decide⟩)).1, P.pm]; decide) (by rw [(qM 50 44 (Or.inr ⟨rfl, by decide, by decide⟩)).1, P.pm]; decide) (anS μ1) (sy_m μ1) ((anS_e qM).trans han) (ovF (z_ui μ1 50 0 0) t c W) ov (by rw [o 50 47 (Or.inr ⟨rfl, by decide, by decide⟩) (by decide) (by decide) (Or.inr ⟨by decide, by decide⟩), o 50 46 (Or.inr ⟨rfl, by decide, by decide⟩) (by decide) (by decide) (Or.inr ⟨by decide, by decide⟩), hlf]; decide) (fun μ' => ∃ V, SMj (ovF (z_ui μ1 50 0 0) t c W) V ∧ SMj (eMB (nM1110 V) (nbS true true true false dl) true dl e) μ') (fun V hV hAV d hd => ?_)) (fun r μ' z => ⟨z.1, ?_⟩)
  · have S1 : SE μ V := fun r k g => (hV r k (by omega)).1.trans ((ovF_o (by omega) (by omega) (Or.inl (by omega))).trans (eM r k (Or.inl ⟨by omega, by omega⟩)).1)
    exact z_C_mono (gm_nobody1110 d (by omega) V hAV dl e ((hV 50 40 (by decide)).1.trans ((o 50 40 (Or.inr ⟨rfl, by decide, by decide⟩) (by decide) (by decide) (Or.inr ⟨by decide, by decide⟩)).trans hdl)) hdl4 he (W 0) (fun M hM => (hW 0 (by decide)).2.1 M (fun r k g => (hM r k g).trans (S1 r k g))) hb0 (W 1) (fun M hM => (hW 1 (by decide)).2.1 M (fun r k g => (hM r k g).trans (S1 r k g))) hb1 (W 2) (fun M hM => (hW 2 (by decide)).2.1 M (fun r k g => (hM r k g).trans (S1 r k g))) hb2 (W 3) (fun M hM => (hW 3 (by decide)).2.1 M (fun r k g => (hM r k g).trans (S1 r k g))) hb3) (fun r μ' z => ⟨z.1, V, hV, z.2⟩)
  · obtain ⟨V, hV, z3⟩ := z.2
    refine RG.cg (eqX_rf _) (sm_EqM z3) ?_
    have RV := RO.cg (eqX_rf _) (sm_EqM hV)
    exact rg_nob1110 RV (fO.trans (sm_EqM hV 50 47 (Or.inr ⟨rfl, by decide, by decide⟩)).1.symm) (show (lT μ t _ _ _ _ _ _).1 0 8 = V.1 50 45 from by rw [lT_0 (by decide), P.tx, (sm_EqM hV 50 45 (Or.inr ⟨rfl, by decide, by decide⟩)).1, o 50 45 (Or.inr ⟨rfl, by decide, by decide⟩) (by decide) (by decide) (Or.inr ⟨by decide, by decide⟩), P.tm]) ((sm_EqM hV 50 40 (Or.inr ⟨rfl, by decide, by decide⟩)).1.trans ((o 50 40 (Or.inr ⟨rfl, by decide, by decide⟩) (by decide) (by decide) (Or.inr ⟨by decide, by decide⟩)).trans hdl)) hdl4 he _
theorem lg_pu1111 {d : Nat} (hd : 705 ≤ d) {μ : zM} (hJ : LJ μ) (hR : RG μ μ) {t c dl e : Nat} (P : RPh μ μ 2 t c) (han : anS μ = false) (hlf : 122 - μ.1 50 47 - μ.1 50 46 = 0) (hdl : μ.1 50 40 = nI dl) (hdl4 : dl < 4) (he : (dl + 1) % 4 = e) {W : Nat → Int64} (hW : WW μ μ c W) (hb0 : decide (lg_cmp (W 0) 0 = 0) = false) (hb1 : decide (lg_cmp (W 1) 0 = 0) = false) (hb2 : decide (lg_cmp (W 2) 0 = 0) = false) (hb3 : decide (lg_cmp (W 3) 0 = 0) = false) (kx : z_C d mi_X6_pass [.ref 0] μ (fun _ μ' => LJ μ' ∧ EqM μ μ')) (km : ∀ μ1, LJ μ1 → z_C d mi_X7_pass [.ref 50] μ1 (fun _ μ' => LJ μ' ∧ EqX μ1 μ')) : GO d mi_X6_pass mi_X7_pass [.ref 0] [.ref 50] μ := by
  have hA := hJ.1.1
  have R := hR.1
  have ht4 := P.t4
  have hp0 : ¬ μ.1 50 44 = 0 := by rw [P.pm]; decide
  have G := hJ.1.2.2 hp0
  have hc : c < 34 := by
    rcases P.c3 with q | ⟨_, q⟩
    · exact q
    · exact absurd q (by decide)
  have cx : μ.1 0 15 = nI c := P.cx.trans (if_neg (by omega))
  have cm : μ.1 50 49 = nI c := P.cm.trans (if_neg (by omega))
  have hsy := an_z han
  obtain ⟨f, hf4, hf47⟩ := i_nat (v := μ.1 50 47) (n := 4) (hA 50 47).1 (hA 50 47).2 (by decide)
  obtain ⟨n, hn4, hn46⟩ := i_nat (v := μ.1 50 46) (n := 122) (hA 50 46).1 (hA 50 46).2 (by decide)
  have hfn : f + n ≤ 122 := by
    have y := G.2.1
    rw [hf47, hn46, nI_toInt (by omega), nI_toInt (by omega)] at y
    omega
  have e48 : μ.1 50 48 = nI f := G.2.2.1.trans hf47
  have xl : xLf μ = nI (122 - f - n) := by rw [left_x R P rfl rfl rfl, hf47, hn46, left_n hfn]
  have TT : ∀ {μ1 : zM}, TE (lTf μ t c W) μ1 → TE μ μ1 := fun h => TE_tr (TE_lT ht4 (Nat.mod_lt _ (by decide)) (Nat.mod_lt _ (by decide)) (Nat.mod_lt _ (by decide))) h
  have z0 : (122 : Int32) - μ.1 50 47 - μ.1 50 46 = nI 0 := hlf
  have hl0 : 122 - f - n = 0 := by
    rw [hf47, hn46, left_n hfn] at z0
    exact (nI_eq (by omega) (by decide)).mp z0
  have cw := fun (d : Nat) (hd : 10 ≤ d) => gc_endUnwon1111 d (by omega) (lTf μ t c W) dl e (show (lT μ t _ _ _ _ _ _).1 0 9 = nI dl from (lT_0 (by decide)).trans (R.dl.trans hdl)) hdl4 he (W 0) (fun μ1 h1 => (hW 0 (by decide)).2.2.1 μ1 (TT h1)) (W 1) (fun μ1 h1 => (hW 1 (by decide)).2.2.1 μ1 (TT h1)) (W 2) (fun μ1 h1 => (hW 2 (by decide)).2.2.1 μ1 (TT h1)) (W 3) (fun μ1 h1 => (hW 3 (by decide)).2.2.1 μ1 (TT h1)) (W dl) (fun μ1 h1 => (hW dl hdl4).2.2.1 μ1 (TT h1)) hb0 hb1 hb2 hb3
  rw [nbS_dl (b0 := true) (b1 := true) (b2 := true) (b3 := true) hb0 hb1 hb2 hb3 hdl4] at cw
  have cc := gc_pass2u d (by omega) μ t c ((t + 1) % 4) ((t + 2) % 4) ((t + 3) % 4) _ _ _ ht4 P.tx hc cx rfl (Nat.mod_lt _ (by decide)) (hW ((t + 1) % 4) (Nat.mod_lt _ (by decide))).1 rfl (Nat.mod_lt _ (by decide)) (hW ((t + 2) % 4) (Nat.mod_lt _ (by decide))).1 rfl (Nat.mod_lt _ (by decide)) (hW ((t + 3) % 4) (Nat.mod_lt _ (by decide))).1 _ xl (by rw [hl0]; decide) _ cw (by rw [P.px]; decide) (by rw [P.px]; decide) (anS μ) (sy_x R) han
  refine go_yes (y := 1) kx km (z_C_mono cc (fun r μ' z => ⟨z.1, by rw [z.2]; exact eqX_rf _⟩)) (fun μ1 h1 qM => ?_)
  have eM : EqM μ (z_ui μ1 50 0 0) := eqM_tr qM (t0_EqM μ1 0)
  have P' := P.cg (eqX_rf _) eM
  have R' := R.cg (eqX_rf _) eM
  have o := ov_f (t := t) (c := c) (W := W) eM
  have ov := ov_go (hW.m (eB_SE (eB_M eM))) (a_H_ui h1.1.1 (bI_top _)) ht4 P'.tm (P'.cm.trans (if_neg (by omega)))
  obtain ⟨RO, QO, fO⟩ := ov_rq (W := W) R' P' (Or.inl rfl) (fun j hj => (eM 71 j (Or.inl ⟨by decide, by decide⟩)).1.trans (hsy j hj))
  rw [if_pos rfl] at QO
  refine z_C_mono (gm_pass2u d (by omega) μ1 (by rw [(qM 50 44 (Or.inr ⟨rfl, by decide, by decide⟩)).1, P.pm]; decide) (by rw [(qM 50 44 (Or.inr ⟨rfl, by decide, by decide⟩)).1, P.pm]; decide) (anS μ1) (sy_m μ1) ((anS_e qM).trans han) (ovF (z_ui μ1 50 0 0) t c W) ov (by rw [o 50 47 (Or.inr ⟨rfl, by decide, by decide⟩) (by decide) (by decide) (Or.inr ⟨by decide, by decide⟩), o 50 46 (Or.inr ⟨rfl, by decide, by decide⟩) (by decide) (by decide) (Or.inr ⟨by decide, by decide⟩), hlf]; decide) (fun μ' => ∃ V, SMj (ovF (z_ui μ1 50 0 0) t c W) V ∧ SMj (eMB (nM1111 V) (nbS true true true true dl) true dl e) μ') (fun V hV hAV d hd => ?_)) (fun r μ' z => ⟨z.1, ?_⟩)
  · have S1 : SE μ V := fun r k g => (hV r k (by omega)).1.trans ((ovF_o (by omega) (by omega) (Or.inl (by omega))).trans (eM r k (Or.inl ⟨by omega, by omega⟩)).1)
    exact z_C_mono (gm_nobody1111 d (by omega) V hAV dl e ((hV 50 40 (by decide)).1.trans ((o 50 40 (Or.inr ⟨rfl, by decide, by decide⟩) (by decide) (by decide) (Or.inr ⟨by decide, by decide⟩)).trans hdl)) hdl4 he (W 0) (fun M hM => (hW 0 (by decide)).2.1 M (fun r k g => (hM r k g).trans (S1 r k g))) hb0 (W 1) (fun M hM => (hW 1 (by decide)).2.1 M (fun r k g => (hM r k g).trans (S1 r k g))) hb1 (W 2) (fun M hM => (hW 2 (by decide)).2.1 M (fun r k g => (hM r k g).trans (S1 r k g))) hb2 (W 3) (fun M hM => (hW 3 (by decide)).2.1 M (fun r k g => (hM r k g).trans (S1 r k g))) hb3) (fun r μ' z => ⟨z.1, V, hV, z.2⟩)
  · obtain ⟨V, hV, z3⟩ := z.2
    refine RG.cg (eqX_rf _) (sm_EqM z3) ?_
    have RV := RO.cg (eqX_rf _) (sm_EqM hV)
    exact rg_nob1111 RV (fO.trans (sm_EqM hV 50 47 (Or.inr ⟨rfl, by decide, by decide⟩)).1.symm) (show (lT μ t _ _ _ _ _ _).1 0 8 = V.1 50 45 from by rw [lT_0 (by decide), P.tx, (sm_EqM hV 50 45 (Or.inr ⟨rfl, by decide, by decide⟩)).1, o 50 45 (Or.inr ⟨rfl, by decide, by decide⟩) (by decide) (by decide) (Or.inr ⟨by decide, by decide⟩), P.tm]) ((sm_EqM hV 50 40 (Or.inr ⟨rfl, by decide, by decide⟩)).1.trans ((o 50 40 (Or.inr ⟨rfl, by decide, by decide⟩) (by decide) (by decide) (Or.inr ⟨by decide, by decide⟩)).trans hdl)) hdl4 he _
theorem an_t {μ : zM} {t : Nat} (ht : t < 4) (h0 : μ.1 71 t = 0) (h1 : decide (μ.1 71 ((t + 1) % 4) = 0) = true) (h2 : decide (μ.1 71 ((t + 2) % 4) = 0) = true) (h3 : decide (μ.1 71 ((t + 3) % 4) = 0) = true) : anS μ = false := by
  have h0 : decide (μ.1 71 t = 0) = true := decide_eq_true h0
  unfold anS
  obtain rfl | rfl | rfl | rfl := t_four ht
  · have h1 : decide (μ.1 71 1 = 0) = true := h1
    have h2 : decide (μ.1 71 2 = 0) = true := h2
    have h3 : decide (μ.1 71 3 = 0) = true := h3
    rw [h0, h1, h2, h3]; rfl
  · have h1 : decide (μ.1 71 2 = 0) = true := h1
    have h2 : decide (μ.1 71 3 = 0) = true := h2
    have h3 : decide (μ.1 71 0 = 0) = true := h3
    rw [h0, h1, h2, h3]; rfl
  · have h1 : decide (μ.1 71 3 = 0) = true := h1
    have h2 : decide (μ.1 71 0 = 0) = true := h2
    have h3 : decide (μ.1 71 1 = 0) = true := h3
    rw [h0, h1, h2, h3]; rfl
  · have h1 : decide (μ.1 71 0 = 0) = true := h1
    have h2 : decide (μ.1 71 1 = 0) = true := h2
    have h3 : decide (μ.1 71 2 = 0) = true := h3
    rw [h0, h1, h2, h3]; rfl
theorem lg_pass {d : Nat} (hd : 705 ≤ d) {μ : zM} (h : LGm μ) : GO d mi_X6_pass mi_X7_pass [.ref 0] [.ref 50] μ := by
  obtain ⟨hJ, hR⟩ := h
  have kx : z_C d mi_X6_pass [.ref 0] μ (fun _ μ' => LJ μ' ∧ EqM μ μ') := lg_k (i := 60) (K := ak_60) rfl (by omega) (by decide +kernel) (by decide +kernel) rfl (by decide +kernel) [.ref 0] μ hJ ⟨⟨0, by decide, rfl⟩, trivial⟩
  have km : ∀ μ1, LJ μ1 → z_C d mi_X7_pass [.ref 50] μ1 (fun _ μ' => LJ μ' ∧ EqX μ1 μ') := fun μ1 h => lg_g h (fc_X7_pass d (by omega) μ1 h.1)
  have hA := hJ.1.1
  rcases hR.2 with ⟨p1, p2, -, -, -⟩ | ⟨p, t, c, P⟩
  · exact go_no hR kx km (gx_pass d (by omega) μ (by rw [p1]; decide) (by rw [p1]; decide)) (mr_pass d (by omega) μ (by rw [p2]; decide))
  by_cases hp : p = 1
  · exact go_no hR kx km (gx_pass d (by omega) μ (by rw [P.px, hp]; decide) (by rw [P.px, hp]; decide)) (mr_pass d (by omega) μ (by rw [P.pm, hp]; decide))
  have ht4 := P.t4
  have R := hR.1
  have hc : c < 34 := by
    rcases P.c3 with q | ⟨_, q⟩
    · exact q
    · exact absurd q hp
  obtain ⟨dl, hdl4, hdl⟩ := dealer_nI hA
  cases hS : anS μ with
  | true =>
      cases s1 : decide (μ.1 71 ((t + 1) % 4) = 0) with
      | true =>
        cases s2 : decide (μ.1 71 ((t + 2) % 4) = 0) with
        | true =>
          cases s3 : decide (μ.1 71 ((t + 3) % 4) = 0) with
          | true =>
            exact absurd (an_t ht4 P.s0 s1 s2 s3) (by rw [hS]; decide)
          | false =>
            exact lg_pw001 hd hJ hR P hp hc rfl rfl rfl hdl hdl4 rfl hS s1 s2 s3 kx km
        | false =>
          cases s3 : decide (μ.1 71 ((t + 3) % 4) = 0) with
          | true =>
            exact lg_pw010 hd hJ hR P hp hc rfl rfl rfl hdl hdl4 rfl hS s1 s2 s3 kx km
          | false =>
            exact lg_pw011 hd hJ hR P hp hc rfl rfl rfl hdl hdl4 rfl hS s1 s2 s3 kx km
      | false =>
        cases s2 : decide (μ.1 71 ((t + 2) % 4) = 0) with
        | true =>
          cases s3 : decide (μ.1 71 ((t + 3) % 4) = 0) with
          | true =>
            exact lg_pw100 hd hJ hR P hp hc rfl rfl rfl hdl hdl4 rfl hS s1 s2 s3 kx km
          | false =>
            exact lg_pw101 hd hJ hR P hp hc rfl rfl rfl hdl hdl4 rfl hS s1 s2 s3 kx km
        | false =>
          cases s3 : decide (μ.1 71 ((t + 3) % 4) = 0) with
          | true =>
            exact lg_pw110 hd hJ hR P hp hc rfl rfl rfl hdl hdl4 rfl hS s1 s2 s3 kx km
          | false =>
            exact lg_pw111 hd hJ hR P hp hc rfl rfl rfl hdl hdl4 rfl hS s1 s2 s3 kx km
  | false =>
    rcases P.p3 with q | q | q
    · exact absurd q hp
    · subst q
      by_cases hlf : 122 - μ.1 50 47 - μ.1 50 46 = 0
      · obtain ⟨W, hW⟩ := ww_of R P hA (hJ.1.2.2 (by rw [P.pm]; decide)) hc
        cases b0 : decide (lg_cmp (W 0) 0 = 0) with
        | true =>
          cases b1 : decide (lg_cmp (W 1) 0 = 0) with
          | true =>
            cases b2 : decide (lg_cmp (W 2) 0 = 0) with
            | true =>
              cases b3 : decide (lg_cmp (W 3) 0 = 0) with
              | true =>
                exact lg_pu0000 hd hJ hR P hS hlf hdl hdl4 rfl hW b0 b1 b2 b3 kx km
              | false =>
                exact lg_pu0001 hd hJ hR P hS hlf hdl hdl4 rfl hW b0 b1 b2 b3 kx km
            | false =>
              cases b3 : decide (lg_cmp (W 3) 0 = 0) with
              | true =>
                exact lg_pu0010 hd hJ hR P hS hlf hdl hdl4 rfl hW b0 b1 b2 b3 kx km
              | false =>
                exact lg_pu0011 hd hJ hR P hS hlf hdl hdl4 rfl hW b0 b1 b2 b3 kx km
          | false =>
            cases b2 : decide (lg_cmp (W 2) 0 = 0) with
            | true =>
              cases b3 : decide (lg_cmp (W 3) 0 = 0) with
              | true =>
                exact lg_pu0100 hd hJ hR P hS hlf hdl hdl4 rfl hW b0 b1 b2 b3 kx km
              | false =>
                exact lg_pu0101 hd hJ hR P hS hlf hdl hdl4 rfl hW b0 b1 b2 b3 kx km
            | false =>
              cases b3 : decide (lg_cmp (W 3) 0 = 0) with
              | true =>
                exact lg_pu0110 hd hJ hR P hS hlf hdl hdl4 rfl hW b0 b1 b2 b3 kx km
              | false =>
                exact lg_pu0111 hd hJ hR P hS hlf hdl hdl4 rfl hW b0 b1 b2 b3 kx km
        | false =>
          cases b1 : decide (lg_cmp (W 1) 0 = 0) with
          | true =>
            cases b2 : decide (lg_cmp (W 2) 0 = 0) with
            | true =>
              cases b3 : decide (lg_cmp (W 3) 0 = 0) with
              | true =>
                exact lg_pu1000 hd hJ hR P hS hlf hdl hdl4 rfl hW b0 b1 b2 b3 kx km
              | false =>
                exact lg_pu1001 hd hJ hR P hS hlf hdl hdl4 rfl hW b0 b1 b2 b3 kx km
            | false =>
              cases b3 : decide (lg_cmp (W 3) 0 = 0) with
              | true =>
                exact lg_pu1010 hd hJ hR P hS hlf hdl hdl4 rfl hW b0 b1 b2 b3 kx km
              | false =>
                exact lg_pu1011 hd hJ hR P hS hlf hdl hdl4 rfl hW b0 b1 b2 b3 kx km
          | false =>
            cases b2 : decide (lg_cmp (W 2) 0 = 0) with
            | true =>
              cases b3 : decide (lg_cmp (W 3) 0 = 0) with
              | true =>
                exact lg_pu1100 hd hJ hR P hS hlf hdl hdl4 rfl hW b0 b1 b2 b3 kx km
              | false =>
                exact lg_pu1101 hd hJ hR P hS hlf hdl hdl4 rfl hW b0 b1 b2 b3 kx km
            | false =>
              cases b3 : decide (lg_cmp (W 3) 0 = 0) with
              | true =>
                exact lg_pu1110 hd hJ hR P hS hlf hdl hdl4 rfl hW b0 b1 b2 b3 kx km
              | false =>
                exact lg_pu1111 hd hJ hR P hS hlf hdl hdl4 rfl hW b0 b1 b2 b3 kx km
      · exact lg_pass2d hd hJ hR P hS hlf kx km
    · subst q
      exact lg_pass3 hd hJ hR P hS kx km
/-! waits of the class leaves all alone -/
set_option maxRecDepth 8000
theorem gq_waits (d : Nat) (hd : 702 ≤ d) (μ : zM) (s : Nat) (hs4 : s < 4) (hwt : ∀ d, 701 ≤ d → z_C d mi_X3_waiting [.ref (19 + 8 * s)] μ (fun r μ' => μ' = μ ∧ ∃ x, r = some (.long x))) : z_C d mi_X6_waits [.ref 0, .int (nI s)] μ (fun r μ' => μ' = μ ∧ ∃ x, r = some (.long x)) := by
  refine z_C_in (by decide) (by omega) (fun d' Z ed hc hr => ?_)
  have hH : zH mi_X6_waits zt_X6_waits 79 6 2 := hh_X6_waits
  refine z_rcs hc hH 1 (pc' := 1) (lv' := [(0, .ref 0), (1, .int (nI s))]) (st' := [.int (nI s)]) (μ' := μ) (by rfl) ?_
  refine zq_call hc (z_cx_ok hH (by rfl)) (gc_isSeat d' (by omega) μ (nI s)) (by decide +kernel) (fun r9 μ9 hq => ?_)
  obtain ⟨hμ9, rfl⟩ := hq
  rw [hμ9]
  clear hμ9 μ9
  show Z 0 4 [(0, .ref 0), (1, .int (nI s))] [.int (nB (sI (nI s)))] μ
  refine zq_if hc hH (by rfl) (tg := 21) (by rfl) (fun h1 => ?_) (fun h1 => ?_)
  · have h1 : (sI (nI s)) = false := nB_z.mp (cm_eq9.mp h1)
    exact absurd (Eq.trans (Eq.symm (sI_n hs4)) h1) (by decide)
  · have h1 : (sI (nI s)) = true := nB_n.mp (cn_eq.mp h1)
    refine z_rcs hc hH 2 (pc' := 9) (lv' := [(0, .ref 0), (1, .int (nI s))]) (st' := [.int (nI s), .ref 0]) (μ' := μ) (by rfl) ?_
    refine zq_call hc (z_cx_ok hH (by rfl)) (gc_at4 d' (by omega) μ s hs4) (by decide +kernel) (fun r9 μ9 hq => ?_)
    obtain ⟨hμ9, rfl⟩ := hq
    rw [hμ9]
    clear hμ9 μ9
    show Z 0 12 [(0, .ref 0), (1, .int (nI s))] [.ref (18 + 8 * s)] μ
    refine zq_gfr hc hH (by rfl) (ci := 1) (f := 0) (q := 19 + 8 * s) (by rfl) (sj (P := fun i => okf 79 1 0 (18 + 8 * i)) hs4 (by decide +kernel)) (by rfl) (sj (P := fun i => Nat.beq (z_gr (18 + 8 * i) 0) (19 + 8 * i)) hs4 (by decide +kernel)) ?_
    refine zq_call hc (z_clv9 hH (by rfl) (by rfl) (by rfl) (by rfl) (sj (P := fun i => okr 79 2 (19 + 8 * i)) hs4 (by decide +kernel)) (by rfl) (by rfl)) (hwt d' (by omega)) (by decide +kernel) (fun r9 μ9 hq => ?_)
    obtain ⟨hμ9, V, rfl⟩ := hq
    rw [hμ9]
    clear hμ9 μ9
    show Z 0 18 [(0, .ref 0), (1, .int (nI s))] [.long V] μ
    refine z_rcs hc hH 1 (pc' := 22) (lv' := [(0, .ref 0), (1, .int (nI s))]) (st' := [.long V]) (μ' := μ) (by rfl) ?_
    exact hr 0 22 _ _ _ (some (.long V)) (by decide +kernel) (z_rx_ok hH (by rfl)) (⟨rfl, _, rfl⟩)
theorem gq_waitsS (d : Nat) (hd : 3 ≤ d) (μ : zM) (y : Int32) (hy : sI y = false) : z_C d mi_X6_waits [.ref 0, .int y] μ (fun r μ' => μ' = μ ∧ ∃ x, r = some (.long x)) := by
  refine z_C_in (by decide) (by omega) (fun d' Z ed hc hr => ?_)
  have hH : zH mi_X6_waits zt_X6_waits 79 6 2 := hh_X6_waits
  refine z_rcs hc hH 1 (pc' := 1) (lv' := [(0, .ref 0), (1, .int y)]) (st' := [.int y]) (μ' := μ) (by rfl) ?_
  refine zq_call hc (z_cx_ok hH (by rfl)) (gc_isSeat d' (by omega) μ y) (by decide +kernel) (fun r9 μ9 hq => ?_)
  obtain ⟨hμ9, rfl⟩ := hq
  rw [hμ9]
  clear hμ9 μ9
  show Z 0 4 [(0, .ref 0), (1, .int y)] [.int (nB (sI y))] μ
  refine zq_if hc hH (by rfl) (tg := 21) (by rfl) (fun h1 => ?_) (fun h1 => ?_)
  · have h1 : (sI y) = false := nB_z.mp (cm_eq9.mp h1)
    refine z_rcs hc hH 1 (pc' := 22) (lv' := [(0, .ref 0), (1, .int y)]) (st' := [.long 0]) (μ' := μ) (by rfl) ?_
    exact hr 0 22 _ _ _ (some (.long 0)) (by decide +kernel) (z_rx_ok hH (by rfl)) (⟨rfl, _, rfl⟩)
  · have h1 : (sI y) = true := nB_n.mp (cn_eq.mp h1)
    exact absurd (Eq.trans (Eq.symm (hy)) h1) (by decide)
/-! between calls: the desk, the questions -/
set_option maxRecDepth 8000
noncomputable def md_q (md : List (Nat × Nat)) : Bool := md.all (fun q => Nat.blt 3 q.1 && (Nat.blt q.1 18 || (Nat.blt 49 q.1 && (Nat.blt q.1 59 || Nat.blt 73 q.1))) && (!Nat.beq q.1 50 || (Nat.blt q.2 40 || (Nat.blt 59 q.2 && Nat.blt q.2 9999))))
theorem blt_f {a b : Nat} (h : Nat.blt a b = true) : a < b := Nat.blt_eq.mp h
theorem md_q_o {md : List (Nat × Nat)} (h : md_q md = true) {r k : Nat} (g : gXc r k ∨ gMc r k) : a_md md r k = false := by
  unfold a_md
  rw [List.any_eq_false]
  intro q hq hb
  have z := List.all_eq_true.mp h q hq
  obtain ⟨z1, z2⟩ := z_and z
  obtain ⟨z3, z4⟩ := z_and z1
  obtain ⟨b1, b2⟩ := z_and hb
  have e1 := z_beq b1
  have z3 := blt_f z3
  rw [Bool.or_eq_true] at z4 b2
  have z4 : q.1 < 18 ∨ (49 < q.1 ∧ (q.1 < 59 ∨ 73 < q.1)) := by
    rcases z4 with z | z
    · exact Or.inl (blt_f z)
    · obtain ⟨a, b⟩ := z_and z
      rw [Bool.or_eq_true] at b
      exact Or.inr ⟨blt_f a, b.imp blt_f blt_f⟩
  have b2 : q.2 = k ∨ q.2 = 9999 := b2.imp z_beq z_beq
  have z2 : q.1 ≠ 50 ∨ q.2 < 40 ∨ (59 < q.2 ∧ q.2 < 9999) := by
    rw [Bool.or_eq_true] at z2
    rcases z2 with z | z
    · exact Or.inl (fun e => by rw [e] at z; cases z)
    · rw [Bool.or_eq_true] at z
      rcases z with z | z
      · exact Or.inr (Or.inl (blt_f z))
      · obtain ⟨a, b⟩ := z_and z
        exact Or.inr (Or.inr ⟨blt_f a, blt_f b⟩)
  unfold gXc gMc at g
  omega
theorem LGm.to {μ μ2 : zM} (h : LGm μ) (hJ : LJ μ2) (ex : EqX μ μ2) (em : EqM μ μ2) : LGm μ2 := ⟨hJ, h.2.cg ex em⟩
theorem LGm.fz {md : List (Nat × Nat)} {μ μ2 : zM} (h : LGm μ) (hJ : LJ μ2) (hz : a_Fz md μ μ2) (hq : md_q md = true) : LGm μ2 := h.to hJ (fun r k g => hz.1 r k (md_q_o hq (Or.inl g))) (fun r k g => hz.1 r k (md_q_o hq (Or.inr g)))
theorem lq_k {d i : Nat} {K : aQ} (hk : (a_Ks.take 139)[i]? = some K) (hd : 695 ≤ d) (h1 : md_ok K.2.2.2.1 = true) (h2 : (md_rd K.2.2.2.1 && md_r3 K.2.2.2.1) = true) (h3 : K.2.2.1 = []) (hq : md_q K.2.2.2.1 = true) (As : List Value) (μ : zM) (h : LGm μ) (ha : aArg K.2.1 As) : z_C d K.1 As μ (fun r μ' => LGm μ' ∧ a_rok K.2.2.2.2 r) := z_C_mono (a_use hk hd As μ (aArg_pre ha h3) h.1.1.1) (fun r μ' q => ⟨h.fz (h.1.keep q.1 q.2.1 h1 h2) q.2.1 hq, q.2.2⟩)
theorem f9_EqX {μ μ1 : zM} (h : F9 μ μ1) : EqX μ μ1 := fun r k g => by
  unfold gXc at g
  exact ⟨h.1 r k (by omega) (by omega) (by omega) (by omega) (by omega), by rw [h.2]⟩
theorem f9_EqM {μ μ1 : zM} (h : F9 μ μ1) : EqM μ μ1 := fun r k g => by
  unfold gMc at g
  exact ⟨h.1 r k (by omega) (by omega) (by omega) (by omega) (by omega), by rw [h.2]⟩
theorem mf_EqX {μ μ1 : zM} (h : zMf μ μ1) : EqX μ μ1 := fun r k g => by
  unfold gXc at g
  exact ⟨h.1 r k (by omega) (by omega) (by omega) (by omega) (by omega) (by omega) (by omega) (by omega), by rw [h.2.2]⟩
theorem mf_EqM {μ μ1 : zM} (h : zMf μ μ1) : EqM μ μ1 := fun r k g => by
  unfold gMc at g
  exact ⟨h.1 r k (by omega) (by omega) (by omega) (by omega) (by omega) (by omega) (by omega) (by omega), by rw [h.2.2]⟩
theorem lgm_lay {d : Nat} (hd : 4 ≤ d) {μ μ1 : zM} {k n : Int32} {r1 : Option Value} (h : LGm μ) (hF : F9 μ μ1) (hx : (r1 = some (.int 1) ∧ z_layok μ k n ∧ μ1 = z_put μ k n) ∨ (r1 = some (.int 0) ∧ ¬ z_layok μ k n ∧ μ1 = μ)) : z_C d mi_X7_lay [.ref 50, .int k, .int n] μ1 (fun r2 μ2 => LGm μ2 ∧ ((r1 = some (.int 1) ∧ r2 = some (.int 1)) ∨ (r1 = some (.int 0) ∧ r2 = some (.int 0)))) := by
  obtain ⟨hg, q, hq, hs⟩ := id h.1
  exact z_C_mono (zC_and d (ljm_lay hd h.1 hF hx) (fc_X7_lay d hd μ1 k n q hq.1 ((hF.1 50 66 (by decide) (by decide) (by decide) (by decide) (by omega)).trans hq.2.1))) (fun r2 μ2 z => ⟨h.to z.1.1 (eqX_tr (f9_EqX hF) (mf_EqX z.2.1)) (eqM_tr (f9_EqM hF) (mf_EqM z.2.1)), z.1.2⟩)
theorem lgm_set {d : Nat} (hd : 4 ≤ d) {μ μ1 : zM} {s k : Int32} {q : Nat} {r1 : Option Value} (h : LGm μ) (hq : RD μ q) (hs : DS μ q) (hF : F9 μ μ1) (hx : (r1 = some (.int 1) ∧ z_setX μ s k ∧ zSX μ s k q μ1) ∨ (r1 = some (.int 0) ∧ ¬ z_setX μ s k ∧ μ1 = μ)) : z_C d mi_X7_set [.ref 50, .int s, .int k] μ1 (fun r2 μ2 => LGm μ2 ∧ ((r1 = some (.int 1) ∧ r2 = some (.int 1)) ∨ (r1 = some (.int 0) ∧ r2 = some (.int 0)))) := by
  have e66 : μ1.1 50 66 = μ.1 50 66 := hF.1 50 66 (by decide) (by decide) (by decide) (by decide) (by omega)
  have e74 : μ1.1 74 = μ.1 74 := funext fun i => hF.1 74 i (by decide) (by decide) (by decide) (by decide) (by omega)
  exact z_C_mono (zC_and d (ljm_set hd h.1.1 hq hs hF hx) (fc_X7_set d hd μ1 s k q hq.1 (e66.trans hq.2.1) (by rw [e74, e66]; exact hq.sm3))) (fun r2 μ2 z => ⟨h.to z.1.1 (eqX_tr (f9_EqX hF) (mf_EqX z.2.1)) (eqM_tr (f9_EqM hF) (mf_EqM z.2.1)), z.1.2⟩)
theorem lgm_clear {d : Nat} (hd : 1 ≤ d) {μ μ1 : zM} (h : LGm μ) (hF : F9 μ μ1) (hx : (∀ k, k < 34 → μ1.1 10 k = 0 ∧ μ1.1 11 k = 0) ∧ μ1.1 9 4 = 0 ∧ μ1.1 9 5 = 0) : z_C d mi_X7_clear [.ref 50] μ1 (fun r μ2 => r = none ∧ LGm μ2) := z_C_mono (zC_and d (ljm_clear hd h.1.1 hF hx) (fc_X7_clear d hd μ1)) (fun r μ2 z => ⟨z.1.1, h.to z.1.2 (eqX_tr (f9_EqX hF) (fun r k g => ⟨z.2.2.2.2.1 r k (by unfold gXc at g; omega) (by unfold gXc at g; omega), by rw [z.2.2.2.2.2]⟩)) (eqM_tr (f9_EqM hF) (fun r k g => ⟨z.2.2.2.2.1 r k (by unfold gMc at g; omega) (by unfold gMc at g; omega), by rw [z.2.2.2.2.2]⟩))⟩)
theorem lg_waits {d : Nat} (hd : 705 ≤ d) {μ : zM} (h : LGm μ) (y : Int32) : z_C d mi_X6_waits [.ref 0, .int y] μ (fun r μ' => μ' = μ ∧ ∃ x, r = some (.long x)) := by
  by_cases hy : vp_in y 4
  · obtain ⟨s, hs, rfl⟩ := vp_in_of hy (by decide)
    exact gq_waits d (by omega) μ s hs (fun d hd => z_C_mono (sM_pure hs μ (by decide) (sg9 hs rfl) (fc_X3_waiting d hd (sMm s μ) (a_H_sg hs h.1.1.1))) (fun r μ' z => ⟨z.1, by
      obtain ⟨x, e⟩ := z.2
      exact ⟨x, map_lng e⟩⟩))
  · exact gq_waitsS d (by omega) μ y (sI_no hy)
theorem LGm_uj {μ : zM} {y : Int64} (h : LGm μ) (hJ : LJ (z_uj μ 78 0 y)) : LGm (z_uj μ 78 0 y) := h.to hJ (fun r k g => ⟨rfl, uj_o (by unfold gXc at g; omega)⟩) (fun r k g => ⟨rfl, uj_o (by unfold gMc at g; omega)⟩)

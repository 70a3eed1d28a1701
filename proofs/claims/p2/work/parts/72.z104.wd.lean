/-! pass answers alike: who said so wins -/
set_option maxRecDepth 8000
theorem sy_x {μ : zM} (R : RCl μ μ) : ∀ d, 2 ≤ d → z_C d mi_X6_someoneSays [.ref 0] μ (zR μ (.int (nB (anS μ)))) := fun d hd => by
  rw [← any_eq R]; exact gc_someoneSays d hd μ
theorem sy_m (μ : zM) : ∀ d, 2 ≤ d → z_C d mi_X7_anySays [.ref 50] (z_ui μ 50 0 0) (zR (z_ui μ 50 0 0) (.int (nB (anS μ)))) := fun d hd => by
  have z := gm_anySays d (by omega) (z_ui μ 50 0 0)
  simp (disch := omega) only [ui_o, ui_k] at z
  exact z
theorem anS_e {m m' : zM} (h : EqM m m') : anS m' = anS m := by
  have e7 : ∀ k, m'.1 71 k = m.1 71 k := fun k => (h 71 k (Or.inl ⟨by decide, by decide⟩)).1
  unfold anS
  rw [e7 0, e7 1, e7 2, e7 3]
theorem pw_x {d : Nat} (hd : 12 ≤ d) {μ : zM} {p t c : Nat} (R : RCl μ μ) (P : RPh μ μ p t c) (hp : p ≠ 1) (han : anS μ = true) (W : zM → Prop) (cw : ∀ d, 11 ≤ d → z_C d mi_X6_winByTile [.ref 0] μ (fun r μ' => r = none ∧ W μ')) : z_C d mi_X6_pass [.ref 0] μ (fun r μ' => r = some (.int 1) ∧ W μ') := by
  rcases P.p3 with q | q | q
  · exact absurd q hp
  · exact gc_passW2 d (by omega) μ _ cw (by rw [P.px, q]; decide) (by rw [P.px, q]; decide) (anS μ) (sy_x R) han
  · exact gc_passW3 d (by omega) μ _ cw (by rw [P.px, q]; decide) (by rw [P.px, q]; decide) (anS μ) (sy_x R) han
/-- what the hand of a SEAT is worth with the tile of another: both sides -/
def SW (μ : zM) (c s : Nat) (BXs BMs : Q4 → Prop) : Prop := (∀ M, WE μ M → a_H M → ∀ d, 10 ≤ d → z_C d mi_X6_weighHand [.ref 0, .int (nI s), .int 0] M (fun r W => ∃ v, BXs v ∧ r = some (.int v.1) ∧ WOj M W ∧ bqJ W = v ∧ a_H W)) ∧ (∀ M, SVl μ M → a_H M → ∀ d, 699 ≤ d → z_C d mi_X7_value [.ref 50, .int (nI s), .int (nI c), .int 0] M (fun r W => r = none ∧ a_H W ∧ SMj M W ∧ BMs (bq W))) ∧ ∀ v b, BXs v → BMs b → v.1 = b.1 ∧ v.2.1 = b.2.1 ∧ v.2.2.2 = b.2.2.2
theorem bqJ_pS {M : zM} {s c : Nat} {n : Int32} : bqJ (pS M s c n) = bqJ M := by
  unfold bqJ pS
  simp (disch := omega) only [ui_o, ui_j]
theorem a_H_pS {M : zM} (h : a_H M) {s c : Nat} (hs : s < 4) {n : Int32} : a_H (pS M s c n) := by
  unfold pS
  obtain rfl | rfl | rfl | rfl := t_four hs
  all_goals exact a_H_ui (a_H_ui (a_H_ui h (bI_top _)) (bI_top _)) (bI_top _)
theorem sw_of {μ : zM} {p t c s : Nat} (R : RCl μ μ) (P : RPh μ μ p t c) (hA : a_H μ) (G : GP μ) (hp : p ≠ 1) (hs : s < 4) (hst : s ≠ t) (hc : c < 34) : ∃ BXs BMs, SW μ c s BXs BMs := by
  obtain ⟨w, aw, q, sL, lL, H⟩ := hf_of R P hA G hs
  have h3 := aw_3 R P hA hp hs hst H hc
  obtain ⟨dl, hdl4, hdl⟩ := dealer_nI hA
  obtain ⟨f, hf4, hf47⟩ := i_nat (v := μ.1 50 47) (n := 4) (hA 50 47).1 (hA 50 47).2 (by decide)
  obtain ⟨rd, hrd2, hrd⟩ : ∃ rd, rd < 2 ∧ μ.1 50 41 = nI rd := by
    rcases R.rd with e | e
    · exact ⟨0, by decide, e⟩
    · exact ⟨1, by decide, e⟩
  refine ⟨_, _, fun M hM hAM d hd => z_C_mono (wx0 R P hs H hA hc h3 hf4 hf47 hdl hrd M hM hAM d hd) (fun r W z => ?_), wm0 hs H hA hc hf4 hf47 hdl hrd, fun v b h1 h2 => wb0 R P hs H hA hc h3 hf4 hdl4 hrd2 h1 h2⟩
  obtain ⟨μj, ⟨j1, j2, j3, j4⟩, e1, e2⟩ := z
  exact ⟨bqJ μj, j4, e2, by rw [e1]; exact wo_pS j2, by rw [e1]; exact bqJ_pS, by rw [e1]; exact a_H_pS j3 hs⟩
theorem lg_pw001 {d : Nat} (hd : 705 ≤ d) {μ : zM} (hJ : LJ μ) (hR : RG μ μ) {p t c u1 u2 u3 dl e : Nat} (P : RPh μ μ p t c) (hp : p ≠ 1) (hc : c < 34) (hu1 : (t + 1) % 4 = u1) (hu2 : (t + 2) % 4 = u2) (hu3 : (t + 3) % 4 = u3) (hdl : μ.1 50 40 = nI dl) (hdl4 : dl < 4) (he : (dl + 1) % 4 = e) (han : anS μ = true) (hs1 : decide (μ.1 71 u1 = 0) = true) (hs2 : decide (μ.1 71 u2 = 0) = true) (hs3 : decide (μ.1 71 u3 = 0) = false) (kx : z_C d mi_X6_pass [.ref 0] μ (fun _ μ' => LJ μ' ∧ EqM μ μ')) (km : ∀ μ1, LJ μ1 → z_C d mi_X7_pass [.ref 50] μ1 (fun _ μ' => LJ μ' ∧ EqX μ1 μ')) : GO d mi_X6_pass mi_X7_pass [.ref 0] [.ref 50] μ := by
  have hA := hJ.1.1
  have R := hR.1
  have ht4 := P.t4
  have hp0 : ¬ μ.1 50 44 = 0 := by rw [P.pm]; rcases P.p3 with q | q | q <;> (rw [q]; decide)
  have G := hJ.1.2.2 hp0
  have cx : μ.1 0 15 = nI c := P.cx.trans (if_neg (by omega))
  have cm : μ.1 50 49 = nI c := P.cm.trans (if_neg (by omega))
  have h06 : μ.1 0 6 = nI 0 := R.wc.trans P.w0
  have hu14 : u1 < 4 := by omega
  have hu24 : u2 < 4 := by omega
  have hu34 : u3 < 4 := by omega
  obtain ⟨X3, M3, S3⟩ := sw_of (s := u3) R P hA G hp hu34 (by omega) hc
  have cw := fun (d : Nat) (hd : 11 ≤ d) => gc_winByTile001 d (by omega) μ t c u1 u2 u3 ht4 P.tx hu1 hu14 hu2 hu24 hu3 hu34 dl e (R.dl.trans hdl) hdl4 he h06 hA (by rw [R.sy u1 hu14]; exact hs1) (by rw [R.sy u2 hu24]; exact hs2) (by rw [R.sy u3 hu34]; exact hs3) X3 S3.1
  have cc := pw_x (d := d) (by omega) R P hp han _ cw
  refine z_C_mono (zC_and d kx cc) (fun r μ1 qq => ?_)
  obtain ⟨⟨q1, qM⟩, q2, v3, W3, b3, f3, o3, q3⟩ := qq
  have eM : EqM μ (z_ui μ1 50 0 0) := eqM_tr qM (t0_EqM μ1 0)
  have E : ∀ r k', gMc r k' → (z_ui μ1 50 0 0).1 r k' = μ.1 r k' := fun r k' g => (eM r k' g).1
  have hA1 : a_H (z_ui μ1 50 0 0) := a_H_ui q1.1.1 (bI_top _)
  refine go_in q1 km q2 (X := wA001 W3 t dl e u1 u2 u3 v3 μ) (by rw [q3]; exact eqX_rf _) ?_
  have mm := gm_passW d (by omega) μ1 (by
    rw [(qM 50 44 (Or.inr ⟨rfl, by decide, by decide⟩)).1, P.pm]
    rcases P.p3 with q | q | q
    · exact absurd q hp
    · rw [q]; decide
    · rw [q]; decide) (anS μ1) (sy_m μ1) ((anS_e qM).trans han) _ (fun d hd => gm_allWin001 d (by omega) (z_ui μ1 50 0 0) hA1 t c u1 u2 u3 dl e ht4 ((E 50 45 (Or.inr ⟨rfl, by decide, by decide⟩)).trans P.tm) hu1 hu14 hu2 hu24 hu3 hu34 ((E 50 40 (Or.inr ⟨rfl, by decide, by decide⟩)).trans hdl) hdl4 he hc ((E 50 49 (Or.inr ⟨rfl, by decide, by decide⟩)).trans cm) (by rw [E 71 u1 (Or.inl ⟨by decide, by decide⟩)]; exact hs1) (by rw [E 71 u2 (Or.inl ⟨by decide, by decide⟩)]; exact hs2) (by rw [E 71 u3 (Or.inl ⟨by decide, by decide⟩)]; exact hs3) M3 (fun M hM => S3.2.1 M (fun r k g => (hM r k g).trans (EqM_SVl eM r k g))))
  refine z_C_mono mm (fun r μ' z => ?_)
  obtain ⟨z1, N3, g3, z3⟩ := z
  refine ⟨z1, RG.cg (eqX_rf _) (sm_EqM z3) ?_⟩
  have P' := P.cg (eqX_rf _) eM
  have k3 := S3.2.2 _ _ b3 g3
  exact rg_aw001 (R.cg (eqX_rf _) eM) P'.fo (P'.tx.trans P'.tm.symm) ((E 50 40 (Or.inr ⟨rfl, by decide, by decide⟩)).trans hdl) hdl4 he ht4 hu1 hu2 hu3 cx o3 f3 k3.1 k3.2.1 k3.2.2
theorem lg_pw010 {d : Nat} (hd : 705 ≤ d) {μ : zM} (hJ : LJ μ) (hR : RG μ μ) {p t c u1 u2 u3 dl e : Nat} (P : RPh μ μ p t c) (hp : p ≠ 1) (hc : c < 34) (hu1 : (t + 1) % 4 = u1) (hu2 : (t + 2) % 4 = u2) (hu3 : (t + 3) % 4 = u3) (hdl : μ.1 50 40 = nI dl) (hdl4 : dl < 4) (he : (dl + 1) % 4 = e) (han : anS μ = true) (hs1 : decide (μ.1 71 u1 = 0) = true) (hs2 : decide (μ.1 71 u2 = 0) = false) (hs3 : decide (μ.1 71 u3 = 0) = true) (kx : z_C d mi_X6_pass [.ref 0] μ (fun _ μ' => LJ μ' ∧ EqM μ μ')) (km : ∀ μ1, LJ μ1 → z_C d mi_X7_pass [.ref 50] μ1 (fun _ μ' => LJ μ' ∧ EqX μ1 μ')) : GO d mi_X6_pass mi_X7_pass [.ref 0] [.ref 50] μ := by
  have hA := hJ.1.1
  have R := hR.1
  have ht4 := P.t4
  have hp0 : ¬ μ.1 50 44 = 0 := by rw [P.pm]; rcases P.p3 with q | q | q <;> (rw [q]; decide)
  have G := hJ.1.2.2 hp0
  have cx : μ.1 0 15 = nI c := P.cx.trans (if_neg (by omega))
  have cm : μ.1 50 49 = nI c := P.cm.trans (if_neg (by omega))
  have h06 : μ.1 0 6 = nI 0 := R.wc.trans P.w0
  have hu14 : u1 < 4 := by omega
  have hu24 : u2 < 4 := by omega
  have hu34 : u3 < 4 := by omega
  obtain ⟨X2, M2, S2⟩ := sw_of (s := u2) R P hA G hp hu24 (by omega) hc
  have cw := fun (d : Nat) (hd : 11 ≤ d) => gc_winByTile010 d (by omega) μ t c u1 u2 u3 ht4 P.tx hu1 hu14 hu2 hu24 hu3 hu34 dl e (R.dl.trans hdl) hdl4 he h06 hA (by rw [R.sy u1 hu14]; exact hs1) (by rw [R.sy u2 hu24]; exact hs2) (by rw [R.sy u3 hu34]; exact hs3) X2 S2.1
  have cc := pw_x (d := d) (by omega) R P hp han _ cw
  refine z_C_mono (zC_and d kx cc) (fun r μ1 qq => ?_)
  obtain ⟨⟨q1, qM⟩, q2, v2, W2, b2, f2, o2, q3⟩ := qq
  have eM : EqM μ (z_ui μ1 50 0 0) := eqM_tr qM (t0_EqM μ1 0)
  have E : ∀ r k', gMc r k' → (z_ui μ1 50 0 0).1 r k' = μ.1 r k' := fun r k' g => (eM r k' g).1
  have hA1 : a_H (z_ui μ1 50 0 0) := a_H_ui q1.1.1 (bI_top _)
  refine go_in q1 km q2 (X := wA010 W2 t dl e u1 u2 u3 v2 μ) (by rw [q3]; exact eqX_rf _) ?_
  have mm := gm_passW d (by omega) μ1 (by
    rw [(qM 50 44 (Or.inr ⟨rfl, by decide, by decide⟩)).1, P.pm]
    rcases P.p3 with q | q | q
    · exact absurd q hp
    · rw [q]; decide
    · rw [q]; decide) (anS μ1) (sy_m μ1) ((anS_e qM).trans han) _ (fun d hd => gm_allWin010 d (by omega) (z_ui μ1 50 0 0) hA1 t c u1 u2 u3 dl e ht4 ((E 50 45 (Or.inr ⟨rfl, by decide, by decide⟩)).trans P.tm) hu1 hu14 hu2 hu24 hu3 hu34 ((E 50 40 (Or.inr ⟨rfl, by decide, by decide⟩)).trans hdl) hdl4 he hc ((E 50 49 (Or.inr ⟨rfl, by decide, by decide⟩)).trans cm) (by rw [E 71 u1 (Or.inl ⟨by decide, by decide⟩)]; exact hs1) (by rw [E 71 u2 (Or.inl ⟨by decide, by decide⟩)]; exact hs2) (by rw [E 71 u3 (Or.inl ⟨by decide, by decide⟩)]; exact hs3) M2 (fun M hM => S2.2.1 M (fun r k g => (hM r k g).trans (EqM_SVl eM r k g))))
  refine z_C_mono mm (fun r μ' z => ?_)
  obtain ⟨z1, N2, g2, z3⟩ := z
  refine ⟨z1, RG.cg (eqX_rf _) (sm_EqM z3) ?_⟩
  have P' := P.cg (eqX_rf _) eM
  have k2 := S2.2.2 _ _ b2 g2
  exact rg_aw010 (R.cg (eqX_rf _) eM) P'.fo (P'.tx.trans P'.tm.symm) ((E 50 40 (Or.inr ⟨rfl, by decide, by decide⟩)).trans hdl) hdl4 he ht4 hu1 hu2 hu3 cx o2 f2 k2.1 k2.2.1 k2.2.2
theorem lg_pw011 {d : Nat} (hd : 705 ≤ d) {μ : zM} (hJ : LJ μ) (hR : RG μ μ) {p t c u1 u2 u3 dl e : Nat} (P : RPh μ μ p t c) (hp : p ≠ 1) (hc : c < 34) (hu1 : (t + 1) % 4 = u1) (hu2 : (t + 2) % 4 = u2) (hu3 : (t + 3) % 4 = u3) (hdl : μ.1 50 40 = nI dl) (hdl4 : dl < 4) (he : (dl + 1) % 4 = e) (han : anS μ = true) (hs1 : decide (μ.1 71 u1 = 0) = true) (hs2 : decide (μ.1 71 u2 = 0) = false) (hs3 : decide (μ.1 71 u3 = 0) = false) (kx : z_C d mi_X6_pass [.ref 0] μ (fun _ μ' => LJ μ' ∧ EqM μ μ')) (km : ∀ μ1, LJ μ1 → z_C d mi_X7_pass [.ref 50] μ1 (fun _ μ' => LJ μ' ∧ EqX μ1 μ')) : GO d mi_X6_pass mi_X7_pass [.ref 0] [.ref 50] μ := by
  have hA := hJ.1.1
  have R := hR.1
  have ht4 := P.t4
  have hp0 : ¬ μ.1 50 44 = 0 := by rw [P.pm]; rcases P.p3 with q | q | q <;> (rw [q]; decide)
  have G := hJ.1.2.2 hp0
  have cx : μ.1 0 15 = nI c := P.cx.trans (if_neg (by omega))
  have cm : μ.1 50 49 = nI c := P.cm.trans (if_neg (by omega))
  have h06 : μ.1 0 6 = nI 0 := R.wc.trans P.w0
  have hu14 : u1 < 4 := by omega
  have hu24 : u2 < 4 := by omega
  have hu34 : u3 < 4 := by omega
  obtain ⟨X2, M2, S2⟩ := sw_of (s := u2) R P hA G hp hu24 (by omega) hc
  obtain ⟨X3, M3, S3⟩ := sw_of (s := u3) R P hA G hp hu34 (by omega) hc
  have cw := fun (d : Nat) (hd : 11 ≤ d) => gc_winByTile011 d (by omega) μ t c u1 u2 u3 ht4 P.tx hu1 hu14 hu2 hu24 hu3 hu34 dl e (R.dl.trans hdl) hdl4 he h06 hA (by rw [R.sy u1 hu14]; exact hs1) (by rw [R.sy u2 hu24]; exact hs2) (by rw [R.sy u3 hu34]; exact hs3) X2 S2.1 X3 S3.1
  have cc := pw_x (d := d) (by omega) R P hp han _ cw
  refine z_C_mono (zC_and d kx cc) (fun r μ1 qq => ?_)
  obtain ⟨⟨q1, qM⟩, q2, v2, W2, v3, W3, b2, f2, o2, b3, f3, o3, q3⟩ := qq
  have eM : EqM μ (z_ui μ1 50 0 0) := eqM_tr qM (t0_EqM μ1 0)
  have E : ∀ r k', gMc r k' → (z_ui μ1 50 0 0).1 r k' = μ.1 r k' := fun r k' g => (eM r k' g).1
  have hA1 : a_H (z_ui μ1 50 0 0) := a_H_ui q1.1.1 (bI_top _)
  refine go_in q1 km q2 (X := wA011 W3 t dl e u1 u2 u3 v2 v3 μ) (by rw [q3]; exact eqX_rf _) ?_
  have mm := gm_passW d (by omega) μ1 (by
    rw [(qM 50 44 (Or.inr ⟨rfl, by decide, by decide⟩)).1, P.pm]
    rcases P.p3 with q | q | q
    · exact absurd q hp
    · rw [q]; decide
    · rw [q]; decide) (anS μ1) (sy_m μ1) ((anS_e qM).trans han) _ (fun d hd => gm_allWin011 d (by omega) (z_ui μ1 50 0 0) hA1 t c u1 u2 u3 dl e ht4 ((E 50 45 (Or.inr ⟨rfl, by decide, by decide⟩)).trans P.tm) hu1 hu14 hu2 hu24 hu3 hu34 ((E 50 40 (Or.inr ⟨rfl, by decide, by decide⟩)).trans hdl) hdl4 he hc ((E 50 49 (Or.inr ⟨rfl, by decide, by decide⟩)).trans cm) (by rw [E 71 u1 (Or.inl ⟨by decide, by decide⟩)]; exact hs1) (by rw [E 71 u2 (Or.inl ⟨by decide, by decide⟩)]; exact hs2) (by rw [E 71 u3 (Or.inl ⟨by decide, by decide⟩)]; exact hs3) M2 (fun M hM => S2.2.1 M (fun r k g => (hM r k g).trans (EqM_SVl eM r k g))) M3 (fun M hM => S3.2.1 M (fun r k g => (hM r k g).trans (EqM_SVl eM r k g))))
  refine z_C_mono mm (fun r μ' z => ?_)
  obtain ⟨z1, N2, N3, g2, g3, z3⟩ := z
  refine ⟨z1, RG.cg (eqX_rf _) (sm_EqM z3) ?_⟩
  have P' := P.cg (eqX_rf _) eM
  have k2 := S2.2.2 _ _ b2 g2
  have k3 := S3.2.2 _ _ b3 g3
  exact rg_aw011 (R.cg (eqX_rf _) eM) P'.fo (P'.tx.trans P'.tm.symm) ((E 50 40 (Or.inr ⟨rfl, by decide, by decide⟩)).trans hdl) hdl4 he ht4 hu1 hu2 hu3 cx o2 f2 k2.1 k2.2.1 k2.2.2 o3 f3 k3.1 k3.2.1 k3.2.2
theorem lg_pw100 {d : Nat} (hd : 705 ≤ d) {μ : zM} (hJ : LJ μ) (hR : RG μ μ) {p t c u1 u2 u3 dl e : Nat} (P : RPh μ μ p t c) (hp : p ≠ 1) (hc : c < 34) (hu1 : (t + 1) % 4 = u1) (hu2 : (t + 2) % 4 = u2) (hu3 : (t + 3) % 4 = u3) (hdl : μ.1 50 40 = nI dl) (hdl4 : dl < 4) (he : (dl + 1) % 4 = e) (han : anS μ = true) (hs1 : decide (μ.1 71 u1 = 0) = false) (hs2 : decide (μ.1 71 u2 = 0) = true) (hs3 : decide (μ.1 71 u3 = 0) = true) (kx : z_C d mi_X6_pass [.ref 0] μ (fun _ μ' => LJ μ' ∧ EqM μ μ')) (km : ∀ μ1, LJ μ1 → z_C d mi_X7_pass [.ref 50] μ1 (fun _ μ' => LJ μ' ∧ EqX μ1 μ')) : GO d mi_X6_pass mi_X7_pass [.ref 0] [.ref 50] μ := by
  have hA := hJ.1.1
  have R := hR.1
  have ht4 := P.t4
  have hp0 : ¬ μ.1 50 44 = 0 := by rw [P.pm]; rcases P.p3 with q | q | q <;> (rw [q]; decide)
  have G := hJ.1.2.2 hp0
  have cx : μ.1 0 15 = nI c := P.cx.trans (if_neg (by omega))
  have cm : μ.1 50 49 = nI c := P.cm.trans (if_neg (by omega))
  have h06 : μ.1 0 6 = nI 0 := R.wc.trans P.w0
  have hu14 : u1 < 4 := by omega
  have hu24 : u2 < 4 := by omega
  have hu34 : u3 < 4 := by omega
  obtain ⟨X1, M1, S1⟩ := sw_of (s := u1) R P hA G hp hu14 (by omega) hc
  have cw := fun (d : Nat) (hd : 11 ≤ d) => gc_winByTile100 d (by omega) μ t c u1 u2 u3 ht4 P.tx hu1 hu14 hu2 hu24 hu3 hu34 dl e (R.dl.trans hdl) hdl4 he h06 hA (by rw [R.sy u1 hu14]; exact hs1) (by rw [R.sy u2 hu24]; exact hs2) (by rw [R.sy u3 hu34]; exact hs3) X1 S1.1
  have cc := pw_x (d := d) (by omega) R P hp han _ cw
  refine z_C_mono (zC_and d kx cc) (fun r μ1 qq => ?_)
  obtain ⟨⟨q1, qM⟩, q2, v1, W1, b1, f1, o1, q3⟩ := qq
  have eM : EqM μ (z_ui μ1 50 0 0) := eqM_tr qM (t0_EqM μ1 0)
  have E : ∀ r k', gMc r k' → (z_ui μ1 50 0 0).1 r k' = μ.1 r k' := fun r k' g => (eM r k' g).1
  have hA1 : a_H (z_ui μ1 50 0 0) := a_H_ui q1.1.1 (bI_top _)
  refine go_in q1 km q2 (X := wA100 W1 t dl e u1 u2 u3 v1 μ) (by rw [q3]; exact eqX_rf _) ?_
  have mm := gm_passW d (by omega) μ1 (by
    rw [(qM 50 44 (Or.inr ⟨rfl, by decide, by decide⟩)).1, P.pm]
    rcases P.p3 with q | q | q
    · exact absurd q hp
    · rw [q]; decide
    · rw [q]; decide) (anS μ1) (sy_m μ1) ((anS_e qM).trans han) _ (fun d hd => gm_allWin100 d (by omega) (z_ui μ1 50 0 0) hA1 t c u1 u2 u3 dl e ht4 ((E 50 45 (Or.inr ⟨rfl, by decide, by decide⟩)).trans P.tm) hu1 hu14 hu2 hu24 hu3 hu34 ((E 50 40 (Or.inr ⟨rfl, by decide, by decide⟩)).trans hdl) hdl4 he hc ((E 50 49 (Or.inr ⟨rfl, by decide, by decide⟩)).trans cm) (by rw [E 71 u1 (Or.inl ⟨by decide, by decide⟩)]; exact hs1) (by rw [E 71 u2 (Or.inl ⟨by decide, by decide⟩)]; exact hs2) (by rw [E 71 u3 (Or.inl ⟨by decide, by decide⟩)]; exact hs3) M1 (fun M hM => S1.2.1 M (fun r k g => (hM r k g).trans (EqM_SVl eM r k g))))
  refine z_C_mono mm (fun r μ' z => ?_)
  obtain ⟨z1, N1, g1, z3⟩ := z
  refine ⟨z1, RG.cg (eqX_rf _) (sm_EqM z3) ?_⟩
  have P' := P.cg (eqX_rf _) eM
  have k1 := S1.2.2 _ _ b1 g1
  exact rg_aw100 (R.cg (eqX_rf _) eM) P'.fo (P'.tx.trans P'.tm.symm) ((E 50 40 (Or.inr ⟨rfl, by decide, by decide⟩)).trans hdl) hdl4 he ht4 hu1 hu2 hu3 cx o1 f1 k1.1 k1.2.1 k1.2.2
theorem lg_pw101 {d : Nat} (hd : 705 ≤ d) {μ : zM} (hJ : LJ μ) (hR : RG μ μ) {p t c u1 u2 u3 dl e : Nat} (P : RPh μ μ p t c) (hp : p ≠ 1) (hc : c < 34) (hu1 : (t + 1) % 4 = u1) (hu2 : (t + 2) % 4 = u2) (hu3 : (t + 3) % 4 = u3) (hdl : μ.1 50 40 = nI dl) (hdl4 : dl < 4) (he : (dl + 1) % 4 = e) (han : anS μ = true) (hs1 : decide (μ.1 71 u1 = 0) = false) (hs2 : decide (μ.1 71 u2 = 0) = true) (hs3 : decide (μ.1 71 u3 = 0) = false) (kx : z_C d mi_X6_pass [.ref 0] μ (fun _ μ' => LJ μ' ∧ EqM μ μ')) (km : ∀ μ1, LJ μ1 → z_C d mi_X7_pass [.ref 50] μ1 (fun _ μ' => LJ μ' ∧ EqX μ1 μ')) : GO d mi_X6_pass mi_X7_pass [.ref 0] [.ref 50] μ := by
  have hA := hJ.1.1
  have R := hR.1
  have ht4 := P.t4
  have hp0 : ¬ μ.1 50 44 = 0 := by rw [P.pm]; rcases P.p3 with q | q | q <;> (rw [q]; decide)
  have G := hJ.1.2.2 hp0
  have cx : μ.1 0 15 = nI c := P.cx.trans (if_neg (by omega))
  have cm : μ.1 50 49 = nI c := P.cm.trans (if_neg (by omega))
  have h06 : μ.1 0 6 = nI 0 := R.wc.trans P.w0
  have hu14 : u1 < 4 := by omega
  have hu24 : u2 < 4 := by omega
  have hu34 : u3 < 4 := by omega
  obtain ⟨X1, M1, S1⟩ := sw_of (s := u1) R P hA G hp hu14 (by omega) hc
  obtain ⟨X3, M3, S3⟩ := sw_of (s := u3) R P hA G hp hu34 (by omega) hc
  have cw := fun (d : Nat) (hd : 11 ≤ d) => gc_winByTile101 d (by omega) μ t c u1 u2 u3 ht4 P.tx hu1 hu14 hu2 hu24 hu3 hu34 dl e (R.dl.trans hdl) hdl4 he h06 hA (by rw [R.sy u1 hu14]; exact hs1) (by rw [R.sy u2 hu24]; exact hs2) (by rw [R.sy u3 hu34]; exact hs3) X1 S1.1 X3 S3.1
  have cc := pw_x (d := d) (by omega) R P hp han _ cw
  refine z_C_mono (zC_and d kx cc) (fun r μ1 qq => ?_)
  obtain ⟨⟨q1, qM⟩, q2, v1, W1, v3, W3, b1, f1, o1, b3, f3, o3, q3⟩ := qq
  have eM : EqM μ (z_ui μ1 50 0 0) := eqM_tr qM (t0_EqM μ1 0)
  have E : ∀ r k', gMc r k' → (z_ui μ1 50 0 0).1 r k' = μ.1 r k' := fun r k' g => (eM r k' g).1
  have hA1 : a_H (z_ui μ1 50 0 0) := a_H_ui q1.1.1 (bI_top _)
  refine go_in q1 km q2 (X := wA101 W3 t dl e u1 u2 u3 v1 v3 μ) (by rw [q3]; exact eqX_rf _) ?_
  have mm := gm_passW d (by omega) μ1 (by
    rw [(qM 50 44 (Or.inr ⟨rfl, by decide, by decide⟩)).1, P.pm]
    rcases P.p3 with q | q | q
    · exact absurd q hp
    · rw [q]; decide
    · rw [q]; decide) (anS μ1) (sy_m μ1) ((anS_e qM).trans han) _ (fun d hd => gm_allWin101 d (by omega) (z_ui μ1 50 0 0) hA1 t c u1 u2 u3 dl e ht4 ((E 50 45 (Or.inr ⟨rfl, by decide, by decide⟩)).trans P.tm) hu1 hu14 hu2 hu24 hu3 hu34 ((E 50 40 (Or.inr ⟨rfl, by decide, by decide⟩)).trans hdl) hdl4 he hc ((E 50 49 (Or.inr ⟨rfl, by decide, by decide⟩)).trans cm) (by rw [E 71 u1 (Or.inl ⟨by decide, by decide⟩)]; exact hs1) (by rw [E 71 u2 (Or.inl ⟨by decide, by decide⟩)]; exact hs2) (by rw [E 71 u3 (Or.inl ⟨by decide, by decide⟩)]; exact hs3) M1 (fun M hM => S1.2.1 M (fun r k g => (hM r k g).trans (EqM_SVl eM r k g))) M3 (fun M hM => S3.2.1 M (fun r k g => (hM r k g).trans (EqM_SVl eM r k g))))
  refine z_C_mono mm (fun r μ' z => ?_)
  obtain ⟨z1, N1, N3, g1, g3, z3⟩ := z
  refine ⟨z1, RG.cg (eqX_rf _) (sm_EqM z3) ?_⟩
  have P' := P.cg (eqX_rf _) eM
  have k1 := S1.2.2 _ _ b1 g1
  have k3 := S3.2.2 _ _ b3 g3
  exact rg_aw101 (R.cg (eqX_rf _) eM) P'.fo (P'.tx.trans P'.tm.symm) ((E 50 40 (Or.inr ⟨rfl, by decide, by decide⟩)).trans hdl) hdl4 he ht4 hu1 hu2 hu3 cx o1 f1 k1.1 k1.2.1 k1.2.2 o3 f3 k3.1 k3.2.1 k3.2.2
theorem lg_pw110 {d : Nat} (hd : 705 ≤ d) {μ : zM} (hJ : LJ μ) (hR : RG μ μ) {p t c u1 u2 u3 dl e : Nat} (P : RPh μ μ p t c) (hp : p ≠ 1) (hc : c < 34) (hu1 : (t + 1) % 4 = u1) (hu2 : (t + 2) % 4 = u2) (hu3 : (t + 3) % 4 = u3) (hdl : μ.1 50 40 = nI dl) (hdl4 : dl < 4) (he : (dl + 1) % 4 = e) (han : anS μ = true) (hs1 : decide (μ.1 71 u1 = 0) = false) (hs2 : decide (μ.1 71 u2 = 0) = false) (hs3 : decide (μ.1 71 u3 = 0) = true) (kx : z_C d mi_X6_pass [.ref 0] μ (fun _ μ' => LJ μ' ∧ EqM μ μ')) (km : ∀ μ1, LJ μ1 → z_C d mi_X7_pass [.ref 50] μ1 (fun _ μ' => LJ μ' ∧ EqX μ1 μ')) : GO d mi_X6_pass mi_X7_pass [.ref 0] [.ref 50] μ := by
  have hA := hJ.1.1
  have R := hR.1
  have ht4 := P.t4
  have hp0 : ¬ μ.1 50 44 = 0 := by rw [P.pm]; rcases P.p3 with q | q | q <;> (rw [q]; decide)
  have G := hJ.1.2.2 hp0
  have cx : μ.1 0 15 = nI c := P.cx.trans (if_neg (by omega))
  have cm : μ.1 50 49 = nI c := P.cm.trans (if_neg (by omega))
  have h06 : μ.1 0 6 = nI 0 := R.wc.trans P.w0
  have hu14 : u1 < 4 := by omega
  have hu24 : u2 < 4 := by omega
  have hu34 : u3 < 4 := by omega
  obtain ⟨X1, M1, S1⟩ := sw_of (s := u1) R P hA G hp hu14 (by omega) hc
  obtain ⟨X2, M2, S2⟩ := sw_of (s := u2) R P hA G hp hu24 (by omega) hc
  have cw := fun (d : Nat) (hd : 11 ≤ d) => gc_winByTile110 d (by omega) μ t c u1 u2 u3 ht4 P.tx hu1 hu14 hu2 hu24 hu3 hu34 dl e (R.dl.trans hdl) hdl4 he h06 hA (by rw [R.sy u1 hu14]; exact hs1) (by rw [R.sy u2 hu24]; exact hs2) (by rw [R.sy u3 hu34]; exact hs3) X1 S1.1 X2 S2.1
  have cc := pw_x (d := d) (by omega) R P hp han _ cw
  refine z_C_mono (zC_and d kx cc) (fun r μ1 qq => ?_)
  obtain ⟨⟨q1, qM⟩, q2, v1, W1, v2, W2, b1, f1, o1, b2, f2, o2, q3⟩ := qq
  have eM : EqM μ (z_ui μ1 50 0 0) := eqM_tr qM (t0_EqM μ1 0)
  have E : ∀ r k', gMc r k' → (z_ui μ1 50 0 0).1 r k' = μ.1 r k' := fun r k' g => (eM r k' g).1
  have hA1 : a_H (z_ui μ1 50 0 0) := a_H_ui q1.1.1 (bI_top _)
  refine go_in q1 km q2 (X := wA110 W2 t dl e u1 u2 u3 v1 v2 μ) (by rw [q3]; exact eqX_rf _) ?_
  have mm := gm_passW d (by omega) μ1 (by
    rw [(qM 50 44 (Or.inr ⟨rfl, by decide, by decide⟩)).1, P.pm]
    rcases P.p3 with q | q | q
    · exact absurd q hp
    · rw [q]; decide
    · rw [q]; decide) (anS μ1) (sy_m μ1) ((anS_e qM).trans han) _ (fun d hd => gm_allWin110 d (by omega) (z_ui μ1 50 0 0) hA1 t c u1 u2 u3 dl e ht4 ((E 50 45 (Or.inr ⟨rfl, by decide, by decide⟩)).trans P.tm) hu1 hu14 hu2 hu24 hu3 hu34 ((E 50 40 (Or.inr ⟨rfl, by decide, by decide⟩)).trans hdl) hdl4 he hc ((E 50 49 (Or.inr ⟨rfl, by decide, by decide⟩)).trans cm) (by rw [E 71 u1 (Or.inl ⟨by decide, by decide⟩)]; exact hs1) (by rw [E 71 u2 (Or.inl ⟨by decide, by decide⟩)]; exact hs2) (by rw [E 71 u3 (Or.inl ⟨by decide, by decide⟩)]; exact hs3) M1 (fun M hM => S1.2.1 M (fun r k g => (hM r k g).trans (EqM_SVl eM r k g))) M2 (fun M hM => S2.2.1 M (fun r k g => (hM r k g).trans (EqM_SVl eM r k g))))
  refine z_C_mono mm (fun r μ' z => ?_)
  obtain ⟨z1, N1, N2, g1, g2, z3⟩ := z
  refine ⟨z1, RG.cg (eqX_rf _) (sm_EqM z3) ?_⟩
  have P' := P.cg (eqX_rf _) eM
  have k1 := S1.2.2 _ _ b1 g1
  have k2 := S2.2.2 _ _ b2 g2
  exact rg_aw110 (R.cg (eqX_rf _) eM) P'.fo (P'.tx.trans P'.tm.symm) ((E 50 40 (Or.inr ⟨rfl, by decide, by decide⟩)).trans hdl) hdl4 he ht4 hu1 hu2 hu3 cx o1 f1 k1.1 k1.2.1 k1.2.2 o2 f2 k2.1 k2.2.1 k2.2.2
theorem lg_pw111 {d : Nat} (hd : 705 ≤ d) {μ : zM} (hJ : LJ μ) (hR : RG μ μ) {p t c u1 u2 u3 dl e : Nat} (P : RPh μ μ p t c) (hp : p ≠ 1) (hc : c < 34) (hu1 : (t + 1) % 4 = u1) (hu2 : (t + 2) % 4 = u2) (hu3 : (t + 3) % 4 = u3) (hdl : μ.1 50 40 = nI dl) (hdl4 : dl < 4) (he : (dl + 1) % 4 = e) (han : anS μ = true) (hs1 : decide (μ.1 71 u1 = 0) = false) (hs2 : decide (μ.1 71 u2 = 0) = false) (hs3 : decide (μ.1 71 u3 = 0) = false) (kx : z_C d mi_X6_pass [.ref 0] μ (fun _ μ' => LJ μ' ∧ EqM μ μ')) (km : ∀ μ1, LJ μ1 → z_C d mi_X7_pass [.ref 50] μ1 (fun _ μ' => LJ μ' ∧ EqX μ1 μ')) : GO d mi_X6_pass mi_X7_pass [.ref 0] [.ref 50] μ := by
  have hA := hJ.1.1
  have R := hR.1
  have ht4 := P.t4
  have hp0 : ¬ μ.1 50 44 = 0 := by rw [P.pm]; rcases P.p3 with q | q | q <;> (rw [q]; decide)
  have G := hJ.1.2.2 hp0
  have cx : μ.1 0 15 = nI c := P.cx.trans (if_neg (by omega))
  have cm : μ.1 50 49 = nI c := P.cm.trans (if_neg (by omega))
  have h06 : μ.1 0 6 = nI 0 := R.wc.trans P.w0
  have hu14 : u1 < 4 := by omega
  have hu24 : u2 < 4 := by omega
  have hu34 : u3 < 4 := by omega
  obtain ⟨X1, M1, S1⟩ := sw_of (s := u1) R P hA G hp hu14 (by omega) hc
  obtain ⟨X2, M2, S2⟩ := sw_of (s := u2) R P hA G hp hu24 (by omega) hc
  obtain ⟨X3, M3, S3⟩ := sw_of (s := u3) R P hA G hp hu34 (by omega) hc
  have cw := fun (d : Nat) (hd : 11 ≤ d) => gc_winByTile111 d (by omega) μ t c u1 u2 u3 ht4 P.tx hu1 hu14 hu2 hu24 hu3 hu34 dl e (R.dl.trans hdl) hdl4 he h06 hA (by rw [R.sy u1 hu14]; exact hs1) (by rw [R.sy u2 hu24]; exact hs2) (by rw [R.sy u3 hu34]; exact hs3) X1 S1.1 X2 S2.1 X3 S3.1
  have cc := pw_x (d := d) (by omega) R P hp han _ cw
  refine z_C_mono (zC_and d kx cc) (fun r μ1 qq => ?_)
  obtain ⟨⟨q1, qM⟩, q2, v1, W1, v2, W2, v3, W3, b1, f1, o1, b2, f2, o2, b3, f3, o3, q3⟩ := qq
  have eM : EqM μ (z_ui μ1 50 0 0) := eqM_tr qM (t0_EqM μ1 0)
  have E : ∀ r k', gMc r k' → (z_ui μ1 50 0 0).1 r k' = μ.1 r k' := fun r k' g => (eM r k' g).1
  have hA1 : a_H (z_ui μ1 50 0 0) := a_H_ui q1.1.1 (bI_top _)
  refine go_in q1 km q2 (X := wA111 W3 t dl e u1 u2 u3 v1 v2 v3 μ) (by rw [q3]; exact eqX_rf _) ?_
  have mm := gm_passW d (by omega) μ1 (by
    rw [(qM 50 44 (Or.inr ⟨rfl, by decide, by decide⟩)).1, P.pm]
    rcases P.p3 with q | q | q
    · exact absurd q hp
    · rw [q]; decide
    · rw [q]; decide) (anS μ1) (sy_m μ1) ((anS_e qM).trans han) _ (fun d hd => gm_allWin111 d (by omega) (z_ui μ1 50 0 0) hA1 t c u1 u2 u3 dl e ht4 ((E 50 45 (Or.inr ⟨rfl, by decide, by decide⟩)).trans P.tm) hu1 hu14 hu2 hu24 hu3 hu34 ((E 50 40 (Or.inr ⟨rfl, by decide, by decide⟩)).trans hdl) hdl4 he hc ((E 50 49 (Or.inr ⟨rfl, by decide, by decide⟩)).trans cm) (by rw [E 71 u1 (Or.inl ⟨by decide, by decide⟩)]; exact hs1) (by rw [E 71 u2 (Or.inl ⟨by decide, by decide⟩)]; exact hs2) (by rw [E 71 u3 (Or.inl ⟨by decide, by decide⟩)]; exact hs3) M1 (fun M hM => S1.2.1 M (fun r k g => (hM r k g).trans (EqM_SVl eM r k g))) M2 (fun M hM => S2.2.1 M (fun r k g => (hM r k g).trans (EqM_SVl eM r k g))) M3 (fun M hM => S3.2.1 M (fun r k g => (hM r k g).trans (EqM_SVl eM r k g))))
  refine z_C_mono mm (fun r μ' z => ?_)
  obtain ⟨z1, N1, N2, N3, g1, g2, g3, z3⟩ := z
  refine ⟨z1, RG.cg (eqX_rf _) (sm_EqM z3) ?_⟩
  have P' := P.cg (eqX_rf _) eM
  have k1 := S1.2.2 _ _ b1 g1
  have k2 := S2.2.2 _ _ b2 g2
  have k3 := S3.2.2 _ _ b3 g3
  exact rg_aw111 (R.cg (eqX_rf _) eM) P'.fo (P'.tx.trans P'.tm.symm) ((E 50 40 (Or.inr ⟨rfl, by decide, by decide⟩)).trans hdl) hdl4 he ht4 hu1 hu2 hu3 cx o1 f1 k1.1 k1.2.1 k1.2.2 o2 f2 k2.1 k2.2.1 k2.2.2 o3 f3 k3.1 k3.2.1 k3.2.2

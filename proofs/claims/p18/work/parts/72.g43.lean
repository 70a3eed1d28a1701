/-! run answers alike -/
set_option maxRecDepth 8000
theorem lg_run0 {d : Nat} (hd : 705 ≤ d) {μ : zM} (hJ : LJ μ) (hR : RG μ μ) {s l t : Nat} (hs : s < 4) (hl : l + 2 ≤ 33) (hsr : srB (nI l) = true) (P : RPh μ μ 2 t l) (hsu : s = (t + 1) % 4) (hm : mMC μ s = true) (hsy : ∀ j, j < 4 → μ.1 71 j = 0) (kx : z_C d mi_X6_run [.ref 0, .int (nI s), .int (nI l)] μ (fun _ μ' => LJ μ' ∧ EqM μ μ')) (km : ∀ μ1, LJ μ1 → z_C d mi_X7_run [.ref 50, .int (nI s), .int (nI l)] μ1 (fun _ μ' => LJ μ' ∧ EqX μ1 μ')) : GO d mi_X6_run mi_X7_run [.ref 0, .int (nI s), .int (nI l)] [.ref 50, .int (nI s), .int (nI l)] μ := by
  have hA := hJ.1.1
  have hx1 := mC_x hs ((mc_eq hR hs).trans hm)
  have hm1 := mC_m hs hm
  have R := hR.1
  have hp0 : ¬ μ.1 50 44 = 0 := by rw [P.pm]; decide
  have hp1 : ¬ μ.1 50 44 = 1 := by rw [P.pm]; decide
  have G := hJ.1.2.2 hp0
  have ht4 := P.t4
  have hc : l < 34 := by omega
  obtain ⟨W, hW⟩ := ww_of R P hA G hc
  obtain ⟨w, aw, q, sL, lL, H⟩ := hf_of R P hA G hs
  have cx : μ.1 0 15 = nI l := P.cx.trans (if_neg (by omega))
  have cm : μ.1 50 49 = nI l := P.cm.trans (if_neg (by omega))
  have fsu : decide (nI s = nI ((t + 1) % 4)) = true := decide_eq_true (by rw [hsu])
  have hwa := H.1.1 (l + 1) (by omega)
  have hwb := H.1.1 (l + 2) (by omega)
  have xa : μ.1 (20 + 8 * s) (l + 1) = nI (w (l + 1)) := (R.hd s (l + 1) hs (by omega)).trans hwa.1
  have xb : μ.1 (20 + 8 * s) (l + 2) = nI (w (l + 2)) := (R.hd s (l + 2) hs (by omega)).trans hwb.1
  have hu4 : (t + 1) % 4 < 4 := by omega
  have z0 : ∀ v : Nat, v ≤ 4 → decide (nI v = 0) = decide (v = 0) := fun v hv => nI_dec (a := v) (b := 0) (by omega) (by decide)
  by_cases ha : w (l + 1) = 0
  · have fa : decide (nI (w (l + 1)) = 0) = true := (z0 _ hwa.2).trans (decide_eq_true ha)
    exact go_no hR kx km (gx_runA0 d (by omega) μ s l hs hl cx t _ ht4 P.tx rfl hu4 hx1 fsu (sr_x hsr) (by rw [xa]; exact fa)) (mr_runA0 d (by omega) μ s l hs hl cm t _ ht4 P.tm rfl hu4 hm1 fsu (sr_m hsr) (by rw [hwa.1]; exact fa))
  have fa : decide (nI (w (l + 1)) = 0) = false := (z0 _ hwa.2).trans (decide_eq_false ha)
  by_cases hb : w (l + 2) = 0
  · have fb : decide (nI (w (l + 2)) = 0) = true := (z0 _ hwb.2).trans (decide_eq_true hb)
    exact go_no hR kx km (gx_runB0 d (by omega) μ s l hs hl cx t _ ht4 P.tx rfl hu4 hx1 fsu (sr_x hsr) (by rw [xa]; exact fa) (by rw [xb]; exact fb)) (mr_runB0 d (by omega) μ s l hs hl cm t _ ht4 P.tm rfl hu4 hm1 fsu (sr_m hsr) (by rw [hwa.1]; exact fa) (by rw [hwb.1]; exact fb))
  have fb : decide (nI (w (l + 2)) = 0) = false := (z0 _ hwb.2).trans (decide_eq_false hb)
  have hq3 : q ≤ 3 := q3_of G hs hp1 H.1.2.1 H.1.2.2.1 (by
    have g2 := G.1.le2 hs (a := (l + 1)) (b := (l + 2)) (by omega) (by omega) (by omega)
    have g4 : hI μ (34 * s + (l + 1)) = w (l + 1) := by unfold hI; rw [hwa.1]; exact nI_toInt (by omega)
    have g5 : hI μ (34 * s + (l + 2)) = w (l + 2) := by unfold hI; rw [hwb.1]; exact nI_toInt (by omega)
    omega)
  have d1 : decide ((nI l) < (nI l)) = false := (nI_lt2 (by omega) (by omega)).trans (decide_eq_false (by omega))
  have d2 : decide ((nI l) ≤ (nI (l + 2))) = true := (nI_le2 (by omega) (by omega)).trans (decide_eq_true (by omega))
  have d3 : decide ((nI l) = (nI l)) = true := (nI_dec (by omega) (by omega)).trans (decide_eq_true (by omega))
  have d4 : decide ((nI (l + 1)) = (nI l)) = false := (nI_dec (by omega) (by omega)).trans (decide_eq_false (by omega))
  have d5 : decide ((nI (l + 2)) = (nI l)) = false := (nI_dec (by omega) (by omega)).trans (decide_eq_false (by omega))
  have cdK : ∀ (kk : Bool), kA (koF μ s (usL0 l) (bsL0 l)) 34 = kk → ∀ μ1, EqM μ μ1 → ∀ d, 2 ≤ d → z_C d mi_X7_canDiscard [.ref 50, .int (nI s)] (z_giv (z_giv (z_ui (z_ui (z_ui μ1 50 0 0) 50 50 (nI l)) 50 51 (abL0 l)) s (l + 1) (-1)) s (l + 2) (-1)) (zR (z_giv (z_giv (z_ui (z_ui (z_ui μ1 50 0 0) 50 50 (nI l)) 50 51 (abL0 l)) s (l + 1) (-1)) s (l + 2) (-1)) (.int (nB kk))) := fun kk hk μ1 qM d hd => by
    have z := gm_canDiscard d hd (z_giv (z_giv (z_ui (z_ui (z_ui μ1 50 0 0) 50 50 (nI l)) 50 51 (abL0 l)) s (l + 1) (-1)) s (l + 2) (-1)) s hs
    rw [← ko_run0 (x := μ) (R.cg (eqX_rf _) qM) hs hl hsr, hk] at z
    exact z
  have cc := fun (ko : Bool) (hko : ∀ d, 3 ≤ d → z_C d mi_X6_keepsOther [.ref (19 + 8 * s), .long ((7 <<< ((nI l).toInt64 &&& 63)) &&& (((1 : Int64) <<< ((nI l).toInt64 &&& 63)) ^^^ (-1))), .long (((1 : Int64) <<< ((nI l).toInt64 &&& 63)) ||| oeL0 l)] μ (zR μ (.int (nB ko)))) => gc_run d (by omega) μ s q l hs hq3 H.2.2.2.1 hl (by rw [show zl 0 = 2 from by decide]; omega) t l ((t + 1) % 4) ((t + 2) % 4) ((t + 3) % 4) _ _ _ ht4 P.tx hc cx rfl (Nat.mod_lt _ (by decide)) (hW ((t + 1) % 4) (Nat.mod_lt _ (by decide))).1 rfl (Nat.mod_lt _ (by decide)) (hW ((t + 2) % 4) (Nat.mod_lt _ (by decide))).1 rfl (Nat.mod_lt _ (by decide)) (hW ((t + 3) % 4) (Nat.mod_lt _ (by decide))).1 true hx1 true (sr_x hsr) (oeL0 l) (oe_x cx (oe_eq0 l (by omega))) ko hko
  rw [fsu, d1, d2, d3, d4, d5, xa, xb, fa, fb] at cc
  simp only [cond_true, cond_false] at cc
  have mm : ∀ (kk : Bool), kA (koF μ s (usL0 l) (bsL0 l)) 34 = kk → ∀ μ1, LJ μ1 → EqM μ μ1 → EqB μ (ruM0 μ1 s l) ∧ z_C d mi_X7_run [.ref 50, .int (nI s), .int (nI l)] μ1 (fun r μ' => (ruC0 μ1 s l ((t + 1) % 4) true true kk = true ∧ r = some (.int 1) ∧ SMj (ruO0 (ovF (ruM0 μ1 s l) t l W) s l q) μ') ∨ (ruC0 μ1 s l ((t + 1) % 4) true true kk = false ∧ r = some (.int 0) ∧ (μ' = z_ui μ1 50 0 0 ∨ μ' = ruM0 μ1 s l))) := fun kk hk μ1 h1 qM => by
    have E : ∀ r k', gMc r k' → μ1.1 r k' = μ.1 r k' := fun r k' g => (qM r k' g).1
    have eB : EqB μ (ruM0 μ1 s l) := eB_tr (eB_M qM) (eB_tr (eB_0 μ1 0) (eB_tr (eB_50 _ _ _) (eB_g4 (by omega) (by decide))))
    have hA' : a_H (ruM0 μ1 s l) := a_H_ui (a_H_ui (a_H_ui (a_H_ui (a_H_ui (a_H_ui (a_H_ui h1.1.1 (bI_top _)) (bI_top _)) (bI_top _)) (bI_top _)) (bI_top _)) (bI_top _)) (bI_top _)
    have P' := P.cgB eB (by decide)
    have ov := ov_go (hW.m (eB_SE eB)) hA' ht4 P'.tm (P'.cm.trans (if_neg (by omega)))
    exact ⟨eB, gm_run0 d (by omega) μ1 s q l t ((t + 1) % 4) hs (by omega) hl ht4 ((E 50 45 (Or.inr ⟨rfl, by decide, by decide⟩)).trans P.tm) rfl hu4 ((E 50 49 (Or.inr ⟨rfl, by decide, by decide⟩)).trans cm) true (mC_m hs ((mMC_e qM).trans hm)) true (sr_m hsr) kk (cdK kk hk μ1 qM) (ovF (ruM0 μ1 s l) t l W) ov ((ovF_o (by decide) (by decide) (Or.inr ⟨by decide, by decide⟩)).trans (P'.cm.trans (if_neg (by omega)))) (((ovF_o (by decide) (by decide) (Or.inl (by decide))).trans (eB 64 s (Or.inl ⟨by decide, by decide⟩) (by omega)).1).trans H.1.2.1)⟩
  cases hk : kA (koF μ s (usL0 l) (bsL0 l)) 34 with
  | true =>
    have c1 := cc true (fun d hd => by rw [← hk]; exact gc_keepsOther d (by omega) μ s hs _ _)
    simp only [cond_true, cond_false] at c1
    refine go_yes (X := z_uj (tkS μ s l q 0 t l ((t + 1) % 4) ((t + 2) % 4) ((t + 3) % 4) (bw (W ((t + 1) % 4)) l) (bw (W ((t + 2) % 4)) l) (bw (W ((t + 3) % 4)) l)) 0 18 (((1 : Int64) <<< ((nI l).toInt64 &&& 63)) ||| oeL0 l)) (y := 1) kx km (z_C_mono c1 (fun r μ' z => ⟨z.1, by rw [z.2]; exact eqX_rf _⟩)) (fun μ1 h1 qM => ?_)
    obtain ⟨eB, z⟩ := mm true hk μ1 h1 qM
    refine z_C_mono z (fun r μ' z => ?_)
    have E : ∀ r k', gMc r k' → μ1.1 r k' = μ.1 r k' := fun r k' g => (qM r k' g).1
    rcases z with ⟨-, z2, z3⟩ | ⟨z1, -, -⟩
    · refine ⟨z2, ?_⟩
      have e50 : (ruM0 μ1 s l).1 50 50 = nI l := by unfold ruM0; rw [giv_o (by decide), giv_o (by decide), giv_o (by decide), giv_o (by decide), ui_k (by decide), ui_s]
      have e51 : (ruM0 μ1 s l).1 50 51 = abL0 l := by unfold ruM0; rw [giv_o (by decide), giv_o (by decide), giv_o (by decide), giv_o (by decide), ui_s]; rfl
      revert eB z3 e50 e51
      generalize (ruM0 μ1 s l) = M
      intro eB z3 e50 e51
      have R' := R.cgB eB
      have P' := P.cgB eB (by decide)
      obtain ⟨RO, QO, fO⟩ := ov_rq (W := W) R' P' (Or.inl rfl) (fun j hj => (eB 71 j (Or.inl ⟨by decide, by decide⟩) (by omega)).1.trans (hsy j hj))
      rw [if_pos rfl] at QO
      have o64 : ∀ j, (ovF M t l W).1 64 j = μ.1 64 j := fun j => (ovF_o (by decide) (by decide) (Or.inl (by decide))).trans (eB 64 j (Or.inl ⟨by decide, by decide⟩) (by omega)).1
      have g := rg_run0 (bs := bsL0 l) RO QO fO hs (by omega) ((sr_iff _).mp hsr) hq3 ((o64 s).trans H.1.2.1) (fun j hj => by rw [o64]; exact m4_of hA j hj) (by rw [ovF_o (by decide) (by decide) (Or.inr ⟨by decide, by decide⟩), ovF_o (by decide) (by decide) (Or.inr ⟨by decide, by decide⟩), e50, e51]; exact bs_eq0 l (by omega) hsr) ⟨l, hc, (ovF_o (by decide) (by decide) (Or.inr ⟨by decide, by decide⟩)).trans e50, by rw [ovF_o (by decide) (by decide) (Or.inr ⟨by decide, by decide⟩), e51]; exact ab_k0 l (by omega) hsr⟩
      exact RG.cg (eqX_rf _) (sm_EqM z3) g
    · exfalso
      unfold ruC0 at z1
      rw [fsu, E 60 _ (Or.inl ⟨by decide, by decide⟩), hwa.1, fa, E 60 _ (Or.inl ⟨by decide, by decide⟩), hwb.1, fb] at z1
      cases z1
  | false =>
    have c1 := cc false (fun d hd => by rw [← hk]; exact gc_keepsOther d (by omega) μ s hs _ _)
    simp only [cond_true, cond_false] at c1
    refine go_yes (X := μ) (y := 0) kx km (z_C_mono c1 (fun r μ' z => ⟨z.1, by rw [z.2]; exact eqX_rf _⟩)) (fun μ1 h1 qM => ?_)
    obtain ⟨eB, z⟩ := mm false hk μ1 h1 qM
    refine z_C_mono z (fun r μ' z => ?_)
    rcases z with ⟨z1, -, -⟩ | ⟨-, z2, z3⟩
    · exfalso
      unfold ruC0 at z1
      rw [Bool.and_false] at z1
      cases z1
    · refine ⟨z2, ?_⟩
      rcases z3 with z3 | z3
      · rw [z3]; exact RG.cgB2 R P (eB_tr (eB_M qM) (eB_0 μ1 0))
      · rw [z3]; exact RG.cgB2 R P eB
theorem lg_run1 {d : Nat} (hd : 705 ≤ d) {μ : zM} (hJ : LJ μ) (hR : RG μ μ) {s l t : Nat} (hs : s < 4) (hl : l + 2 ≤ 33) (hsr : srB (nI l) = true) (P : RPh μ μ 2 t (l + 1)) (hsu : s = (t + 1) % 4) (hm : mMC μ s = true) (hsy : ∀ j, j < 4 → μ.1 71 j = 0) (kx : z_C d mi_X6_run [.ref 0, .int (nI s), .int (nI l)] μ (fun _ μ' => LJ μ' ∧ EqM μ μ')) (km : ∀ μ1, LJ μ1 → z_C d mi_X7_run [.ref 50, .int (nI s), .int (nI l)] μ1 (fun _ μ' => LJ μ' ∧ EqX μ1 μ')) : GO d mi_X6_run mi_X7_run [.ref 0, .int (nI s), .int (nI l)] [.ref 50, .int (nI s), .int (nI l)] μ := by
  have hA := hJ.1.1
  have hx1 := mC_x hs ((mc_eq hR hs).trans hm)
  have hm1 := mC_m hs hm
  have R := hR.1
  have hp0 : ¬ μ.1 50 44 = 0 := by rw [P.pm]; decide
  have hp1 : ¬ μ.1 50 44 = 1 := by rw [P.pm]; decide
  have G := hJ.1.2.2 hp0
  have ht4 := P.t4
  have hc : (l + 1) < 34 := by omega
  obtain ⟨W, hW⟩ := ww_of R P hA G hc
  obtain ⟨w, aw, q, sL, lL, H⟩ := hf_of R P hA G hs
  have cx : μ.1 0 15 = nI (l + 1) := P.cx.trans (if_neg (by omega))
  have cm : μ.1 50 49 = nI (l + 1) := P.cm.trans (if_neg (by omega))
  have fsu : decide (nI s = nI ((t + 1) % 4)) = true := decide_eq_true (by rw [hsu])
  have hwa := H.1.1 l (by omega)
  have hwb := H.1.1 (l + 2) (by omega)
  have xa : μ.1 (20 + 8 * s) l = nI (w l) := (R.hd s l hs (by omega)).trans hwa.1
  have xb : μ.1 (20 + 8 * s) (l + 2) = nI (w (l + 2)) := (R.hd s (l + 2) hs (by omega)).trans hwb.1
  have hu4 : (t + 1) % 4 < 4 := by omega
  have z0 : ∀ v : Nat, v ≤ 4 → decide (nI v = 0) = decide (v = 0) := fun v hv => nI_dec (a := v) (b := 0) (by omega) (by decide)
  by_cases ha : w l = 0
  · have fa : decide (nI (w l) = 0) = true := (z0 _ hwa.2).trans (decide_eq_true ha)
    exact go_no hR kx km (gx_runA1 d (by omega) μ s l hs hl cx t _ ht4 P.tx rfl hu4 hx1 fsu (sr_x hsr) (by rw [xa]; exact fa)) (mr_runA1 d (by omega) μ s l hs hl cm t _ ht4 P.tm rfl hu4 hm1 fsu (sr_m hsr) (by rw [hwa.1]; exact fa))
  have fa : decide (nI (w l) = 0) = false := (z0 _ hwa.2).trans (decide_eq_false ha)
  by_cases hb : w (l + 2) = 0
  · have fb : decide (nI (w (l + 2)) = 0) = true := (z0 _ hwb.2).trans (decide_eq_true hb)
    exact go_no hR kx km (gx_runB1 d (by omega) μ s l hs hl cx t _ ht4 P.tx rfl hu4 hx1 fsu (sr_x hsr) (by rw [xa]; exact fa) (by rw [xb]; exact fb)) (mr_runB1 d (by omega) μ s l hs hl cm t _ ht4 P.tm rfl hu4 hm1 fsu (sr_m hsr) (by rw [hwa.1]; exact fa) (by rw [hwb.1]; exact fb))
  have fb : decide (nI (w (l + 2)) = 0) = false := (z0 _ hwb.2).trans (decide_eq_false hb)
  have hq3 : q ≤ 3 := q3_of G hs hp1 H.1.2.1 H.1.2.2.1 (by
    have g2 := G.1.le2 hs (a := l) (b := (l + 2)) (by omega) (by omega) (by omega)
    have g4 : hI μ (34 * s + l) = w l := by unfold hI; rw [hwa.1]; exact nI_toInt (by omega)
    have g5 : hI μ (34 * s + (l + 2)) = w (l + 2) := by unfold hI; rw [hwb.1]; exact nI_toInt (by omega)
    omega)
  have d1 : decide ((nI (l + 1)) < (nI l)) = false := (nI_lt2 (by omega) (by omega)).trans (decide_eq_false (by omega))
  have d2 : decide ((nI (l + 1)) ≤ (nI (l + 2))) = true := (nI_le2 (by omega) (by omega)).trans (decide_eq_true (by omega))
  have d3 : decide ((nI l) = (nI (l + 1))) = false := (nI_dec (by omega) (by omega)).trans (decide_eq_false (by omega))
  have d4 : decide ((nI (l + 1)) = (nI (l + 1))) = true := (nI_dec (by omega) (by omega)).trans (decide_eq_true (by omega))
  have d5 : decide ((nI (l + 2)) = (nI (l + 1))) = false := (nI_dec (by omega) (by omega)).trans (decide_eq_false (by omega))
  have cdK : ∀ (kk : Bool), kA (koF μ s (usL1 l) (bsL1 l)) 34 = kk → ∀ μ1, EqM μ μ1 → ∀ d, 2 ≤ d → z_C d mi_X7_canDiscard [.ref 50, .int (nI s)] (z_giv (z_giv (z_ui (z_ui (z_ui μ1 50 0 0) 50 50 (nI (l + 1))) 50 51 (abL1 l)) s l (-1)) s (l + 2) (-1)) (zR (z_giv (z_giv (z_ui (z_ui (z_ui μ1 50 0 0) 50 50 (nI (l + 1))) 50 51 (abL1 l)) s l (-1)) s (l + 2) (-1)) (.int (nB kk))) := fun kk hk μ1 qM d hd => by
    have z := gm_canDiscard d hd (z_giv (z_giv (z_ui (z_ui (z_ui μ1 50 0 0) 50 50 (nI (l + 1))) 50 51 (abL1 l)) s l (-1)) s (l + 2) (-1)) s hs
    rw [← ko_run1 (x := μ) (R.cg (eqX_rf _) qM) hs hl hsr, hk] at z
    exact z
  have cc := fun (ko : Bool) (hko : ∀ d, 3 ≤ d → z_C d mi_X6_keepsOther [.ref (19 + 8 * s), .long ((7 <<< ((nI l).toInt64 &&& 63)) &&& (((1 : Int64) <<< ((nI (l + 1)).toInt64 &&& 63)) ^^^ (-1))), .long (((1 : Int64) <<< ((nI (l + 1)).toInt64 &&& 63)) ||| oeL1 l)] μ (zR μ (.int (nB ko)))) => gc_run d (by omega) μ s q l hs hq3 H.2.2.2.1 hl (by rw [show zl 0 = 2 from by decide]; omega) t (l + 1) ((t + 1) % 4) ((t + 2) % 4) ((t + 3) % 4) _ _ _ ht4 P.tx hc cx rfl (Nat.mod_lt _ (by decide)) (hW ((t + 1) % 4) (Nat.mod_lt _ (by decide))).1 rfl (Nat.mod_lt _ (by decide)) (hW ((t + 2) % 4) (Nat.mod_lt _ (by decide))).1 rfl (Nat.mod_lt _ (by decide)) (hW ((t + 3) % 4) (Nat.mod_lt _ (by decide))).1 true hx1 true (sr_x hsr) (oeL1 l) (oe_x cx (oe_eq1 l (by omega))) ko hko
  rw [fsu, d1, d2, d3, d4, d5, xa, xb, fa, fb] at cc
  simp only [cond_true, cond_false] at cc
  have mm : ∀ (kk : Bool), kA (koF μ s (usL1 l) (bsL1 l)) 34 = kk → ∀ μ1, LJ μ1 → EqM μ μ1 → EqB μ (ruM1 μ1 s l) ∧ z_C d mi_X7_run [.ref 50, .int (nI s), .int (nI l)] μ1 (fun r μ' => (ruC1 μ1 s l ((t + 1) % 4) true true kk = true ∧ r = some (.int 1) ∧ SMj (ruO1 (ovF (ruM1 μ1 s l) t (l + 1) W) s l q) μ') ∨ (ruC1 μ1 s l ((t + 1) % 4) true true kk = false ∧ r = some (.int 0) ∧ (μ' = z_ui μ1 50 0 0 ∨ μ' = ruM1 μ1 s l))) := fun kk hk μ1 h1 qM => by
    have E : ∀ r k', gMc r k' → μ1.1 r k' = μ.1 r k' := fun r k' g => (qM r k' g).1
    have eB : EqB μ (ruM1 μ1 s l) := eB_tr (eB_M qM) (eB_tr (eB_0 μ1 0) (eB_tr (eB_50 _ _ _) (eB_g4 (by omega) (by decide))))
    have hA' : a_H (ruM1 μ1 s l) := a_H_ui (a_H_ui (a_H_ui (a_H_ui (a_H_ui (a_H_ui (a_H_ui h1.1.1 (bI_top _)) (bI_top _)) (bI_top _)) (bI_top _)) (bI_top _)) (bI_top _)) (bI_top _)
    have P' := P.cgB eB (by decide)
    have ov := ov_go (hW.m (eB_SE eB)) hA' ht4 P'.tm (P'.cm.trans (if_neg (by omega)))
    exact ⟨eB, gm_run1 d (by omega) μ1 s q l t ((t + 1) % 4) hs (by omega) hl ht4 ((E 50 45 (Or.inr ⟨rfl, by decide, by decide⟩)).trans P.tm) rfl hu4 ((E 50 49 (Or.inr ⟨rfl, by decide, by decide⟩)).trans cm) true (mC_m hs ((mMC_e qM).trans hm)) true (sr_m hsr) kk (cdK kk hk μ1 qM) (ovF (ruM1 μ1 s l) t (l + 1) W) ov ((ovF_o (by decide) (by decide) (Or.inr ⟨by decide, by decide⟩)).trans (P'.cm.trans (if_neg (by omega)))) (((ovF_o (by decide) (by decide) (Or.inl (by decide))).trans (eB 64 s (Or.inl ⟨by decide, by decide⟩) (by omega)).1).trans H.1.2.1)⟩
  cases hk : kA (koF μ s (usL1 l) (bsL1 l)) 34 with
  | true =>
    have c1 := cc true (fun d hd => by rw [← hk]; exact gc_keepsOther d (by omega) μ s hs _ _)
    simp only [cond_true, cond_false] at c1
    refine go_yes (X := z_uj (tkS μ s l q 0 t (l + 1) ((t + 1) % 4) ((t + 2) % 4) ((t + 3) % 4) (bw (W ((t + 1) % 4)) (l + 1)) (bw (W ((t + 2) % 4)) (l + 1)) (bw (W ((t + 3) % 4)) (l + 1))) 0 18 (((1 : Int64) <<< ((nI (l + 1)).toInt64 &&& 63)) ||| oeL1 l)) (y := 1) kx km (z_C_mono c1 (fun r μ' z => ⟨z.1, by rw [z.2]; exact eqX_rf _⟩)) (fun μ1 h1 qM => ?_)
    obtain ⟨eB, z⟩ := mm true hk μ1 h1 qM
    refine z_C_mono z (fun r μ' z => ?_)
    have E : ∀ r k', gMc r k' → μ1.1 r k' = μ.1 r k' := fun r k' g => (qM r k' g).1
    rcases z with ⟨-, z2, z3⟩ | ⟨z1, -, -⟩
    · refine ⟨z2, ?_⟩
      have e50 : (ruM1 μ1 s l).1 50 50 = nI (l + 1) := by unfold ruM1; rw [giv_o (by decide), giv_o (by decide), giv_o (by decide), giv_o (by decide), ui_k (by decide), ui_s]
      have e51 : (ruM1 μ1 s l).1 50 51 = abL1 l := by unfold ruM1; rw [giv_o (by decide), giv_o (by decide), giv_o (by decide), giv_o (by decide), ui_s]; rfl
      revert eB z3 e50 e51
      generalize (ruM1 μ1 s l) = M
      intro eB z3 e50 e51
      have R' := R.cgB eB
      have P' := P.cgB eB (by decide)
      obtain ⟨RO, QO, fO⟩ := ov_rq (W := W) R' P' (Or.inl rfl) (fun j hj => (eB 71 j (Or.inl ⟨by decide, by decide⟩) (by omega)).1.trans (hsy j hj))
      rw [if_pos rfl] at QO
      have o64 : ∀ j, (ovF M t (l + 1) W).1 64 j = μ.1 64 j := fun j => (ovF_o (by decide) (by decide) (Or.inl (by decide))).trans (eB 64 j (Or.inl ⟨by decide, by decide⟩) (by omega)).1
      have g := rg_run1 (bs := bsL1 l) RO QO fO hs (by omega) ((sr_iff _).mp hsr) hq3 ((o64 s).trans H.1.2.1) (fun j hj => by rw [o64]; exact m4_of hA j hj) (by rw [ovF_o (by decide) (by decide) (Or.inr ⟨by decide, by decide⟩), ovF_o (by decide) (by decide) (Or.inr ⟨by decide, by decide⟩), e50, e51]; exact bs_eq1 l (by omega) hsr) ⟨(l + 1), hc, (ovF_o (by decide) (by decide) (Or.inr ⟨by decide, by decide⟩)).trans e50, by rw [ovF_o (by decide) (by decide) (Or.inr ⟨by decide, by decide⟩), e51]; exact ab_k1 l (by omega) hsr⟩
      exact RG.cg (eqX_rf _) (sm_EqM z3) g
    · exfalso
      unfold ruC1 at z1
      rw [fsu, E 60 _ (Or.inl ⟨by decide, by decide⟩), hwa.1, fa, E 60 _ (Or.inl ⟨by decide, by decide⟩), hwb.1, fb] at z1
      cases z1
  | false =>
    have c1 := cc false (fun d hd => by rw [← hk]; exact gc_keepsOther d (by omega) μ s hs _ _)
    simp only [cond_true, cond_false] at c1
    refine go_yes (X := μ) (y := 0) kx km (z_C_mono c1 (fun r μ' z => ⟨z.1, by rw [z.2]; exact eqX_rf _⟩)) (fun μ1 h1 qM => ?_)
    obtain ⟨eB, z⟩ := mm false hk μ1 h1 qM
    refine z_C_mono z (fun r μ' z => ?_)
    rcases z with ⟨z1, -, -⟩ | ⟨-, z2, z3⟩
    · exfalso
      unfold ruC1 at z1
      rw [Bool.and_false] at z1
      cases z1
    · refine ⟨z2, ?_⟩
      rcases z3 with z3 | z3
      · rw [z3]; exact RG.cgB2 R P (eB_tr (eB_M qM) (eB_0 μ1 0))
      · rw [z3]; exact RG.cgB2 R P eB
theorem lg_run2 {d : Nat} (hd : 705 ≤ d) {μ : zM} (hJ : LJ μ) (hR : RG μ μ) {s l t : Nat} (hs : s < 4) (hl : l + 2 ≤ 33) (hsr : srB (nI l) = true) (P : RPh μ μ 2 t (l + 2)) (hsu : s = (t + 1) % 4) (hm : mMC μ s = true) (hsy : ∀ j, j < 4 → μ.1 71 j = 0) (kx : z_C d mi_X6_run [.ref 0, .int (nI s), .int (nI l)] μ (fun _ μ' => LJ μ' ∧ EqM μ μ')) (km : ∀ μ1, LJ μ1 → z_C d mi_X7_run [.ref 50, .int (nI s), .int (nI l)] μ1 (fun _ μ' => LJ μ' ∧ EqX μ1 μ')) : GO d mi_X6_run mi_X7_run [.ref 0, .int (nI s), .int (nI l)] [.ref 50, .int (nI s), .int (nI l)] μ := by
  have hA := hJ.1.1
  have hx1 := mC_x hs ((mc_eq hR hs).trans hm)
  have hm1 := mC_m hs hm
  have R := hR.1
  have hp0 : ¬ μ.1 50 44 = 0 := by rw [P.pm]; decide
  have hp1 : ¬ μ.1 50 44 = 1 := by rw [P.pm]; decide
  have G := hJ.1.2.2 hp0
  have ht4 := P.t4
  have hc : (l + 2) < 34 := by omega
  obtain ⟨W, hW⟩ := ww_of R P hA G hc
  obtain ⟨w, aw, q, sL, lL, H⟩ := hf_of R P hA G hs
  have cx : μ.1 0 15 = nI (l + 2) := P.cx.trans (if_neg (by omega))
  have cm : μ.1 50 49 = nI (l + 2) := P.cm.trans (if_neg (by omega))
  have fsu : decide (nI s = nI ((t + 1) % 4)) = true := decide_eq_true (by rw [hsu])
  have hwa := H.1.1 l (by omega)
  have hwb := H.1.1 (l + 1) (by omega)
  have xa : μ.1 (20 + 8 * s) l = nI (w l) := (R.hd s l hs (by omega)).trans hwa.1
  have xb : μ.1 (20 + 8 * s) (l + 1) = nI (w (l + 1)) := (R.hd s (l + 1) hs (by omega)).trans hwb.1
  have hu4 : (t + 1) % 4 < 4 := by omega
  have z0 : ∀ v : Nat, v ≤ 4 → decide (nI v = 0) = decide (v = 0) := fun v hv => nI_dec (a := v) (b := 0) (by omega) (by decide)
  by_cases ha : w l = 0
  · have fa : decide (nI (w l) = 0) = true := (z0 _ hwa.2).trans (decide_eq_true ha)
    exact go_no hR kx km (gx_runA2 d (by omega) μ s l hs hl cx t _ ht4 P.tx rfl hu4 hx1 fsu (sr_x hsr) (by rw [xa]; exact fa)) (mr_runA2 d (by omega) μ s l hs hl cm t _ ht4 P.tm rfl hu4 hm1 fsu (sr_m hsr) (by rw [hwa.1]; exact fa))
  have fa : decide (nI (w l) = 0) = false := (z0 _ hwa.2).trans (decide_eq_false ha)
  by_cases hb : w (l + 1) = 0
  · have fb : decide (nI (w (l + 1)) = 0) = true := (z0 _ hwb.2).trans (decide_eq_true hb)
    exact go_no hR kx km (gx_runB2 d (by omega) μ s l hs hl cx t _ ht4 P.tx rfl hu4 hx1 fsu (sr_x hsr) (by rw [xa]; exact fa) (by rw [xb]; exact fb)) (mr_runB2 d (by omega) μ s l hs hl cm t _ ht4 P.tm rfl hu4 hm1 fsu (sr_m hsr) (by rw [hwa.1]; exact fa) (by rw [hwb.1]; exact fb))
  have fb : decide (nI (w (l + 1)) = 0) = false := (z0 _ hwb.2).trans (decide_eq_false hb)
  have hq3 : q ≤ 3 := q3_of G hs hp1 H.1.2.1 H.1.2.2.1 (by
    have g2 := G.1.le2 hs (a := l) (b := (l + 1)) (by omega) (by omega) (by omega)
    have g4 : hI μ (34 * s + l) = w l := by unfold hI; rw [hwa.1]; exact nI_toInt (by omega)
    have g5 : hI μ (34 * s + (l + 1)) = w (l + 1) := by unfold hI; rw [hwb.1]; exact nI_toInt (by omega)
    omega)
  have d1 : decide ((nI (l + 2)) < (nI l)) = false := (nI_lt2 (by omega) (by omega)).trans (decide_eq_false (by omega))
  have d2 : decide ((nI (l + 2)) ≤ (nI (l + 2))) = true := (nI_le2 (by omega) (by omega)).trans (decide_eq_true (by omega))
  have d3 : decide ((nI l) = (nI (l + 2))) = false := (nI_dec (by omega) (by omega)).trans (decide_eq_false (by omega))
  have d4 : decide ((nI (l + 1)) = (nI (l + 2))) = false := (nI_dec (by omega) (by omega)).trans (decide_eq_false (by omega))
  have d5 : decide ((nI (l + 2)) = (nI (l + 2))) = true := (nI_dec (by omega) (by omega)).trans (decide_eq_true (by omega))
  have cdK : ∀ (kk : Bool), kA (koF μ s (usL2 l) (bsL2 l)) 34 = kk → ∀ μ1, EqM μ μ1 → ∀ d, 2 ≤ d → z_C d mi_X7_canDiscard [.ref 50, .int (nI s)] (z_giv (z_giv (z_ui (z_ui (z_ui μ1 50 0 0) 50 50 (nI (l + 2))) 50 51 (abL2 l)) s l (-1)) s (l + 1) (-1)) (zR (z_giv (z_giv (z_ui (z_ui (z_ui μ1 50 0 0) 50 50 (nI (l + 2))) 50 51 (abL2 l)) s l (-1)) s (l + 1) (-1)) (.int (nB kk))) := fun kk hk μ1 qM d hd => by
    have z := gm_canDiscard d hd (z_giv (z_giv (z_ui (z_ui (z_ui μ1 50 0 0) 50 50 (nI (l + 2))) 50 51 (abL2 l)) s l (-1)) s (l + 1) (-1)) s hs
    rw [← ko_run2 (x := μ) (R.cg (eqX_rf _) qM) hs hl hsr, hk] at z
    exact z
  have cc := fun (ko : Bool) (hko : ∀ d, 3 ≤ d → z_C d mi_X6_keepsOther [.ref (19 + 8 * s), .long ((7 <<< ((nI l).toInt64 &&& 63)) &&& (((1 : Int64) <<< ((nI (l + 2)).toInt64 &&& 63)) ^^^ (-1))), .long (((1 : Int64) <<< ((nI (l + 2)).toInt64 &&& 63)) ||| oeL2 l)] μ (zR μ (.int (nB ko)))) => gc_run d (by omega) μ s q l hs hq3 H.2.2.2.1 hl (by rw [show zl 0 = 2 from by decide]; omega) t (l + 2) ((t + 1) % 4) ((t + 2) % 4) ((t + 3) % 4) _ _ _ ht4 P.tx hc cx rfl (Nat.mod_lt _ (by decide)) (hW ((t + 1) % 4) (Nat.mod_lt _ (by decide))).1 rfl (Nat.mod_lt _ (by decide)) (hW ((t + 2) % 4) (Nat.mod_lt _ (by decide))).1 rfl (Nat.mod_lt _ (by decide)) (hW ((t + 3) % 4) (Nat.mod_lt _ (by decide))).1 true hx1 true (sr_x hsr) (oeL2 l) (oe_x cx (oe_eq2 l (by omega))) ko hko
  rw [fsu, d1, d2, d3, d4, d5, xa, xb, fa, fb] at cc
  simp only [cond_true, cond_false] at cc
  have mm : ∀ (kk : Bool), kA (koF μ s (usL2 l) (bsL2 l)) 34 = kk → ∀ μ1, LJ μ1 → EqM μ μ1 → EqB μ (ruM2 μ1 s l) ∧ z_C d mi_X7_run [.ref 50, .int (nI s), .int (nI l)] μ1 (fun r μ' => (ruC2 μ1 s l ((t + 1) % 4) true true kk = true ∧ r = some (.int 1) ∧ SMj (ruO2 (ovF (ruM2 μ1 s l) t (l + 2) W) s l q) μ') ∨ (ruC2 μ1 s l ((t + 1) % 4) true true kk = false ∧ r = some (.int 0) ∧ (μ' = z_ui μ1 50 0 0 ∨ μ' = ruM2 μ1 s l))) := fun kk hk μ1 h1 qM => by
    have E : ∀ r k', gMc r k' → μ1.1 r k' = μ.1 r k' := fun r k' g => (qM r k' g).1
    have eB : EqB μ (ruM2 μ1 s l) := eB_tr (eB_M qM) (eB_tr (eB_0 μ1 0) (eB_tr (eB_50 _ _ _) (eB_g4 (by omega) (by decide))))
    have hA' : a_H (ruM2 μ1 s l) := a_H_ui (a_H_ui (a_H_ui (a_H_ui (a_H_ui (a_H_ui (a_H_ui h1.1.1 (bI_top _)) (bI_top _)) (bI_top _)) (bI_top _)) (bI_top _)) (bI_top _)) (bI_top _)
    have P' := P.cgB eB (by decide)
    have ov := ov_go (hW.m (eB_SE eB)) hA' ht4 P'.tm (P'.cm.trans (if_neg (by omega)))
    exact ⟨eB, gm_run2 d (by omega) μ1 s q l t ((t + 1) % 4) hs (by omega) hl ht4 ((E 50 45 (Or.inr ⟨rfl, by decide, by decide⟩)).trans P.tm) rfl hu4 ((E 50 49 (Or.inr ⟨rfl, by decide, by decide⟩)).trans cm) true (mC_m hs ((mMC_e qM).trans hm)) true (sr_m hsr) kk (cdK kk hk μ1 qM) (ovF (ruM2 μ1 s l) t (l + 2) W) ov ((ovF_o (by decide) (by decide) (Or.inr ⟨by decide, by decide⟩)).trans (P'.cm.trans (if_neg (by omega)))) (((ovF_o (by decide) (by decide) (Or.inl (by decide))).trans (eB 64 s (Or.inl ⟨by decide, by decide⟩) (by omega)).1).trans H.1.2.1)⟩
  cases hk : kA (koF μ s (usL2 l) (bsL2 l)) 34 with
  | true =>
    have c1 := cc true (fun d hd => by rw [← hk]; exact gc_keepsOther d (by omega) μ s hs _ _)
    simp only [cond_true, cond_false] at c1
    refine go_yes (X := z_uj (tkS μ s l q 0 t (l + 2) ((t + 1) % 4) ((t + 2) % 4) ((t + 3) % 4) (bw (W ((t + 1) % 4)) (l + 2)) (bw (W ((t + 2) % 4)) (l + 2)) (bw (W ((t + 3) % 4)) (l + 2))) 0 18 (((1 : Int64) <<< ((nI (l + 2)).toInt64 &&& 63)) ||| oeL2 l)) (y := 1) kx km (z_C_mono c1 (fun r μ' z => ⟨z.1, by rw [z.2]; exact eqX_rf _⟩)) (fun μ1 h1 qM => ?_)
    obtain ⟨eB, z⟩ := mm true hk μ1 h1 qM
    refine z_C_mono z (fun r μ' z => ?_)
    have E : ∀ r k', gMc r k' → μ1.1 r k' = μ.1 r k' := fun r k' g => (qM r k' g).1
    rcases z with ⟨-, z2, z3⟩ | ⟨z1, -, -⟩
    · refine ⟨z2, ?_⟩
      have e50 : (ruM2 μ1 s l).1 50 50 = nI (l + 2) := by unfold ruM2; rw [giv_o (by decide), giv_o (by decide), giv_o (by decide), giv_o (by decide), ui_k (by decide), ui_s]
      have e51 : (ruM2 μ1 s l).1 50 51 = abL2 l := by unfold ruM2; rw [giv_o (by decide), giv_o (by decide), giv_o (by decide), giv_o (by decide), ui_s]; rfl
      revert eB z3 e50 e51
      generalize (ruM2 μ1 s l) = M
      intro eB z3 e50 e51
      have R' := R.cgB eB
      have P' := P.cgB eB (by decide)
      obtain ⟨RO, QO, fO⟩ := ov_rq (W := W) R' P' (Or.inl rfl) (fun j hj => (eB 71 j (Or.inl ⟨by decide, by decide⟩) (by omega)).1.trans (hsy j hj))
      rw [if_pos rfl] at QO
      have o64 : ∀ j, (ovF M t (l + 2) W).1 64 j = μ.1 64 j := fun j => (ovF_o (by decide) (by decide) (Or.inl (by decide))).trans (eB 64 j (Or.inl ⟨by decide, by decide⟩) (by omega)).1
      have g := rg_run2 (bs := bsL2 l) RO QO fO hs (by omega) ((sr_iff _).mp hsr) hq3 ((o64 s).trans H.1.2.1) (fun j hj => by rw [o64]; exact m4_of hA j hj) (by rw [ovF_o (by decide) (by decide) (Or.inr ⟨by decide, by decide⟩), ovF_o (by decide) (by decide) (Or.inr ⟨by decide, by decide⟩), e50, e51]; exact bs_eq2 l (by omega) hsr) ⟨(l + 2), hc, (ovF_o (by decide) (by decide) (Or.inr ⟨by decide, by decide⟩)).trans e50, by rw [ovF_o (by decide) (by decide) (Or.inr ⟨by decide, by decide⟩), e51]; exact ab_k2 l (by omega) hsr⟩
      exact RG.cg (eqX_rf _) (sm_EqM z3) g
    · exfalso
      unfold ruC2 at z1
      rw [fsu, E 60 _ (Or.inl ⟨by decide, by decide⟩), hwa.1, fa, E 60 _ (Or.inl ⟨by decide, by decide⟩), hwb.1, fb] at z1
      cases z1
  | false =>
    have c1 := cc false (fun d hd => by rw [← hk]; exact gc_keepsOther d (by omega) μ s hs _ _)
    simp only [cond_true, cond_false] at c1
    refine go_yes (X := μ) (y := 0) kx km (z_C_mono c1 (fun r μ' z => ⟨z.1, by rw [z.2]; exact eqX_rf _⟩)) (fun μ1 h1 qM => ?_)
    obtain ⟨eB, z⟩ := mm false hk μ1 h1 qM
    refine z_C_mono z (fun r μ' z => ?_)
    rcases z with ⟨z1, -, -⟩ | ⟨-, z2, z3⟩
    · exfalso
      unfold ruC2 at z1
      rw [Bool.and_false] at z1
      cases z1
    · refine ⟨z2, ?_⟩
      rcases z3 with z3 | z3
      · rw [z3]; exact RG.cgB2 R P (eB_tr (eB_M qM) (eB_0 μ1 0))
      · rw [z3]; exact RG.cgB2 R P eB
theorem lg_run {d : Nat} (hd : 705 ≤ d) {μ : zM} (h : LGm μ) (y x : Int32) : GO d mi_X6_run mi_X7_run [.ref 0, .int y, .int x] [.ref 50, .int y, .int x] μ := by
  obtain ⟨hJ, hR⟩ := h
  have kx : z_C d mi_X6_run [.ref 0, .int y, .int x] μ (fun _ μ' => LJ μ' ∧ EqM μ μ') := lg_k (i := 61) (K := ak_61) rfl (by omega) (by decide +kernel) (by decide +kernel) rfl (by decide +kernel) [.ref 0, .int y, .int x] μ hJ ⟨⟨0, by decide, rfl⟩, ⟨_, rfl, bI_top _⟩, ⟨_, rfl, bI_top _⟩, trivial⟩
  have km : ∀ μ1, LJ μ1 → z_C d mi_X7_run [.ref 50, .int y, .int x] μ1 (fun _ μ' => LJ μ' ∧ EqX μ1 μ') := fun μ1 h1 => lg_g h1 (fc_X7_run d (by omega) μ1 y x h1.1)
  have hA := hJ.1.1
  by_cases hy : vp_in y 4
  · obtain ⟨s, hs, rfl⟩ := vp_in_of hy (by decide)
    have eq := mc_eq hR hs
    cases hm : mMC μ s with
    | false => exact go_no hR kx km (gx_run d (by omega) μ _ _ (mC_x hs (eq.trans hm))) (mr_run d (by omega) μ _ _ (mC_m hs hm))
    | true =>
      have hx1 := mC_x hs (eq.trans hm)
      have hm1 := mC_m hs hm
      obtain ⟨t, c, P, hc, hsy, -⟩ := mc_in hR hm
      have ht4 := P.t4
      have hu4 : (t + 1) % 4 < 4 := by omega
      have cx : μ.1 0 15 = nI c := P.cx.trans (if_neg (by omega))
      have cm : μ.1 50 49 = nI c := P.cm.trans (if_neg (by omega))
      by_cases hsu : s = (t + 1) % 4
      · have fsu : decide (nI s = nI ((t + 1) % 4)) = true := decide_eq_true (by rw [hsu])
        cases hsr : srB x with
        | false => exact go_no hR kx km (gx_runR d (by omega) μ s hs x t _ ht4 P.tx rfl hu4 hx1 fsu (sr_x hsr)) (mr_runR d (by omega) μ s hs x t _ ht4 P.tm rfl hu4 hm1 fsu (sr_m hsr))
        | true =>
          obtain ⟨l, hl, rfl⟩ := sr_nat x hsr
          by_cases h1 : c < l
          · have f1 : decide (nI c < nI l) = true := (nI_lt2 (by omega) (by omega)).trans (decide_eq_true h1)
            exact go_no hR kx km (gx_runL d (by omega) μ s l c hs (by omega) cx t _ ht4 P.tx rfl hu4 hx1 fsu (sr_x hsr) f1) (mr_runL d (by omega) μ s l c hs (by omega) cm t _ ht4 P.tm rfl hu4 hm1 fsu (sr_m hsr) f1)
          · have f1 : decide (nI c < nI l) = false := (nI_lt2 (by omega) (by omega)).trans (decide_eq_false h1)
            by_cases h2 : c ≤ l + 2
            · obtain e | e | e : c = l ∨ c = l + 1 ∨ c = l + 2 := by omega
              · subst e; exact lg_run0 hd hJ hR hs (by omega) hsr P hsu hm hsy kx km
              · subst e; exact lg_run1 hd hJ hR hs (by omega) hsr P hsu hm hsy kx km
              · subst e; exact lg_run2 hd hJ hR hs (by omega) hsr P hsu hm hsy kx km
            · have f2 : decide (nI c ≤ nI (l + 2)) = false := (nI_le2 (by omega) (by omega)).trans (decide_eq_false h2)
              exact go_no hR kx km (gx_runG d (by omega) μ s l c hs (by omega) cx t _ ht4 P.tx rfl hu4 hx1 fsu (sr_x hsr) f1 f2) (mr_runG d (by omega) μ s l c hs (by omega) cm t _ ht4 P.tm rfl hu4 hm1 fsu (sr_m hsr) f1 f2)
      · have fsu : decide (nI s = nI ((t + 1) % 4)) = false := decide_eq_false (fun e => hsu ((nI_eq (by omega) (by omega)).mp e))
        exact go_no hR kx km (gx_runS d (by omega) μ s hs x t _ ht4 P.tx rfl hu4 hx1 fsu) (mr_runS d (by omega) μ s hs x t _ ht4 P.tm rfl hu4 hm1 fsu)
  · exact go_no hR kx km (gx_run d (by omega) μ y x (fun d hd => z_C_mono (gx_mayClaim d (by omega) μ y (isS_x hy)) (fun r m z => ⟨z.2, z.1⟩))) (mr_run d (by omega) μ y x (fun d hd => z_C_mono (mr_mayClaim d (by omega) _ y (isS_no hy)) (fun r m z => ⟨z.2, z.1⟩)))
/-! discard answers alike -/
set_option maxRecDepth 8000
theorem hd_or (a b : Int64) {k : Nat} (hk : k < 34) : xHd (a ||| b) (nI k) = (xHd a (nI k) || xHd b (nI k)) := by
  unfold xHd
  rw [kn_l0 (by omega), kn_le (m := 34) rfl (by omega) hk, shu_bit _ hk, shu_bit _ hk, shu_bit _ hk, Int64.toBitVec_or, BitVec.getLsbD_or]
  cases a.toBitVec.getLsbD k <;> cases b.toBitVec.getLsbD k <;> decide
theorem bar_hd {m : zM} {k : Nat} (hk : k < 34) (h : m.1 50 57 = 0 ∨ (¬ m.1 50 57 = 0 ∧ BN m)) : xHd (barM m) (nI k) = (!decide (m.1 50 57 = 0) && (decide (nI k = m.1 50 50) || decide (nI k = m.1 50 51))) := by
  unfold barM
  rcases h with h | ⟨h, b, hb, e50, h51⟩
  · rw [decide_eq_true h, cond_true, hd_zero k hk]; rfl
  · rw [decide_eq_false h, cond_false, hd_or _ _ hk, e50, hd_one b hb k hk, nI_dec hk hb, Bool.not_false, Bool.true_and]
    rcases h51 with h51 | ⟨e, he, h51⟩
    · rw [h51, show decide ((-1 : Int32) = -1) = true from by decide, cond_true, hd_zero k hk, nI_m1n hk]
    · rw [h51, nI_m1n he, cond_false, hd_one e he k hk, nI_dec hk he]
theorem dc0_tree {α : Type} (A J B1 B2 Z T : Bool) (y n : α) : (bif A then n else (bif J then (bif Z then y else (bif T then y else n)) else (bif B1 then n else (bif B2 then n else (bif Z then y else (bif T then y else n)))))) = (bif (!A && (!(!J && (B1 || B2)) && (Z || T))) then y else n) := by
  cases A <;> cases J <;> cases B1 <;> cases B2 <;> cases Z <;> cases T <;> rfl
theorem dc1_tree (A J B1 B2 Z T r : Bool) : (!A && (bif J then (Z && r) else (!B1 && (!B2 && (Z && r))))) = ((!A && (!(!J && (B1 || B2)) && (Z || T))) && (Z && r)) := by
  cases A <;> cases J <;> cases B1 <;> cases B2 <;> cases Z <;> cases T <;> cases r <;> rfl
/-- may a tile be discarded: the reference's words -/
noncomputable def dcT (m : zM) (t k : Nat) : Bool := !decide (m.1 60 (34 * t + k) = 0) && (!(!decide (m.1 50 57 = 0) && (decide (nI k = m.1 50 50) || decide (nI k = m.1 50 51))) && (decide (m.1 67 t ≤ 0) || decide (nI k = m.1 50 49)))
theorem bet_le {x m : zM} (R : RCl x m) {t : Nat} (ht : t < 4) : decide (m.1 67 t ≤ 0) = decide (m.1 67 t = 0) := by
  rcases R.bb t ht with e | e | e <;> (rw [e]; decide)
theorem mt_eq {x m : zM} {t c k : Nat} (R : RCl x m) (P : RPh x m 1 t c) (hk : k < 34) : (!(decide ((fr x (20 + 8 * t) (nI k)) = 0)) && (!(xHd (x.2.1 0 18) (nI k)) && ((decide ((x.1 (18 + 8 * t) 5) = 0)) || (decide ((nI k) = (x.1 0 15)))))) = dcT m t k := by
  have hb : m.1 50 57 = 0 ∨ (¬ m.1 50 57 = 0 ∧ BN m) := by
    rcases P.c3 with q | ⟨q, _⟩
    · left; rw [P.jc rfl, if_neg (by omega)]
    · right; exact ⟨by rw [P.jc rfl, if_pos q]; decide, (P.bn rfl q).1⟩
  unfold dcT
  rw [P.ba rfl, bar_hd hk hb, fr_yes hk, R.hd t k P.t4 hk, R.be t P.t4, P.cx.trans P.cm.symm, bet_le R P.t4]
theorem rv86 {μ : zM} {a : Nat} (hP : GP μ) (hH : a_H μ) (ha : a < 4) (y1 : μ.1 50 44 = 1) : ∃ rr, rr < 86 ∧ μ.1 66 a = nI rr := by
  have g6 := hP.2.2.2.2.2
  have g2 := hP.2.1
  have g3 : (μ.1 50 48).toInt = (μ.1 50 47).toInt := by rw [hP.2.2.1]
  rw [if_pos y1] at g6
  have m : ∀ s, mI μ s ≤ 4 := fun s => (hH 64 s).2
  have r : ∀ s, 0 ≤ rI μ s := fun s => (hH 66 s).1
  have m0 := m 0
  have m1 := m 1
  have m2 := m 2
  have m3 := m 3
  have r0 := r 0
  have r1 := r 1
  have r2 := r 2
  have r3 := r 3
  unfold sM sR at g6
  have hb : rI μ a < 86 := by
    rcases (show a = 0 ∨ a = 1 ∨ a = 2 ∨ a = 3 by omega) with rfl | rfl | rfl | rfl <;> omega
  exact a_nI (x := μ.1 66 a) (n := 86) (r a) hb (by decide)
theorem HF.aw {x m : zM} {s : Nat} {w aw : Nat → Nat} {q : Nat} {sL lL : Nat → Nat} (H : HF x m s w aw q sL lL) {k : Nat} (hk : k < 34) : ∃ e, aw k = w k + e := by
  obtain ⟨h1, h2, h3, h4, h5, h6, h7, h8⟩ := H
  obtain ⟨e, z1, z2⟩ := ofv_nat (so := fun i => m.1 62 (4 * s + i)) (lo := fun i => m.1 63 (4 * s + i)) (k := nI k) (w := w k) q
  have a := h6 k hk
  have b := (h1.1 k hk).2
  have c := h1.2.2.1
  exact ⟨e, (nI_eq (by omega) (by omega)).mp ((h8 k hk).trans z2)⟩
theorem all_ne {x m : zM} {s : Nat} {w aw : Nat → Nat} {q : Nat} {sL lL : Nat → Nat} (H : HF x m s w aw q sL lL) {k : Nat} (hk : k < 34) (h : 1 ≤ w k) : ¬ x.1 (21 + 8 * s) k = 0 := by
  obtain ⟨e, z⟩ := H.aw hk
  have a := H.2.2.1 k hk
  have b := H.2.2.2.2.2.1 k hk
  rw [a.1]
  intro y
  have := (nI_eq (a := aw k) (b := 0) (by omega) (by decide)).mp y
  omega
noncomputable def tk1 (w : Nat → Nat) (k : Nat) : Nat → Nat := fun j => if j = k then w j - 1 else w j
theorem nI_p {n : Nat} (h : 1 ≤ n) : nI n + -1 = nI (n - 1) := by
  obtain ⟨v, rfl⟩ : ∃ v, n = v + 1 := ⟨n - 1, by omega⟩
  rw [← nI_s1, Int32.add_assoc, show (1 : Int32) + -1 = 0 from by decide, Int32.add_zero, Nat.add_sub_cancel]
theorem ofv_p {a b k : Int32} {so lo : Nat → Int32} : ∀ n, ofv (a + b) so lo k n = ofv a so lo k n + b
  | 0 => rfl
  | n + 1 => by
    show ofv (a + b) so lo k n + ct (so n) (lo n) k = ofv a so lo k n + ct (so n) (lo n) k + b
    rw [ofv_p n, Int32.add_assoc, Int32.add_comm b, ← Int32.add_assoc]
theorem tk1_s {w : Nat → Nat} {k : Nat} : tk1 w k k = w k - 1 := if_pos rfl
theorem tk1_o {w : Nat → Nat} {k j : Nat} (h : j ≠ k) : tk1 w k j = w j := if_neg h
theorem sn_tk1 {w : Nat → Nat} {k : Nat} (hk : k < 34) (h : 1 ≤ w k) : sn w 34 = sn (tk1 w k) 34 + 1 := by
  rw [← sn_ad1 (w := tk1 w k) hk]
  refine sn_congr9 34 (fun i _ => ?_)
  unfold ad1
  by_cases e : i = k
  · subst e; rw [if_pos rfl, tk1_s]; omega
  · rw [if_neg e, tk1_o e]
theorem hf_take {x m : zM} {s : Nat} {w aw : Nat → Nat} {q : Nat} {sL lL : Nat → Nat} (H : HF x m s w aw q sL lL) (hs : s < 4) {k : Nat} (hk : k < 34) (h1 : 1 ≤ w k) : HF (pS x s k (-1)) (z_giv m s k (-1)) s (tk1 w k) (tk1 aw k) q sL lL := by
  obtain ⟨e, he⟩ := H.aw hk
  obtain ⟨g1, g2, g3, g4, g5, g6, g7, g8⟩ := H
  refine ⟨⟨fun j hj => ?_, ?_, g1.2.2.1, fun j hj => ?_⟩, fun j hj => ?_, fun j hj => ?_, ?_, fun hq j hj => ?_, fun j hj => ?_, ?_, fun j hj => ?_⟩
  · rw [giv_60]
    by_cases e2 : j = k
    · subst e2; rw [if_pos rfl, (g1.1 j hj).1, nI_p h1, tk1_s]; exact ⟨rfl, by have := (g1.1 j hj).2; omega⟩
    · rw [if_neg (by omega), tk1_o e2]; exact g1.1 j hj
  · rw [giv_o (by decide)]; exact g1.2.1
  · rw [giv_o (by decide), giv_o (by decide)]; exact g1.2.2.2 j hj
  · unfold pS
    by_cases e2 : j = k
    · subst e2; simp (disch := first | decide | exact ad_ne (by decide) | exact ad_m (by decide) | exact ad_l (by decide) | exact ad_g (by decide) | exact ad_lt (by decide) | exact ad_o (by decide) | omega) only [↓ui_s, ↓ui_o, ↓ui_k, ui_s, ui_o, ui_k]; rw [(g2 j hj).1, nI_p h1, tk1_s]; exact ⟨rfl, by have := (g2 j hj).2; omega⟩
    · simp (disch := first | decide | exact ad_ne (by decide) | exact ad_m (by decide) | exact ad_l (by decide) | exact ad_g (by decide) | exact ad_lt (by decide) | exact ad_o (by decide) | omega) only [↓ui_s, ↓ui_o, ↓ui_k, ui_s, ui_o, ui_k]; rw [tk1_o e2]; exact g2 j hj
  · unfold pS
    by_cases e2 : j = k
    · subst e2; simp (disch := first | decide | exact ad_ne (by decide) | exact ad_m (by decide) | exact ad_l (by decide) | exact ad_g (by decide) | exact ad_lt (by decide) | exact ad_o (by decide) | omega) only [↓ui_s, ↓ui_o, ↓ui_k, ui_s, ui_o, ui_k]; rw [(g3 j hj).1, nI_p (by omega), tk1_s]; exact ⟨rfl, by have := (g3 j hj).2; omega⟩
    · simp (disch := first | decide | exact ad_ne (by decide) | exact ad_m (by decide) | exact ad_l (by decide) | exact ad_g (by decide) | exact ad_lt (by decide) | exact ad_o (by decide) | omega) only [↓ui_s, ↓ui_o, ↓ui_k, ui_s, ui_o, ui_k]; rw [tk1_o e2]; exact g3 j hj
  · unfold pS; simp (disch := first | decide | exact ad_ne (by decide) | exact ad_m (by decide) | exact ad_l (by decide) | exact ad_g (by decide) | exact ad_lt (by decide) | exact ad_o (by decide) | omega) only [↓ui_s, ↓ui_o, ↓ui_k, ui_s, ui_o, ui_k]; exact g4
  · unfold tk1; rw [g5 hq j hj]
  · by_cases e2 : j = k
    · subst e2; rw [tk1_s]; have := g6 j hj; omega
    · rw [tk1_o e2]; exact g6 j hj
  · unfold pS; rw [ui_s, g7, sn_tk1 hk h1, nI_p (by omega), Nat.add_sub_cancel]
  · rw [show (fun i => (z_giv m s k (-1)).1 62 (4 * s + i)) = (fun i => m.1 62 (4 * s + i)) from funext fun i => giv_o (by decide), show (fun i => (z_giv m s k (-1)).1 63 (4 * s + i)) = (fun i => m.1 63 (4 * s + i)) from funext fun i => giv_o (by decide)]
    by_cases e2 : j = k
    · subst e2; rw [tk1_s, tk1_s, ← nI_p h1, ofv_p, ← g8 j hj, nI_p (by omega)]
    · rw [tk1_o e2, tk1_o e2]; exact g8 j hj
theorem pS_back {x : zM} {s k : Nat} (hs : s < 4) : EqX x (pS (pS x s k (-1)) s k 1) := fun r k' _ => ⟨by
  have z : ∀ v : Int32, v + -1 + 1 = v := fun v => by rw [Int32.add_assoc, show (-1 : Int32) + 1 = 0 from by decide, Int32.add_zero]
  unfold pS
  by_cases e1 : r = 20 + 8 * s
  · subst e1
    by_cases e2 : k' = k
    · subst e2; simp (disch := first | decide | exact ad_ne (by decide) | exact ad_m (by decide) | exact ad_l (by decide) | exact ad_g (by decide) | exact ad_lt (by decide) | exact ad_o (by decide) | omega) only [↓ui_s, ↓ui_o, ↓ui_k, ui_s, ui_o, ui_k]; exact z _
    · simp (disch := first | decide | exact ad_ne (by decide) | exact ad_m (by decide) | exact ad_l (by decide) | exact ad_g (by decide) | exact ad_lt (by decide) | exact ad_o (by decide) | omega) only [↓ui_s, ↓ui_o, ↓ui_k, ui_s, ui_o, ui_k]
  · by_cases e1 : r = 21 + 8 * s
    · subst e1
      by_cases e2 : k' = k
      · subst e2; simp (disch := first | decide | exact ad_ne (by decide) | exact ad_m (by decide) | exact ad_l (by decide) | exact ad_g (by decide) | exact ad_lt (by decide) | exact ad_o (by decide) | omega) only [↓ui_s, ↓ui_o, ↓ui_k, ui_s, ui_o, ui_k]; exact z _
      · simp (disch := first | decide | exact ad_ne (by decide) | exact ad_m (by decide) | exact ad_l (by decide) | exact ad_g (by decide) | exact ad_lt (by decide) | exact ad_o (by decide) | omega) only [↓ui_s, ↓ui_o, ↓ui_k, ui_s, ui_o, ui_k]
    · by_cases e1 : r = 19 + 8 * s
      · subst e1
        by_cases e2 : k' = 5
        · subst e2; simp (disch := first | decide | exact ad_ne (by decide) | exact ad_m (by decide) | exact ad_l (by decide) | exact ad_g (by decide) | exact ad_lt (by decide) | exact ad_o (by decide) | omega) only [↓ui_s, ↓ui_o, ↓ui_k, ui_s, ui_o, ui_k]; exact z _
        · simp (disch := first | decide | exact ad_ne (by decide) | exact ad_m (by decide) | exact ad_l (by decide) | exact ad_g (by decide) | exact ad_lt (by decide) | exact ad_o (by decide) | omega) only [↓ui_s, ↓ui_o, ↓ui_k, ui_s, ui_o, ui_k]
      · simp (disch := first | decide | exact ad_ne (by decide) | exact ad_m (by decide) | exact ad_l (by decide) | exact ad_g (by decide) | exact ad_lt (by decide) | exact ad_o (by decide) | omega) only [↓ui_s, ↓ui_o, ↓ui_k, ui_s, ui_o, ui_k], rfl⟩
/-- may the hand bet: the reference's words -/
noncomputable def mbF (m : zM) (t qs : Nat) (wt : Int64) : Bool := decide (m.1 67 t ≤ 0) && (!kA (ioF m t) qs && (!decide (m.1 61 t < 1000) && (decide (4 ≤ 122 - m.1 50 47 - m.1 50 46) && !decide (lg_cmp wt 0 = 0))))
theorem lt_nle (a b : Int32) : (!decide (a < b)) = decide (b ≤ a) := by
  by_cases h : a < b
  · rw [decide_eq_true h, decide_eq_false (fun e => absurd (Int32.lt_iff_toInt_lt.mp h) (by have := Int32.le_iff_toInt_le.mp e; omega))]; rfl
  · rw [decide_eq_false h, decide_eq_true (Int32.le_iff_toInt_le.mpr (by have z : ¬ a.toInt < b.toInt := fun q => h (Int32.lt_iff_toInt_lt.mpr q); omega))]; rfl
theorem mb_x {x m : zM} {t c k : Nat} {w aw : Nat → Nat} {qs : Nat} {sL lL : Nat → Nat} (R : RCl x m) (P : RPh x m 1 t c) (H : HF x m t w aw qs sL lL) (hk : k < 34) (h1 : 1 ≤ w k) {wt : Int64} (hwt : ∀ μ1, TE (pS x t k (-1)) μ1 → ∀ d, 7 ≤ d → z_C d mi_X3_waiting [.ref (19 + 8 * t)] μ1 (zR μ1 (.long wt))) : ∀ d, 8 ≤ d → z_C d mi_X6_mayBet [.ref 0, .ref (18 + 8 * t)] (pS x t k (-1)) (zR (pS x t k (-1)) (.int (nB (mbF m t qs wt)))) := fun d hd => by
  have ht := P.t4
  have z := gc_mayBet d hd (pS x t k (-1)) t ht qs H.1.2.2.1 (by unfold pS; simp (disch := first | decide | exact ad_ne (by decide) | exact ad_m (by decide) | exact ad_l (by decide) | exact ad_g (by decide) | exact ad_lt (by decide) | exact ad_o (by decide) | omega) only [↓ui_s, ↓ui_o, ↓ui_k, ui_s, ui_o, ui_k]; exact H.2.2.2.1) wt (fun d hd => hwt _ (fun _ _ _ _ _ _ => rfl) d hd)
  have e5 : (pS x t k (-1)).1 (18 + 8 * t) 5 = m.1 67 t := by unfold pS; simp (disch := first | decide | exact ad_ne (by decide) | exact ad_m (by decide) | exact ad_l (by decide) | exact ad_g (by decide) | exact ad_lt (by decide) | exact ad_o (by decide) | omega) only [↓ui_s, ↓ui_o, ↓ui_k, ui_s, ui_o, ui_k]; exact R.be t ht
  have e4 : (pS x t k (-1)).1 (18 + 8 * t) 4 = m.1 61 t := by unfold pS; simp (disch := first | decide | exact ad_ne (by decide) | exact ad_m (by decide) | exact ad_l (by decide) | exact ad_g (by decide) | exact ad_lt (by decide) | exact ad_o (by decide) | omega) only [↓ui_s, ↓ui_o, ↓ui_k, ui_s, ui_o, ui_k]; exact R.pt t ht
  have eo : (pS x t k (-1)).1 (22 + 8 * t) = x.1 (22 + 8 * t) := by
    funext i; unfold pS; simp (disch := first | decide | exact ad_ne (by decide) | exact ad_m (by decide) | exact ad_l (by decide) | exact ad_g (by decide) | exact ad_lt (by decide) | exact ad_o (by decide) | omega) only [↓ui_s, ↓ui_o, ↓ui_k, ui_s, ui_o, ui_k]
  have el : xLf (pS x t k (-1)) = 122 - m.1 50 47 - m.1 50 46 := by
    unfold xLf pS
    simp (disch := first | decide | exact ad_ne (by decide) | exact ad_m (by decide) | exact ad_l (by decide) | exact ad_g (by decide) | exact ad_lt (by decide) | exact ad_o (by decide) | omega) only [↓ui_s, ↓ui_o, ↓ui_k, ui_s, ui_o, ui_k]
    rw [R.sd, P.is, P.fo, R.nx, show decide ((1 : Int32) = 0) = false from by decide, cond_false]
  rw [e5, e4, eo, el, open_eq R ht qs H.1.2.2.1, lt_nle _ 4, ← bet_le R ht] at z
  exact z
theorem lg_disc0 {d : Nat} (hd : 705 ≤ d) {μ : zM} (h : LGm μ) (x : Int32) : GO d mi_X6_discard mi_X7_discard [.ref 0, .int x, .int 0] [.ref 50, .int x, .int 0] μ := by
  obtain ⟨hJ, hR⟩ := h
  have kx : z_C d mi_X6_discard [.ref 0, .int x, .int 0] μ (fun _ μ' => LJ μ' ∧ EqM μ μ') := lg_k (i := 59) (K := ak_59) rfl (by omega) (by decide +kernel) (by decide +kernel) rfl (by decide +kernel) [.ref 0, .int x, .int 0] μ hJ ⟨⟨0, by decide, rfl⟩, ⟨_, rfl, bI_top _⟩, ⟨_, rfl, by decide, by decide⟩, trivial⟩
  have km : ∀ μ1, LJ μ1 → z_C d mi_X7_discard [.ref 50, .int x, .int 0] μ1 (fun _ μ' => LJ μ' ∧ EqX μ1 μ') := fun μ1 h1 => lg_g h1 (fc_X7_discard d (by omega) μ1 x 0 ⟨by decide, by decide⟩ h1.1)
  have hA := hJ.1.1
  rcases hR.2 with ⟨p1, p2, -, -, -⟩ | ⟨p, t, c, P⟩
  · exact go_no hR kx km (gx_discP d (by omega) μ x 0 (by rw [p1]; decide)) (mr_discP d (by omega) μ x 0 (by rw [p2]; decide))
  · by_cases hp : p = 1
    · subst hp
      have R := hR.1
      have ht4 := P.t4
      have hp1 : μ.1 50 44 = 1 := P.pm
      have G := hJ.1.2.2 (by rw [hp1]; decide)
      by_cases hv : vp_in x 34
      · obtain ⟨k, hk, rfl⟩ := vp_in_of hv (by decide)
        obtain ⟨q, hq, e66⟩ := rv86 G hA ht4 hp1
        obtain ⟨w, aw, qs, sL, lL, H⟩ := hf_of R P hA G ht4
        have hmt : ∀ d, 3 ≤ d → z_C d mi_X6_mayThrow [.ref 0, .int (nI k)] μ (zR μ (.int (nB (dcT μ t k)))) := fun d hd => by
          rw [← mt_eq R P hk]; exact gc_mayThrow d hd μ t ht4 P.tx (nI k)
        have E : ∀ μ1, EqM μ μ1 → ∀ r k', gMc r k' → μ1.1 r k' = μ.1 r k' := fun μ1 qM r k' g => (qM r k' g).1
        have dE : ∀ μ1, EqM μ μ1 → dcT μ1 t k = dcT μ t k := fun μ1 qM => by
          unfold dcT
          rw [E μ1 qM 60 _ (Or.inl ⟨by decide, by decide⟩), E μ1 qM 67 t (Or.inl ⟨by decide, by decide⟩), E μ1 qM 50 57 (Or.inr ⟨rfl, by decide, by decide⟩), E μ1 qM 50 50 (Or.inr ⟨rfl, by decide, by decide⟩), E μ1 qM 50 51 (Or.inr ⟨rfl, by decide, by decide⟩), E μ1 qM 50 49 (Or.inr ⟨rfl, by decide, by decide⟩)]
        have cm : ∀ μ1, EqM μ μ1 → z_C d mi_X7_discard [.ref 50, .int (nI k), .int 0] μ1 (fun r μ' => r = some (bif dcT μ t k then .int 1 else .int 0) ∧ μ' = (bif dcT μ t k then dY0 (z_ui μ1 50 0 0) t k q else z_ui μ1 50 0 0)) := fun μ1 qM => by
          have z := gm_discard0 d (by omega) μ1 t ht4 ((E μ1 qM 50 45 (Or.inr ⟨rfl, by decide, by decide⟩)).trans P.tm) k q hk (by omega) ((E μ1 qM 66 t (Or.inl ⟨by decide, by decide⟩)).trans e66)
          rw [E μ1 qM 50 44 (Or.inr ⟨rfl, by decide, by decide⟩), hp1, show decide ((1 : Int32) = 1) = true from by decide] at z
          simp only [cond_true] at z
          rw [dc0_tree, dc0_tree] at z
          rw [← dE μ1 qM]
          exact z
        cases hT : dcT μ t k with
        | true =>
          have hw1 : 1 ≤ w k := by
            rcases Nat.eq_zero_or_pos (w k) with e | e
            · exfalso
              unfold dcT at hT
              rw [(H.1.1 k hk).1, e, show decide (nI 0 = 0) = true from by decide] at hT
              cases hT
            · exact e
          have H' := hf_take H ht4 hk hw1
          have hwx := cw_wait H' ht4
          have hmb := mb_x R P H hk hw1 hwx
          have hal := all_ne H hk hw1
          have cc := gc_discard d (by omega) μ t ht4 P.tx k q hk hq ((R.ds t ht4).trans e66) false (dcT μ t k) hmt _ hmb
          rw [hT, P.px, show decide (nI 1 = 1) = true from by decide, show nB false = 0 from rfl] at cc
          simp only [cond_true, cond_false] at cc
          refine go_yes (X := dX0 μ t k q) (y := 1) kx km (z_C_mono cc (fun r μ' z => ⟨z.1, by rw [z.2]; exact eqX_rf _⟩)) (fun μ1 h1 qM => ?_)
          have z := cm μ1 qM
          rw [hT] at z
          simp only [cond_true, cond_false] at z
          refine z_C_mono z (fun r μ' z => ⟨z.1, ?_⟩)
          rw [z.2]
          have eM : EqM μ (z_ui μ1 50 0 0) := eqM_tr qM (t0_EqM μ1 0)
          have e6 : (z_ui μ1 50 0 0).1 66 t = nI q := (eM 66 t (Or.inl ⟨by decide, by decide⟩)).1.trans e66
          exact ⟨rc_discard0 (R.cg (eqX_rf _) eM) ht4 hk hq e6, Or.inr ⟨2, t, k, rp_discard0 (P.cg (eqX_rf _) eM) hk hq e6 hal⟩⟩
        | false =>
          have z := cm μ (eqM_rf _)
          rw [hT] at z
          simp only [cond_true, cond_false] at z
          exact go_no hR kx km (gx_discT d (by omega) μ (nI k) 0 (fun d hd => by have y := hmt d hd; rw [hT] at y; exact y)) z
      · exact go_no hR kx km (gx_discT d (by omega) μ x 0 (fun d hd => by
          have z := gc_mayThrow d (by omega) μ t ht4 P.tx x
          rw [fr_no hv] at z
          exact z)) (mr_discK d (by omega) μ x 0 (isK_no hv))
    · have e : ∀ v : Int32, v = nI p → decide (v = 1) = false := fun v hv => by
        rcases P.p3 with q | q | q
        · exact absurd q hp
        · rw [hv, q]; decide
        · rw [hv, q]; decide
      exact go_no hR kx km (gx_discP d (by omega) μ x 0 (e _ P.px)) (mr_discP d (by omega) μ x 0 (e _ P.pm))
theorem lg_disc1 {d : Nat} (hd : 705 ≤ d) {μ : zM} (h : LGm μ) (x : Int32) : GO d mi_X6_discard mi_X7_discard [.ref 0, .int x, .int 1] [.ref 50, .int x, .int 1] μ := by
  obtain ⟨hJ, hR⟩ := h
  have kx : z_C d mi_X6_discard [.ref 0, .int x, .int 1] μ (fun _ μ' => LJ μ' ∧ EqM μ μ') := lg_k (i := 59) (K := ak_59) rfl (by omega) (by decide +kernel) (by decide +kernel) rfl (by decide +kernel) [.ref 0, .int x, .int 1] μ hJ ⟨⟨0, by decide, rfl⟩, ⟨_, rfl, bI_top _⟩, ⟨_, rfl, by decide, by decide⟩, trivial⟩
  have km : ∀ μ1, LJ μ1 → z_C d mi_X7_discard [.ref 50, .int x, .int 1] μ1 (fun _ μ' => LJ μ' ∧ EqX μ1 μ') := fun μ1 h1 => lg_g h1 (fc_X7_discard d (by omega) μ1 x 1 ⟨by decide, by decide⟩ h1.1)
  have hA := hJ.1.1
  rcases hR.2 with ⟨p1, p2, -, -, -⟩ | ⟨p, t, c, P⟩
  · exact go_no hR kx km (gx_discP d (by omega) μ x 1 (by rw [p1]; decide)) (mr_discP d (by omega) μ x 1 (by rw [p2]; decide))
  · by_cases hp : p = 1
    · subst hp
      have R := hR.1
      have ht4 := P.t4
      have hp1 : μ.1 50 44 = 1 := P.pm
      have G := hJ.1.2.2 (by rw [hp1]; decide)
      by_cases hv : vp_in x 34
      · obtain ⟨k, hk, rfl⟩ := vp_in_of hv (by decide)
        obtain ⟨q, hq, e66⟩ := rv86 G hA ht4 hp1
        obtain ⟨w, aw, qs, sL, lL, H⟩ := hf_of R P hA G ht4
        have hmt : ∀ d, 3 ≤ d → z_C d mi_X6_mayThrow [.ref 0, .int (nI k)] μ (zR μ (.int (nB (dcT μ t k)))) := fun d hd => by
          rw [← mt_eq R P hk]; exact gc_mayThrow d hd μ t ht4 P.tx (nI k)
        have E : ∀ μ1, EqM μ μ1 → ∀ r k', gMc r k' → μ1.1 r k' = μ.1 r k' := fun μ1 qM r k' g => (qM r k' g).1
        have dE : ∀ μ1, EqM μ μ1 → dcT μ1 t k = dcT μ t k := fun μ1 qM => by
          unfold dcT
          rw [E μ1 qM 60 _ (Or.inl ⟨by decide, by decide⟩), E μ1 qM 67 t (Or.inl ⟨by decide, by decide⟩), E μ1 qM 50 57 (Or.inr ⟨rfl, by decide, by decide⟩), E μ1 qM 50 50 (Or.inr ⟨rfl, by decide, by decide⟩), E μ1 qM 50 51 (Or.inr ⟨rfl, by decide, by decide⟩), E μ1 qM 50 49 (Or.inr ⟨rfl, by decide, by decide⟩)]
        by_cases hw0 : w k = 0
        · have hz : decide (μ.1 60 (34 * t + k) = 0) = true := by rw [(H.1.1 k hk).1, hw0]; decide
          exact go_no hR kx km (gx_discT d (by omega) μ (nI k) 1 (fun d hd => by
            have y := hmt d hd
            rw [show dcT μ t k = false from by unfold dcT; rw [hz]; rfl] at y
            exact y)) (mr_discH d (by omega) μ t k ht4 P.tm hk 1 (by rw [hp1]; decide) hz)
        have hw1 : 1 ≤ w k := by omega
        have H' := hf_take H ht4 hk hw1
        have hwx := cw_wait H' ht4
        have hmb := mb_x R P H hk hw1 hwx
        have hal := all_ne H hk hw1
        have cm : ∀ μ1, LJ μ1 → EqM μ μ1 → z_C d mi_X7_discard [.ref 50, .int (nI k), .int 1] μ1 (fun r μ' => (dsC μ1 t k (kA (ioF μ t) qs) (WV (z_giv μ t k (-1)) t (tk1 w k) qs) = true ∧ r = some (.int 1) ∧ SMj (dsM μ1 t k q) μ') ∨ (dsC μ1 t k (kA (ioF μ t) qs) (WV (z_giv μ t k (-1)) t (tk1 w k) qs) = false ∧ r = some (.int 0) ∧ (SMj (z_ui μ1 50 0 0) μ' ∨ SMj (z_giv (z_giv (z_ui μ1 50 0 0) t k (-1)) t k 1) μ'))) := fun μ1 h1 qM => by
          have eM : EqM μ (z_ui μ1 50 0 0) := eqM_tr qM (t0_EqM μ1 0)
          refine gm_discard1 d (by omega) μ1 t ht4 ((E μ1 qM 50 45 (Or.inr ⟨rfl, by decide, by decide⟩)).trans P.tm) k q hk (by omega) ((E μ1 qM 66 t (Or.inl ⟨by decide, by decide⟩)).trans e66) (by rw [E μ1 qM 50 44 (Or.inr ⟨rfl, by decide, by decide⟩), hp1]; decide) _ (fun d hd => ?_) _ (fun d hd => mw_wait H'.1 ht4 (z_giv (z_ui μ1 50 0 0) t k (-1)) (fun r k' g => ?_) (show a_H (z_giv (z_ui μ1 50 0 0) t k (-1)) from a_H_ui (a_H_ui h1.1.1 (bI_top _)) (bI_top _)) d hd)
          · have z := gm_isOpenS d (by omega) (z_ui μ1 50 0 0) t qs ht4 H.1.2.2.1 ((eM 64 t (Or.inl ⟨by decide, by decide⟩)).1.trans H.1.2.1)
            rw [show ioF (z_ui μ1 50 0 0) t = ioF μ t from funext fun i => by unfold ioF; rw [(eM 62 _ (Or.inl ⟨by decide, by decide⟩)).1]] at z
            exact z
          · by_cases e : r = 60
            · subst e; rw [giv_60, giv_60, (eM 60 _ (Or.inl ⟨by decide, by decide⟩)).1]
            · rw [giv_o e, giv_o e, (eM r k' (Or.inl ⟨by omega, by omega⟩)).1]
        have dS : ∀ μ1, EqM μ μ1 → dsC μ1 t k (kA (ioF μ t) qs) (WV (z_giv μ t k (-1)) t (tk1 w k) qs) = (dcT μ t k && mbF μ t qs (WV (z_giv μ t k (-1)) t (tk1 w k) qs)) := fun μ1 qM => by
          have y := dE μ1 qM
          unfold dcT at y
          unfold dsC
          rw [dc1_tree _ _ _ _ _ (decide (nI k = μ1.1 50 49)), y]
          unfold mbF dcT
          rw [E μ1 qM 67 t (Or.inl ⟨by decide, by decide⟩), E μ1 qM 61 t (Or.inl ⟨by decide, by decide⟩), E μ1 qM 50 47 (Or.inr ⟨rfl, by decide, by decide⟩), E μ1 qM 50 46 (Or.inr ⟨rfl, by decide, by decide⟩)]
        cases hT : dcT μ t k with
        | true =>
          have cc := gc_discard d (by omega) μ t ht4 P.tx k q hk hq ((R.ds t ht4).trans e66) true (dcT μ t k) hmt _ hmb
          rw [hT, P.px, show decide (nI 1 = 1) = true from by decide, show nB true = 1 from rfl] at cc
          simp only [cond_true, cond_false] at cc
          cases hB : mbF μ t qs (WV (z_giv μ t k (-1)) t (tk1 w k) qs) with
          | true =>
            rw [hB] at cc
            simp only [cond_true, cond_false] at cc
            refine go_yes (X := dX1 μ t k q (bif decide ((μ.1 (18 + 8 * t) 2) = 0) then bif decide ((μ.1 0 17) = 0) then (2 : Int32) else 1 else 1)) (y := 1) kx km (z_C_mono cc (fun r μ' z => ⟨z.1, by rw [z.2]; exact eqX_rf _⟩)) (fun μ1 h1 qM => z_C_mono (cm μ1 h1 qM) (fun r μ' z => ?_))
            rcases z with ⟨-, z2, z3⟩ | ⟨z1, -, -⟩
            · refine ⟨z2, ?_⟩
              have eM : EqM μ (z_giv (z_giv (z_ui μ1 50 0 0) t k (-1)) t k 1) := eqM_tr (eqM_tr qM (t0_EqM μ1 0)) (fun r k' _ => ⟨gv_c (by decide) r k', rfl⟩)
              have e6 : (z_giv (z_giv (z_ui μ1 50 0 0) t k (-1)) t k 1).1 66 t = nI q := (eM 66 t (Or.inl ⟨by decide, by decide⟩)).1.trans e66
              have bv : (bif decide ((μ.1 (18 + 8 * t) 2) = 0) then bif decide ((μ.1 0 17) = 0) then (2 : Int32) else 1 else 1) = (bif decide ((nI q) = 0) then bif decide ((μ1.1 50 56) = 0) then (1 : Int32) else 2 else 1) := by
                rw [R.ds t ht4, e66, P.br, E μ1 qM 50 56 (Or.inr ⟨rfl, by decide, by decide⟩)]
                cases decide (nI q = 0) <;> cases decide (μ.1 50 56 = 0) <;> rfl
              rw [bv]
              have g : RG (dX1 μ t k q (bif decide ((nI q) = 0) then bif decide ((μ1.1 50 56) = 0) then (1 : Int32) else 2 else 1)) (dY1 (z_giv (z_giv (z_ui μ1 50 0 0) t k (-1)) t k 1) t k q (bif decide ((nI q) = 0) then bif decide ((μ1.1 50 56) = 0) then (1 : Int32) else 2 else 1)) := ⟨rc_discard1 (R.cg (eqX_rf _) eM) ht4 hk hq e6 (by cases decide (nI q = 0) <;> cases decide (μ1.1 50 56 = 0) <;> first | exact Or.inl rfl | exact Or.inr rfl), Or.inr ⟨2, t, k, rp_discard1 (P.cg (eqX_rf _) eM) hk hq e6 hal⟩⟩
              have ed : dsM μ1 t k q = dY1 (z_giv (z_giv (z_ui μ1 50 0 0) t k (-1)) t k 1) t k q (bif decide ((nI q) = 0) then bif decide ((μ1.1 50 56) = 0) then (1 : Int32) else 2 else 1) := by
                unfold dsM dY1
                generalize (bif decide ((nI q) = 0) then bif decide ((μ1.1 50 56) = 0) then (1 : Int32) else 2 else 1) = v
                generalize z_giv (z_giv (z_ui μ1 50 0 0) t k (-1)) t k 1 = M
                rw [show z_giv (z_ui M 67 t v) t k (-1) = z_ui (z_giv M t k (-1)) 67 t v from by unfold z_giv; rw [ui_o (by decide), z_ui_cm (by decide)]]
              rw [ed] at z3
              exact RG.cg (eqX_rf _) (sm_EqM z3) g
            · exfalso
              rw [dS μ1 qM, hT, hB] at z1
              cases z1
          | false =>
            rw [hB] at cc
            simp only [cond_true, cond_false] at cc
            refine go_yes (X := μ) (y := 0) kx km (z_C_mono cc (fun r μ' z => ⟨z.1, by rw [z.2]; exact pS_back ht4⟩)) (fun μ1 h1 qM => z_C_mono (cm μ1 h1 qM) (fun r μ' z => ?_))
            rcases z with ⟨z1, -, -⟩ | ⟨-, z2, z3⟩
            · exfalso
              rw [dS μ1 qM, hT, hB] at z1
              cases z1
            · refine ⟨z2, hR.cg (eqX_rf _) ?_⟩
              rcases z3 with z3 | z3
              · exact eqM_tr (eqM_tr qM (t0_EqM μ1 0)) (sm_EqM z3)
              · exact eqM_tr (eqM_tr (eqM_tr qM (t0_EqM μ1 0)) (fun r k' _ => ⟨gv_c (by decide) r k', rfl⟩)) (sm_EqM z3)
        | false =>
          exact go_yes (X := μ) (y := 0) kx km (z_C_mono (gx_discT d (by omega) μ (nI k) 1 (fun d hd => by have y := hmt d hd; rw [hT] at y; exact y)) (fun r μ' z => ⟨z.1, by rw [z.2]; exact eqX_rf _⟩)) (fun μ1 h1 qM => z_C_mono (cm μ1 h1 qM) (fun r μ' z => by
            rcases z with ⟨z1, -, -⟩ | ⟨-, z2, z3⟩
            · exfalso
              rw [dS μ1 qM, hT, Bool.false_and] at z1
              cases z1
            · refine ⟨z2, hR.cg (eqX_rf _) ?_⟩
              rcases z3 with z3 | z3
              · exact eqM_tr (eqM_tr qM (t0_EqM μ1 0)) (sm_EqM z3)
              · exact eqM_tr (eqM_tr (eqM_tr qM (t0_EqM μ1 0)) (fun r k' _ => ⟨gv_c (by decide) r k', rfl⟩)) (sm_EqM z3)))
      · exact go_no hR kx km (gx_discT d (by omega) μ x 1 (fun d hd => by
          have z := gc_mayThrow d (by omega) μ t ht4 P.tx x
          rw [fr_no hv] at z
          exact z)) (mr_discK d (by omega) μ x 1 (isK_no hv))
    · have e : ∀ v : Int32, v = nI p → decide (v = 1) = false := fun v hv => by
        rcases P.p3 with q | q | q
        · exact absurd q hp
        · rw [hv, q]; decide
        · rw [hv, q]; decide
      exact go_no hR kx km (gx_discP d (by omega) μ x 1 (e _ P.px)) (mr_discP d (by omega) μ x 1 (e _ P.pm))
/-! add answers alike -/
set_option maxRecDepth 8000
theorem cn_and {α : Type} (a b : Bool) (y t : α) : (bif a then (bif b then y else t) else t) = (bif (a && b) then y else t) := by cases a <;> cases b <;> rfl
noncomputable def xdF (μ : zM) (t k i : Nat) : Bool := decide (μ.1 (22 + 8 * t) i = 1) && decide (μ.1 (23 + 8 * t) i = nI k)
theorem first_or (f : Nat → Bool) : ∀ q, (∃ i, i < q ∧ f i = true ∧ ∀ j, j < i → f j = false) ∨ ∀ j, j < q → f j = false
  | 0 => Or.inr (fun j h => absurd h (by omega))
  | q + 1 => by
    rcases first_or f q with ⟨i, h1, h2, h3⟩ | h
    · exact Or.inl ⟨i, by omega, h2, h3⟩
    · cases e : f q with
      | true => exact Or.inl ⟨q, by omega, e, h⟩
      | false => exact Or.inr (fun j hj => by
          by_cases e2 : j = q
          · rw [e2]; exact e
          · exact h j (by omega))
theorem at_yes {μ : zM} {t k q i : Nat} (ht : t < 4) (hk : k < 34) (hq : q ≤ 4) (e4 : μ.1 (19 + 8 * t) 4 = nI q) (hf : decide (fr μ (20 + 8 * t) (nI k) = 0) = false) (hi : i < q) (hfi : xdF μ t k i = true) (hfj : ∀ j, j < i → xdF μ t k j = false) : ∀ d, 3 ≤ d → z_C d mi_X3_addToThree [.ref (19 + 8 * t), .int (nI k)] μ (fun r μ' => r = some (.int (nB true)) ∧ μ' = z_ui (z_ui (z_ui μ (22 + 8 * t) i 2) (20 + 8 * t) k ((μ.1 (20 + 8 * t) k) - 1)) (19 + 8 * t) 5 ((μ.1 (19 + 8 * t) 5) - 1)) := by
  intro d hd
  have z := gc_addToThree d hd μ t ht k hk
  unfold aTm at z
  simp only [cn_and] at z
  have L0 : decide (nI q ≤ (0 : Int32)) = decide (q ≤ 0) := nI_le2 (b := 0) (by omega) (by decide)
  have L1 : decide (nI q ≤ (1 : Int32)) = decide (q ≤ 1) := nI_le2 (b := 1) (by omega) (by decide)
  have L2 : decide (nI q ≤ (2 : Int32)) = decide (q ≤ 2) := nI_le2 (b := 2) (by omega) (by decide)
  have L3 : decide (nI q ≤ (3 : Int32)) = decide (q ≤ 3) := nI_le2 (b := 3) (by omega) (by decide)
  rw [hf, e4, L0, L1, L2, L3] at z
  unfold xdF at hfi hfj
  obtain rfl | rfl | rfl | rfl : i = 0 ∨ i = 1 ∨ i = 2 ∨ i = 3 := by omega
  · rw [decide_eq_false (show ¬ q ≤ 0 by omega), hfi] at z
    simp only [cond_true, cond_false] at z
    exact z
  · rw [decide_eq_false (show ¬ q ≤ 0 by omega), hfj 0 (by omega), decide_eq_false (show ¬ q ≤ 1 by omega), hfi] at z
    simp only [cond_true, cond_false] at z
    exact z
  · rw [decide_eq_false (show ¬ q ≤ 0 by omega), hfj 0 (by omega), decide_eq_false (show ¬ q ≤ 1 by omega), hfj 1 (by omega), decide_eq_false (show ¬ q ≤ 2 by omega), hfi] at z
    simp only [cond_true, cond_false] at z
    exact z
  · rw [decide_eq_false (show ¬ q ≤ 0 by omega), hfj 0 (by omega), decide_eq_false (show ¬ q ≤ 1 by omega), hfj 1 (by omega), decide_eq_false (show ¬ q ≤ 2 by omega), hfj 2 (by omega), decide_eq_false (show ¬ q ≤ 3 by omega), hfi] at z
    simp only [cond_true, cond_false] at z
    exact z
theorem at_none {μ : zM} {t k q : Nat} (ht : t < 4) (hk : k < 34) (hq : q ≤ 4) (e4 : μ.1 (19 + 8 * t) 4 = nI q) (hf : decide (fr μ (20 + 8 * t) (nI k) = 0) = false) (hfj : ∀ j, j < q → xdF μ t k j = false) : ∀ d, 3 ≤ d → z_C d mi_X3_addToThree [.ref (19 + 8 * t), .int (nI k)] μ (fun r μ' => r = some (.int (nB false)) ∧ μ' = μ) := by
  intro d hd
  have z := gc_addToThree d hd μ t ht k hk
  unfold aTm at z
  simp only [cn_and] at z
  have L0 : decide (nI q ≤ (0 : Int32)) = decide (q ≤ 0) := nI_le2 (b := 0) (by omega) (by decide)
  have L1 : decide (nI q ≤ (1 : Int32)) = decide (q ≤ 1) := nI_le2 (b := 1) (by omega) (by decide)
  have L2 : decide (nI q ≤ (2 : Int32)) = decide (q ≤ 2) := nI_le2 (b := 2) (by omega) (by decide)
  have L3 : decide (nI q ≤ (3 : Int32)) = decide (q ≤ 3) := nI_le2 (b := 3) (by omega) (by decide)
  rw [hf, e4, L0, L1, L2, L3] at z
  unfold xdF at hfj
  obtain rfl | rfl | rfl | rfl | rfl : q = 0 ∨ q = 1 ∨ q = 2 ∨ q = 3 ∨ q = 4 := by omega
  · rw [decide_eq_true (show 0 ≤ 0 by omega)] at z
    simp only [cond_true, cond_false] at z
    exact z
  · rw [decide_eq_false (show ¬ 1 ≤ 0 by omega), hfj 0 (by omega), decide_eq_true (show 1 ≤ 1 by omega)] at z
    simp only [cond_true, cond_false] at z
    exact z
  · rw [decide_eq_false (show ¬ 2 ≤ 0 by omega), hfj 0 (by omega), decide_eq_false (show ¬ 2 ≤ 1 by omega), hfj 1 (by omega), decide_eq_true (show 2 ≤ 2 by omega)] at z
    simp only [cond_true, cond_false] at z
    exact z
  · rw [decide_eq_false (show ¬ 3 ≤ 0 by omega), hfj 0 (by omega), decide_eq_false (show ¬ 3 ≤ 1 by omega), hfj 1 (by omega), decide_eq_false (show ¬ 3 ≤ 2 by omega), hfj 2 (by omega), decide_eq_true (show 3 ≤ 3 by omega)] at z
    simp only [cond_true, cond_false] at z
    exact z
  · rw [decide_eq_false (show ¬ 4 ≤ 0 by omega), hfj 0 (by omega), decide_eq_false (show ¬ 4 ≤ 1 by omega), hfj 1 (by omega), decide_eq_false (show ¬ 4 ≤ 2 by omega), hfj 2 (by omega), decide_eq_false (show ¬ 4 ≤ 3 by omega), hfj 3 (by omega)] at z
    simp only [cond_true, cond_false] at z
    exact z
theorem xd_eq {x m : zM} (R : RCl x m) {t k i : Nat} (ht : t < 4) (hi : i < 4) : xdF x t k i = adF m t k i := by
  unfold xdF adF
  rw [R.so t i ht hi, R.lo t i ht hi]
theorem lg_add {d : Nat} (hd : 705 ≤ d) {μ : zM} (h : LGm μ) (x : Int32) : GO d mi_X6_add mi_X7_add [.ref 0, .int x] [.ref 50, .int x] μ := by
  obtain ⟨hJ, hR⟩ := h
  have kx : z_C d mi_X6_add [.ref 0, .int x] μ (fun _ μ' => LJ μ' ∧ EqM μ μ') := lg_k (i := 65) (K := ak_65) rfl (by omega) (by decide +kernel) (by decide +kernel) rfl (by decide +kernel) [.ref 0, .int x] μ hJ ⟨⟨0, by decide, rfl⟩, ⟨_, rfl, bI_top _⟩, trivial⟩
  have km : ∀ μ1, LJ μ1 → z_C d mi_X7_add [.ref 50, .int x] μ1 (fun _ μ' => LJ μ' ∧ EqX μ1 μ') := fun μ1 h1 => lg_g h1 (fc_X7_add d (by omega) μ1 x h1.1)
  have hA := hJ.1.1
  rcases hR.2 with ⟨p1, p2, p3, p4, p5⟩ | ⟨p, t, c, P⟩
  · obtain ⟨t, ht4, ht⟩ := turn_nI hA
    have e1 : xMM μ t = false := by unfold xMM; rw [p1]; rfl
    have e2 : mMM μ t = false := by unfold mMM; rw [p2]; rfl
    exact go_no hR kx km (gx_add d (by omega) μ x (xk_mm ht4 (p5.trans ht) e1)) (mr_add d (by omega) μ x (mk_mm ht4 ht e2))
  · have R := hR.1
    have ht4 := P.t4
    have eq := mm_eq R P
    cases hm : mMM μ t with
    | false => exact go_no hR kx km (gx_add d (by omega) μ x (xk_mm ht4 P.tx (eq.trans hm))) (mr_add d (by omega) μ x (mk_mm ht4 P.tm hm))
    | true =>
      have hx1 := xk_mm ht4 P.tx (eq.trans hm)
      have hm1 := mk_mm ht4 P.tm hm
      by_cases hv : vp_in x 34
      · obtain ⟨k, hk, rfl⟩ := vp_in_of hv (by decide)
        have hp0 : ¬ μ.1 50 44 = 0 := by rw [P.pm]; rcases P.p3 with q | q | q <;> (rw [q]; decide)
        have G := hJ.1.2.2 hp0
        obtain ⟨w, aw, q, sL, lL, H⟩ := hf_of R P hA G ht4
        have hwk := H.1.1 k hk
        have fx : fr μ (20 + 8 * t) (nI k) = nI (w k) := by rw [fr_yes hk, R.hd t k ht4 hk]; exact hwk.1
        have hp1 : p = 1 := by
          have z := hm
          unfold mMM at z
          have z := (z_and z).1
          have z := of_decide_eq_true z
          rw [P.pm] at z
          rcases P.p3 with q | q | q
          · exact q
          · rw [q] at z; exact absurd z (by decide)
          · rw [q] at z; exact absurd z (by decide)
        subst hp1
        have hq4 := H.1.2.2.1
        have z0 : decide (nI (w k) = 0) = decide (w k = 0) := nI_dec (a := w k) (b := 0) (by have := hwk.2; omega) (by decide)
        rcases first_or (adF μ t k) q with ⟨i, hi, hfi, hfj⟩ | hfj
        · have mm : ∀ μ1, EqM μ μ1 → z_C d mi_X7_add [.ref 50, .int (nI k)] μ1 (fun r μ' => ((true && !decide (μ1.1 60 (34 * t + k) = 0)) = true ∧ r = some (.int 1) ∧ μ' = adM (z_ui μ1 50 0 0) t k i) ∨ ((true && !decide (μ1.1 60 (34 * t + k) = 0)) = false ∧ r = some (.int 0) ∧ μ' = z_ui μ1 50 0 0)) := fun μ1 qM => by
            have E : ∀ r k', gMc r k' → μ1.1 r k' = μ.1 r k' := fun r k' g => (qM r k' g).1
            have aE : ∀ j, adF μ1 t k j = adF μ t k j := fun j => by unfold adF; rw [E 62 _ (Or.inl ⟨by decide, by decide⟩), E 63 _ (Or.inl ⟨by decide, by decide⟩)]
            exact gm_addF d (by omega) μ1 t ht4 ((E 50 45 (Or.inr ⟨rfl, by decide, by decide⟩)).trans P.tm) k q i hk hq4 ((E 64 t (Or.inl ⟨by decide, by decide⟩)).trans H.1.2.1) true (mk_mm ht4 ((E 50 45 (Or.inr ⟨rfl, by decide, by decide⟩)).trans P.tm) ((mMM_e qM).trans hm)) hi ((aE i).trans hfi) (fun j hj => (aE j).trans (hfj j hj))
          by_cases hw0 : w k = 0
          · have fz : decide (nI (w k) = 0) = true := z0.trans (decide_eq_true hw0)
            refine go_no hR kx km (gx_addF d (by omega) μ (nI k) t ht4 P.tx hx1 (fun d hd => z_C_mono (gx_atZ d hd μ t ht4 (nI k) (by rw [fx]; exact fz)) (fun r m z => ⟨z.2, z.1⟩))) (z_C_mono (mm μ (eqM_rf _)) (fun r μ' z => ?_))
            rcases z with ⟨z1, -, -⟩ | ⟨-, z2, z3⟩
            · rw [hwk.1, fz] at z1; cases z1
            · exact ⟨z2, z3⟩
          · have fz : decide (nI (w k) = 0) = false := z0.trans (decide_eq_false hw0)
            have cc := gc_add d (by omega) μ t ht4 P.tx k hk true hx1 true _ (at_yes ht4 hk hq4 H.2.2.2.1 (by rw [fx]; exact fz) hi ((xd_eq R ht4 (by omega)).trans hfi) (fun j hj => (xd_eq R ht4 (by omega)).trans (hfj j hj)))
            simp only [cond_true, cond_false] at cc
            refine go_yes (X := adX μ t k i) (y := 1) kx km (z_C_mono cc (fun r μ' z => ⟨z.1, by rw [z.2]; exact eqX_rf _⟩)) (fun μ1 h1 qM => z_C_mono (mm μ1 qM) (fun r μ' z => ?_))
            have eM : EqM μ (z_ui μ1 50 0 0) := eqM_tr qM (t0_EqM μ1 0)
            rcases z with ⟨-, z2, z3⟩ | ⟨z1, -, -⟩
            · refine ⟨z2, ?_⟩
              rw [z3]
              have R' := R.cg (eqX_rf _) eM
              have P' := P.cg (eqX_rf _) eM
              obtain ⟨f1, f2⟩ := z_and hfi
              refine ⟨rc_added R' ht4 hk hq4 hi ((eM 64 t (Or.inl ⟨by decide, by decide⟩)).1.trans H.1.2.1) ((eM 62 _ (Or.inl ⟨by decide, by decide⟩)).1.trans (of_decide_eq_true f1)) ((eM 63 _ (Or.inl ⟨by decide, by decide⟩)).1.trans (of_decide_eq_true f2)) (fun j hj => by rw [(eM 64 j (Or.inl ⟨by decide, by decide⟩)).1]; exact m4_of hA j hj), Or.inr ⟨3, t, k, rp_added P' hk (by omega) ?_ (all_ne H hk (by omega))⟩⟩
              rw [(eM 50 56 (Or.inr ⟨rfl, by decide, by decide⟩)).1]
              by_cases e : μ.1 50 56 = 0
              · exact e
              · exfalso
                have y := P.us e t ht4
                rw [H.1.2.1] at y
                have := (nI_eq (a := q) (b := 0) (by omega) (by decide)).mp y
                omega
            · exfalso
              rw [(qM 60 _ (Or.inl ⟨by decide, by decide⟩)).1, hwk.1, fz] at z1
              cases z1
        · have m2 := gm_addN d (by omega) μ t ht4 P.tm k q hk hq4 H.1.2.1 true hm1 hfj
          by_cases hw0 : w k = 0
          · have fz : decide (nI (w k) = 0) = true := z0.trans (decide_eq_true hw0)
            exact go_no hR kx km (gx_addF d (by omega) μ (nI k) t ht4 P.tx hx1 (fun d hd => z_C_mono (gx_atZ d hd μ t ht4 (nI k) (by rw [fx]; exact fz)) (fun r m z => ⟨z.2, z.1⟩))) m2
          · have fz : decide (nI (w k) = 0) = false := z0.trans (decide_eq_false hw0)
            exact go_no hR kx km (gx_addF d (by omega) μ (nI k) t ht4 P.tx hx1 (fun d hd => z_C_mono (at_none ht4 hk hq4 H.2.2.2.1 (by rw [fx]; exact fz) (fun j hj => (xd_eq R ht4 (by omega)).trans (hfj j hj)) d hd) (fun r m z => ⟨z.2, z.1⟩))) m2
      · exact go_no hR kx km (gx_addF d (by omega) μ x t ht4 P.tx hx1 (fun d hd => z_C_mono (gx_atZ d hd μ t ht4 x (by rw [fr_no hv]; decide)) (fun r m z => ⟨z.2, z.1⟩))) (mr_addK d (by omega) μ x hm1 (isK_no hv))
/-! nine answers alike -/
set_option maxRecDepth 8000
noncomputable def bcF (x : Int64) : Int32 := (((((((((x - (((x.toUInt64 >>> ((1 : Int32).toInt64.toUInt64 &&& Int64.toUInt64 63)).toInt64) &&& 6148914691236517205)) &&& 3689348814741910323) + ((((x - (((x.toUInt64 >>> ((1 : Int32).toInt64.toUInt64 &&& Int64.toUInt64 63)).toInt64) &&& 6148914691236517205)).toUInt64 >>> ((2 : Int32).toInt64.toUInt64 &&& Int64.toUInt64 63)).toInt64) &&& 3689348814741910323)) + (((((x - (((x.toUInt64 >>> ((1 : Int32).toInt64.toUInt64 &&& Int64.toUInt64 63)).toInt64) &&& 6148914691236517205)) &&& 3689348814741910323) + ((((x - (((x.toUInt64 >>> ((1 : Int32).toInt64.toUInt64 &&& Int64.toUInt64 63)).toInt64) &&& 6148914691236517205)).toUInt64 >>> ((2 : Int32).toInt64.toUInt64 &&& Int64.toUInt64 63)).toInt64) &&& 3689348814741910323)).toUInt64 >>> ((4 : Int32).toInt64.toUInt64 &&& Int64.toUInt64 63)).toInt64)) &&& 1085102592571150095) + (((((((x - (((x.toUInt64 >>> ((1 : Int32).toInt64.toUInt64 &&& Int64.toUInt64 63)).toInt64) &&& 6148914691236517205)) &&& 3689348814741910323) + ((((x - (((x.toUInt64 >>> ((1 : Int32).toInt64.toUInt64 &&& Int64.toUInt64 63)).toInt64) &&& 6148914691236517205)).toUInt64 >>> ((2 : Int32).toInt64.toUInt64 &&& Int64.toUInt64 63)).toInt64) &&& 3689348814741910323)) + (((((x - (((x.toUInt64 >>> ((1 : Int32).toInt64.toUInt64 &&& Int64.toUInt64 63)).toInt64) &&& 6148914691236517205)) &&& 3689348814741910323) + ((((x - (((x.toUInt64 >>> ((1 : Int32).toInt64.toUInt64 &&& Int64.toUInt64 63)).toInt64) &&& 6148914691236517205)).toUInt64 >>> ((2 : Int32).toInt64.toUInt64 &&& Int64.toUInt64 63)).toInt64) &&& 3689348814741910323)).toUInt64 >>> ((4 : Int32).toInt64.toUInt64 &&& Int64.toUInt64 63)).toInt64)) &&& 1085102592571150095).toUInt64 >>> ((8 : Int32).toInt64.toUInt64 &&& Int64.toUInt64 63)).toInt64)) + ((((((((x - (((x.toUInt64 >>> ((1 : Int32).toInt64.toUInt64 &&& Int64.toUInt64 63)).toInt64) &&& 6148914691236517205)) &&& 3689348814741910323) + ((((x - (((x.toUInt64 >>> ((1 : Int32).toInt64.toUInt64 &&& Int64.toUInt64 63)).toInt64) &&& 6148914691236517205)).toUInt64 >>> ((2 : Int32).toInt64.toUInt64 &&& Int64.toUInt64 63)).toInt64) &&& 3689348814741910323)) + (((((x - (((x.toUInt64 >>> ((1 : Int32).toInt64.toUInt64 &&& Int64.toUInt64 63)).toInt64) &&& 6148914691236517205)) &&& 3689348814741910323) + ((((x - (((x.toUInt64 >>> ((1 : Int32).toInt64.toUInt64 &&& Int64.toUInt64 63)).toInt64) &&& 6148914691236517205)).toUInt64 >>> ((2 : Int32).toInt64.toUInt64 &&& Int64.toUInt64 63)).toInt64) &&& 3689348814741910323)).toUInt64 >>> ((4 : Int32).toInt64.toUInt64 &&& Int64.toUInt64 63)).toInt64)) &&& 1085102592571150095) + (((((((x - (((x.toUInt64 >>> ((1 : Int32).toInt64.toUInt64 &&& Int64.toUInt64 63)).toInt64) &&& 6148914691236517205)) &&& 3689348814741910323) + ((((x - (((x.toUInt64 >>> ((1 : Int32).toInt64.toUInt64 &&& Int64.toUInt64 63)).toInt64) &&& 6148914691236517205)).toUInt64 >>> ((2 : Int32).toInt64.toUInt64 &&& Int64.toUInt64 63)).toInt64) &&& 3689348814741910323)) + (((((x - (((x.toUInt64 >>> ((1 : Int32).toInt64.toUInt64 &&& Int64.toUInt64 63)).toInt64) &&& 6148914691236517205)) &&& 3689348814741910323) + ((((x - (((x.toUInt64 >>> ((1 : Int32).toInt64.toUInt64 &&& Int64.toUInt64 63)).toInt64) &&& 6148914691236517205)).toUInt64 >>> ((2 : Int32).toInt64.toUInt64 &&& Int64.toUInt64 63)).toInt64) &&& 3689348814741910323)).toUInt64 >>> ((4 : Int32).toInt64.toUInt64 &&& Int64.toUInt64 63)).toInt64)) &&& 1085102592571150095).toUInt64 >>> ((8 : Int32).toInt64.toUInt64 &&& Int64.toUInt64 63)).toInt64)).toUInt64 >>> ((16 : Int32).toInt64.toUInt64 &&& Int64.toUInt64 63)).toInt64)) + (((((((((x - (((x.toUInt64 >>> ((1 : Int32).toInt64.toUInt64 &&& Int64.toUInt64 63)).toInt64) &&& 6148914691236517205)) &&& 3689348814741910323) + ((((x - (((x.toUInt64 >>> ((1 : Int32).toInt64.toUInt64 &&& Int64.toUInt64 63)).toInt64) &&& 6148914691236517205)).toUInt64 >>> ((2 : Int32).toInt64.toUInt64 &&& Int64.toUInt64 63)).toInt64) &&& 3689348814741910323)) + (((((x - (((x.toUInt64 >>> ((1 : Int32).toInt64.toUInt64 &&& Int64.toUInt64 63)).toInt64) &&& 6148914691236517205)) &&& 3689348814741910323) + ((((x - (((x.toUInt64 >>> ((1 : Int32).toInt64.toUInt64 &&& Int64.toUInt64 63)).toInt64) &&& 6148914691236517205)).toUInt64 >>> ((2 : Int32).toInt64.toUInt64 &&& Int64.toUInt64 63)).toInt64) &&& 3689348814741910323)).toUInt64 >>> ((4 : Int32).toInt64.toUInt64 &&& Int64.toUInt64 63)).toInt64)) &&& 1085102592571150095) + (((((((x - (((x.toUInt64 >>> ((1 : Int32).toInt64.toUInt64 &&& Int64.toUInt64 63)).toInt64) &&& 6148914691236517205)) &&& 3689348814741910323) + ((((x - (((x.toUInt64 >>> ((1 : Int32).toInt64.toUInt64 &&& Int64.toUInt64 63)).toInt64) &&& 6148914691236517205)).toUInt64 >>> ((2 : Int32).toInt64.toUInt64 &&& Int64.toUInt64 63)).toInt64) &&& 3689348814741910323)) + (((((x - (((x.toUInt64 >>> ((1 : Int32).toInt64.toUInt64 &&& Int64.toUInt64 63)).toInt64) &&& 6148914691236517205)) &&& 3689348814741910323) + ((((x - (((x.toUInt64 >>> ((1 : Int32).toInt64.toUInt64 &&& Int64.toUInt64 63)).toInt64) &&& 6148914691236517205)).toUInt64 >>> ((2 : Int32).toInt64.toUInt64 &&& Int64.toUInt64 63)).toInt64) &&& 3689348814741910323)).toUInt64 >>> ((4 : Int32).toInt64.toUInt64 &&& Int64.toUInt64 63)).toInt64)) &&& 1085102592571150095).toUInt64 >>> ((8 : Int32).toInt64.toUInt64 &&& Int64.toUInt64 63)).toInt64)) + ((((((((x - (((x.toUInt64 >>> ((1 : Int32).toInt64.toUInt64 &&& Int64.toUInt64 63)).toInt64) &&& 6148914691236517205)) &&& 3689348814741910323) + ((((x - (((x.toUInt64 >>> ((1 : Int32).toInt64.toUInt64 &&& Int64.toUInt64 63)).toInt64) &&& 6148914691236517205)).toUInt64 >>> ((2 : Int32).toInt64.toUInt64 &&& Int64.toUInt64 63)).toInt64) &&& 3689348814741910323)) + (((((x - (((x.toUInt64 >>> ((1 : Int32).toInt64.toUInt64 &&& Int64.toUInt64 63)).toInt64) &&& 6148914691236517205)) &&& 3689348814741910323) + ((((x - (((x.toUInt64 >>> ((1 : Int32).toInt64.toUInt64 &&& Int64.toUInt64 63)).toInt64) &&& 6148914691236517205)).toUInt64 >>> ((2 : Int32).toInt64.toUInt64 &&& Int64.toUInt64 63)).toInt64) &&& 3689348814741910323)).toUInt64 >>> ((4 : Int32).toInt64.toUInt64 &&& Int64.toUInt64 63)).toInt64)) &&& 1085102592571150095) + (((((((x - (((x.toUInt64 >>> ((1 : Int32).toInt64.toUInt64 &&& Int64.toUInt64 63)).toInt64) &&& 6148914691236517205)) &&& 3689348814741910323) + ((((x - (((x.toUInt64 >>> ((1 : Int32).toInt64.toUInt64 &&& Int64.toUInt64 63)).toInt64) &&& 6148914691236517205)).toUInt64 >>> ((2 : Int32).toInt64.toUInt64 &&& Int64.toUInt64 63)).toInt64) &&& 3689348814741910323)) + (((((x - (((x.toUInt64 >>> ((1 : Int32).toInt64.toUInt64 &&& Int64.toUInt64 63)).toInt64) &&& 6148914691236517205)) &&& 3689348814741910323) + ((((x - (((x.toUInt64 >>> ((1 : Int32).toInt64.toUInt64 &&& Int64.toUInt64 63)).toInt64) &&& 6148914691236517205)).toUInt64 >>> ((2 : Int32).toInt64.toUInt64 &&& Int64.toUInt64 63)).toInt64) &&& 3689348814741910323)).toUInt64 >>> ((4 : Int32).toInt64.toUInt64 &&& Int64.toUInt64 63)).toInt64)) &&& 1085102592571150095).toUInt64 >>> ((8 : Int32).toInt64.toUInt64 &&& Int64.toUInt64 63)).toInt64)).toUInt64 >>> ((16 : Int32).toInt64.toUInt64 &&& Int64.toUInt64 63)).toInt64)).toUInt64 >>> ((32 : Int32).toInt64.toUInt64 &&& Int64.toUInt64 63)).toInt64)).toInt32) &&& 127
theorem bc_x9 (d : Nat) (hd : 1 ≤ d) (μ : zM) (x : Int64) : z_C d mi_J13_bitCount_95d88 [.long x] μ (zR μ (.int (bcF x))) := fb_bitCount d hd μ x
noncomputable def b1L (k : Nat) : Int64 := (1 : Int64) <<< ((nI k).toInt64 &&& 63)
noncomputable def kbl (f : Nat → Bool) : List Nat → Int64 → Int64
  | [], x => x
  | k :: ks, x => kbl f ks (if f k = true then x ||| b1L k else x)
noncomputable def cnl (f : Nat → Bool) : List Nat → Nat → Nat
  | [], n => n
  | k :: ks, n => cnl f ks (n + (if f k = true then 1 else 0))
noncomputable def bcG : List Nat → Int64 → Nat → Bool
  | [], x, n => decide (bcF x = nI n)
  | k :: ks, x, n => bcG ks x n && bcG ks (x ||| b1L k) (n + 1)
theorem bcG_ok (f : Nat → Bool) : ∀ ks x n, bcG ks x n = true → bcF (kbl f ks x) = nI (cnl f ks n)
  | [], x, n, h => of_decide_eq_true h
  | k :: ks, x, n, h => by
    obtain ⟨h1, h2⟩ := z_and h
    show bcF (kbl f ks (if f k = true then x ||| b1L k else x)) = nI (cnl f ks (n + (if f k = true then 1 else 0)))
    by_cases e : f k = true
    · rw [if_pos e, if_pos e]; exact bcG_ok f ks _ _ h2
    · rw [if_neg e, if_neg e]; exact bcG_ok f ks _ _ h1
theorem kbl_app (f : Nat → Bool) (k : Nat) : ∀ xs x, kbl f (xs ++ [k]) x = if f k = true then kbl f xs x ||| b1L k else kbl f xs x
  | [], x => rfl
  | j :: xs, x => kbl_app f k xs _
theorem cnl_app (f : Nat → Bool) (k : Nat) : ∀ xs n, cnl f (xs ++ [k]) n = cnl f xs n + (if f k = true then 1 else 0)
  | [], n => rfl
  | j :: xs, n => cnl_app f k xs _
theorem kb_l (f : Nat → Bool) : ∀ n, kb (fun k => eN k && f k) n = kbl f ((List.range n).filter eN) 0
  | 0 => rfl
  | n + 1 => by
    rw [List.range_succ, List.filter_append]
    show (if (eN n && f n) = true then kb (fun k => eN k && f k) n ||| b1L n else kb (fun k => eN k && f k) n) = _
    cases e : eN n with
    | true => rw [show List.filter eN [n] = [n] from by rw [List.filter_cons_of_pos e]; rfl, kbl_app, ← kb_l f n, Bool.true_and]
    | false => rw [show List.filter eN [n] = [] from by rw [List.filter_cons_of_neg (by rw [e]; decide)]; rfl, List.append_nil, ← kb_l f n, Bool.false_and, if_neg (by decide)]
theorem cn_l (f : Nat → Bool) : ∀ n, cn (fun k => eN k && f k) n = cnl f ((List.range n).filter eN) 0
  | 0 => rfl
  | n + 1 => by
    rw [List.range_succ, List.filter_append]
    show cn (fun k => eN k && f k) n + (if (eN n && f n) = true then 1 else 0) = _
    cases e : eN n with
    | true => rw [show List.filter eN [n] = [n] from by rw [List.filter_cons_of_pos e]; rfl, cnl_app, ← cn_l f n, Bool.true_and]
    | false => rw [show List.filter eN [n] = [] from by rw [List.filter_cons_of_neg (by rw [e]; decide)]; rfl, List.append_nil, ← cn_l f n, Bool.false_and, if_neg (by decide), Nat.add_zero]
theorem bcG_34 : bcG ((List.range 34).filter eN) 0 0 = true := by decide +kernel
theorem kb_and9 (f g : Nat → Bool) : kb f 34 &&& kb g 34 = kb (fun k => g k && f k) 34 := by
  apply Int64.toBitVec_inj.mp
  rw [Int64.toBitVec_and]
  apply BitVec.eq_of_getLsbD_eq
  intro i hi
  rw [BitVec.getLsbD_and]
  by_cases h : i < 34
  · rw [kb_bit f 34 (by omega) i h, kb_bit g 34 (by omega) i h, kb_bit _ 34 (by omega) i h, decide_eq_true h, Bool.true_and, Bool.true_and, Bool.true_and, Bool.and_comm]
  · rw [kb_hi f i (by omega) 34 (by omega), kb_hi (fun k => g k && f k) i (by omega) 34 (by omega), Bool.false_and]
theorem bcE9 (f : Nat → Bool) : bcF (kb f 34 &&& 17113154305) = nI (cn (fun k => eN k && f k) 34) := by
  rw [kb_ends, kb_and9, kb_l, cn_l]
  exact bcG_ok f _ _ _ bcG_34
theorem cn_ub9 (b : Nat → Bool) : ∀ n, cn b n ≤ n
  | 0 => Nat.le_refl _
  | n + 1 => by
    show cn b n + (if b n = true then 1 else 0) ≤ n + 1
    have := cn_ub9 b n
    split <;> omega
theorem md_E_m : md_m md_E = true := by decide +kernel
theorem lg_e {d j : Nat} {As : List Value} {μ : zM} (h : LJ μ) (hc : z_C d j As μ (zPE μ)) : z_C d j As μ (fun _ μ' => LJ μ' ∧ EqX μ μ') := z_C_mono (zC_and d (lj_e h hc) hc) (fun _ μ' q => ⟨q.1.1, fz_EqX q.2.2.1.2.2 md_E_m⟩)
theorem ni_eq {μ : zM} {t c : Nat} {w aw : Nat → Nat} {q : Nat} {sL lL : Nat → Nat} (R : RCl μ μ) (P : RPh μ μ 1 t c) (H : HF μ μ t w aw q sL lL) : (bif decide ((μ.1 0 17) = 0) then (bif decide ((μ.1 (18 + 8 * t) 2) ≤ 0) then decide (9 ≤ bcF (kb (fun k => decide (0 < aw k)) 34 &&& 17113154305)) else false) else false) = niC μ t := by
  have hp : decide (μ.1 50 44 = 1) = true := by rw [P.pm]; decide
  unfold niC
  rw [hp, cond_true, P.br]
  by_cases e : μ.1 50 56 = 0
  · rw [decide_eq_true e, show decide (nB true = 0) = false from by decide, cond_false, cond_true]
    cases decide (μ.1 50 57 = 0) <;> rfl
  · have hc : c < 34 := by
      rcases P.c3 with y | ⟨y, _⟩
      · exact y
      · exact absurd (P.bn rfl y).2 e
    have h57 : decide (μ.1 50 57 = 0) = true := decide_eq_true (by rw [P.jc rfl, if_neg (by omega)])
    have hq : q = 0 := by
      have y := P.us e t P.t4
      rw [H.1.2.1] at y
      exact (nI_eq (a := q) (b := 0) (by have := H.1.2.2.1; omega) (by decide)).mp y
    have hcn : cn (fun k => eN k && decide (0 < aw k)) 34 = cn (niF μ t) 34 := cn_congr (fun k hk => by
      unfold niF
      rw [H.2.2.2.2.1 hq k hk, (H.1.1 k hk).1]
      have y : decide (nI (w k) ≤ 0) = decide (w k ≤ 0) := nI_le2 (b := 0) (by have := (H.1.1 k hk).2; omega) (by decide)
      rw [y]
      by_cases z : w k ≤ 0
      · rw [decide_eq_true z, decide_eq_false (by omega)]; rfl
      · rw [decide_eq_false z, decide_eq_true (by omega)]; rfl)
    have h9 : decide (9 ≤ nI (cn (niF μ t) 34)) = decide (9 ≤ cn (niF μ t) 34) := nI_le2 (a := 9) (by decide) (by have := cn_ub9 (niF μ t) 34; omega)
    rw [decide_eq_false e, show decide (nB false = 0) = true from by decide, cond_true, cond_false, h57, cond_true, R.ds t P.t4, bcE9, hcn, h9]
theorem lg_nine {d : Nat} (hd : 705 ≤ d) {μ : zM} (h : LGm μ) : GO d mi_X6_nine mi_X7_nine [.ref 0] [.ref 50] μ := by
  obtain ⟨hJ, hR⟩ := h
  have kx : z_C d mi_X6_nine [.ref 0] μ (fun _ μ' => LJ μ' ∧ EqM μ μ') := lg_k (i := 68) (K := ak_68) rfl (by omega) (by decide +kernel) (by decide +kernel) rfl (by decide +kernel) [.ref 0] μ hJ ⟨⟨0, by decide, rfl⟩, trivial⟩
  have km : ∀ μ1, LJ μ1 → z_C d mi_X7_nine [.ref 50] μ1 (fun _ μ' => LJ μ' ∧ EqX μ1 μ') := fun μ1 h1 => lg_e h1 (fc_X7_nine d (by omega) μ1 h1.1.1 h1.1.2.1)
  have hA := hJ.1.1
  obtain ⟨dl, hdl4, hdl⟩ := dealer_nI hA
  obtain ⟨e, he⟩ : ∃ e, (dl + 1) % 4 = e := ⟨_, rfl⟩
  have mn : ∀ μ1, EqM μ μ1 → ∀ t, t < 4 → μ.1 50 45 = nI t → z_C d mi_X7_nine [.ref 50] μ1 (fun r μ' => (niC μ1 t = true ∧ r = some (.int 1) ∧ μ' = eMB (z_ui μ1 50 0 0) true true dl e) ∨ (niC μ1 t = false ∧ r = some (.int 0) ∧ μ' = z_ui μ1 50 0 0)) := fun μ1 qM t ht4 ht => gm_nine d (by omega) μ1 t ht4 ((qM 50 45 (Or.inr ⟨rfl, by decide, by decide⟩)).1.trans ht) dl e ((qM 50 40 (Or.inr ⟨rfl, by decide, by decide⟩)).1.trans hdl) hdl4 he
  have no : decide (μ.1 0 7 = 1) = false → GO d mi_X6_nine mi_X7_nine [.ref 0] [.ref 50] μ := fun hp => by
    obtain ⟨t, ht4, ht⟩ := turn_nI hA
    have hp2 : decide (μ.1 50 44 = 1) = false := by rw [← (rg_ph hR).1]; exact hp
    refine go_no hR kx km (gx_nineP d (by omega) μ hp) (z_C_mono (mn μ (eqM_rf _) t ht4 ht) (fun r μ' z => ?_))
    rcases z with ⟨z1, -, -⟩ | ⟨-, z2, z3⟩
    · unfold niC at z1; rw [hp2] at z1; cases z1
    · exact ⟨z2, z3⟩
  rcases hR.2 with ⟨p1, p2, -, -, -⟩ | ⟨p, t, c, P⟩
  · exact no (by rw [p1]; decide)
  · by_cases hp : p = 1
    · subst hp
      have R := hR.1
      have ht4 := P.t4
      have hp1 : μ.1 50 44 = 1 := P.pm
      have G := hJ.1.2.2 (by rw [hp1]; decide)
      obtain ⟨w, aw, q, sL, lL, H⟩ := hf_of R P hA G ht4
      have cc := gc_nine d (by omega) μ t ht4 P.tx dl e (R.dl.trans hdl) hdl4 he _ (fun d hd => gc_kinds d hd μ t ht4 aw H.2.2.1) _ (fun d hd => bc_x9 d hd μ _)
      have eq := ni_eq R P H
      rw [P.px, show decide (nI 1 = 1) = true from by decide] at cc
      simp only [cond_true] at cc
      have eN : ∀ μ1, EqM μ μ1 → niC μ1 t = niC μ t := fun μ1 qM => by
        unfold niC
        rw [(qM 50 44 (Or.inr ⟨rfl, by decide, by decide⟩)).1, (qM 50 57 (Or.inr ⟨rfl, by decide, by decide⟩)).1, (qM 50 56 (Or.inr ⟨rfl, by decide, by decide⟩)).1, (qM 66 t (Or.inl ⟨by decide, by decide⟩)).1, show niF μ1 t = niF μ t from funext fun k => by unfold niF; rw [(qM 60 _ (Or.inl ⟨by decide, by decide⟩)).1]]
      have tr : ∀ {α : Type} (a b c : Bool) (y n : α), (bif a then (bif b then (bif c then y else n) else n) else n) = (bif (bif a then (bif b then c else false) else false) then y else n) := fun a b c y n => by cases a <;> cases b <;> cases c <;> rfl
      rw [tr, tr, eq] at cc
      cases hN : niC μ t with
      | true =>
        rw [hN] at cc
        simp only [cond_true, cond_false] at cc
        refine go_yes (X := eHB μ true false (xBk μ) dl e (rcM μ)) (y := 1) kx km (z_C_mono cc (fun r μ' z => ⟨z.1, by rw [z.2]; exact eqX_rf _⟩)) (fun μ1 h1 qM => z_C_mono (mn μ1 qM t ht4 P.tm) (fun r μ' z => ?_))
        rcases z with ⟨-, z2, z3⟩ | ⟨z1, -, -⟩
        · refine ⟨z2, ?_⟩
          rw [z3]
          have eM : EqM μ (z_ui μ1 50 0 0) := eqM_tr qM (t0_EqM μ1 0)
          exact rg_ends (R.cg (eqX_rf _) eM) (P.cg (eqX_rf _) eM).fo ((P.cg (eqX_rf _) eM).tx.trans (P.cg (eqX_rf _) eM).tm.symm) ((eM 50 40 (Or.inr ⟨rfl, by decide, by decide⟩)).1.trans hdl) hdl4 he true false
        · exfalso; rw [eN μ1 qM, hN] at z1; cases z1
      | false =>
        rw [hN] at cc
        simp only [cond_true, cond_false] at cc
        refine go_no hR kx km cc (z_C_mono (mn μ (eqM_rf _) t ht4 P.tm) (fun r μ' z => ?_))
        rcases z with ⟨z1, -, -⟩ | ⟨-, z2, z3⟩
        · rw [hN] at z1; cases z1
        · exact ⟨z2, z3⟩
    · exact no (by
        rw [P.px]
        rcases P.p3 with q | q | q
        · exact absurd q hp
        · rw [q]; decide
        · rw [q]; decide)
/-! what a hand is worth: both sides -/
set_option maxRecDepth 8000
/-- the class's told FORMS -/
noncomputable def tX (dr : Bool) (bt ao lf bf ph : Int32) : Int64 := bif decide (lf = 0) then bif dr then (bif decide (lf = 0) then ((bif dr then (((0 ||| (bif decide (bt = 1) then (1 : Int64) else 0)) ||| (bif decide (bt = 2) then (2 : Int64) else 0)) ||| (bif decide (ao = 0) then (0 : Int64) else 4)) ||| (bif decide (bf = 0) then (0 : Int64) else 64) else ((0 ||| (bif decide (bt = 1) then (1 : Int64) else 0)) ||| (bif decide (bt = 2) then (2 : Int64) else 0)) ||| (bif decide (ao = 0) then (0 : Int64) else 4)) ||| (bif decide (ph = 3) then (128 : Int64) else 0)) ||| (bif decide (ph = 2) then (32 : Int64) else 0) else (bif dr then (((0 ||| (bif decide (bt = 1) then (1 : Int64) else 0)) ||| (bif decide (bt = 2) then (2 : Int64) else 0)) ||| (bif decide (ao = 0) then (0 : Int64) else 4)) ||| (bif decide (bf = 0) then (0 : Int64) else 64) else ((0 ||| (bif decide (bt = 1) then (1 : Int64) else 0)) ||| (bif decide (bt = 2) then (2 : Int64) else 0)) ||| (bif decide (ao = 0) then (0 : Int64) else 4)) ||| (bif decide (ph = 3) then (128 : Int64) else 0)) ||| (bif decide (bf = 0) then (16 : Int64) else 0) else bif decide (lf = 0) then ((bif dr then (((0 ||| (bif decide (bt = 1) then (1 : Int64) else 0)) ||| (bif decide (bt = 2) then (2 : Int64) else 0)) ||| (bif decide (ao = 0) then (0 : Int64) else 4)) ||| (bif decide (bf = 0) then (0 : Int64) else 64) else ((0 ||| (bif decide (bt = 1) then (1 : Int64) else 0)) ||| (bif decide (bt = 2) then (2 : Int64) else 0)) ||| (bif decide (ao = 0) then (0 : Int64) else 4)) ||| (bif decide (ph = 3) then (128 : Int64) else 0)) ||| (bif decide (ph = 2) then (32 : Int64) else 0) else (bif dr then (((0 ||| (bif decide (bt = 1) then (1 : Int64) else 0)) ||| (bif decide (bt = 2) then (2 : Int64) else 0)) ||| (bif decide (ao = 0) then (0 : Int64) else 4)) ||| (bif decide (bf = 0) then (0 : Int64) else 64) else ((0 ||| (bif decide (bt = 1) then (1 : Int64) else 0)) ||| (bif decide (bt = 2) then (2 : Int64) else 0)) ||| (bif decide (ao = 0) then (0 : Int64) else 4)) ||| (bif decide (ph = 3) then (128 : Int64) else 0) else bif decide (lf = 0) then ((bif dr then (((0 ||| (bif decide (bt = 1) then (1 : Int64) else 0)) ||| (bif decide (bt = 2) then (2 : Int64) else 0)) ||| (bif decide (ao = 0) then (0 : Int64) else 4)) ||| (bif decide (bf = 0) then (0 : Int64) else 64) else ((0 ||| (bif decide (bt = 1) then (1 : Int64) else 0)) ||| (bif decide (bt = 2) then (2 : Int64) else 0)) ||| (bif decide (ao = 0) then (0 : Int64) else 4)) ||| (bif decide (ph = 3) then (128 : Int64) else 0)) ||| (bif decide (ph = 2) then (32 : Int64) else 0) else (bif dr then (((0 ||| (bif decide (bt = 1) then (1 : Int64) else 0)) ||| (bif decide (bt = 2) then (2 : Int64) else 0)) ||| (bif decide (ao = 0) then (0 : Int64) else 4)) ||| (bif decide (bf = 0) then (0 : Int64) else 64) else ((0 ||| (bif decide (bt = 1) then (1 : Int64) else 0)) ||| (bif decide (bt = 2) then (2 : Int64) else 0)) ||| (bif decide (ao = 0) then (0 : Int64) else 4)) ||| (bif decide (ph = 3) then (128 : Int64) else 0)
theorem tX_c (d : Nat) (hd : 3 ≤ d) (μ : zM) (s : Nat) (hs4 : s < 4) (dr : Bool) : z_C d mi_X6_toldForms [.ref 0, .ref (18 + 8 * s), .int (nB dr)] μ (zR μ (.long (tX dr (μ.1 (18 + 8 * s) 5) (μ.1 (18 + 8 * s) 7) (xLf μ) (μ.1 0 16) (μ.1 0 7)))) := gc_toldForms d hd μ s hs4 dr
noncomputable def tM0 (bt ao lf ph : Int32) : Int64 := (((((0 ||| (lb (decide (bt = 1)) 0)) ||| (lb (decide (bt = 2)) 1)) ||| (lb (!(decide (ao = 0))) 2)) ||| (lb ((decide (ph = 2)) && (decide (lf = 0))) 5)) ||| (lb (decide (ph = 3)) 7))
noncomputable def tM1 (bt ao lf bf : Int32) (n1 dd un : Bool) : Int64 := (((((((0 ||| (lb (decide (bt = 1)) 0)) ||| (lb (decide (bt = 2)) 1)) ||| (lb (!(decide (ao = 0))) 2)) ||| (lb ((decide (lf = 0)) && (decide (bf = 0))) 4)) ||| (lb (!(decide (bf = 0))) 6)) ||| (lb (n1 && dd) 42)) ||| (lb (n1 && (!dd && un)) 43))
theorem tX_0 (bt ao lf bf ph : Int32) : (tX false bt ao lf bf ph ||| 0) &&& tlm = tM0 bt ao lf ph := by
  unfold tX tM0
  generalize decide (bt = 1) = b1
  generalize decide (bt = 2) = b2
  generalize decide (ao = 0) = b3
  generalize decide (lf = 0) = b4
  generalize decide (bf = 0) = b5
  generalize decide (ph = 2) = b6
  generalize decide (ph = 3) = b7
  cases b1 <;> cases b2 <;> cases b3 <;> cases b4 <;> cases b5 <;> cases b6 <;> cases b7 <;> decide +kernel
noncomputable def t2X (un dz dd : Bool) : Int64 := bif un then (bif dz then 1 <<< ((bif dd then (42 : Int32) else 43).toInt64 &&& 63) else 0) else 0
theorem tX_1 (bt ao lf bf : Int32) (un dz dd n1 : Bool) (h1 : un = true → n1 = dz) (h2 : un = false → dd = true → n1 = false) : (tX true bt ao lf bf 1 ||| t2X un dz dd) &&& tlm = tM1 bt ao lf bf n1 dd un := by
  unfold tX tM1 t2X
  rw [show decide ((1 : Int32) = 2) = false from by decide, show decide ((1 : Int32) = 3) = false from by decide]
  generalize decide (bt = 1) = b1
  generalize decide (bt = 2) = b2
  generalize decide (ao = 0) = b3
  generalize decide (lf = 0) = b4
  generalize decide (bf = 0) = b5
  cases un with
  | true =>
    rw [h1 rfl]
    cases b1 <;> cases b2 <;> cases b3 <;> cases b4 <;> cases b5 <;> cases dz <;> cases dd <;> decide +kernel
  | false =>
    cases dd with
    | true =>
      rw [h2 rfl rfl]
      cases b1 <;> cases b2 <;> cases b3 <;> cases b4 <;> cases b5 <;> cases dz <;> decide +kernel
    | false =>
      cases b1 <;> cases b2 <;> cases b3 <;> cases b4 <;> cases b5 <;> cases dz <;> cases n1 <;> decide +kernel
theorem wi_3 : ∀ s, s < 4 → ∀ dl, dl < 4 → ∀ rd, rd < 2 → (((nI s - nI dl) &&& 3) ||| (nI rd <<< ((2 : Int32) &&& (31 : Int32)) : Int32) : Int32) &&& (3 : Int32) = wdM (nI dl) (nI s) ∧ (((((nI s - nI dl) &&& 3) ||| (nI rd <<< ((2 : Int32) &&& (31 : Int32)) : Int32) : Int32) >>> ((2 : Int32) &&& (31 : Int32)) : Int32) &&& (3 : Int32)) = nI rd := by decide +kernel
theorem and63 : ∀ n, n < 64 → nI n &&& 63 = nI n := by decide +kernel
theorem deF_nat {A : Nat → Int32} {b : Bool} (hA : ∀ p, 126 ≤ p → p < 136 → ∃ a, a ≤ 5 ∧ A p = nI a) : ∀ n, n ≤ 5 → ∃ N, N ≤ 10 * n ∧ deF A b n = nI N
  | 0, _ => ⟨0, by decide, rfl⟩
  | n + 1, h => by
    obtain ⟨N, h1, h2⟩ := deF_nat (b := b) hA n (by omega)
    obtain ⟨a1, h3, h4⟩ := hA (126 + 2 * n) (by omega) (by omega)
    obtain ⟨a2, h5, h6⟩ := hA (127 + 2 * n) (by omega) (by omega)
    show ∃ N, N ≤ 10 * (n + 1) ∧ (deF A b n + A (126 + 2 * n)) + (bif b then A (127 + 2 * n) else 0) = nI N
    cases b with
    | true => exact ⟨N + a1 + a2, by omega, by rw [cond_true, h2, h4, h6, nI_add, nI_add]⟩
    | false => exact ⟨N + a1, by omega, by rw [cond_false, h2, h4, nI_add, Int32.add_zero]⟩
theorem mdJJ_r : mdJJ.all (fun q => Nat.ble 14 q.1 && Nat.ble q.1 17) = true := by decide
theorem wo_fz {j : Nat} (hj : j < 4) {μ μ' : zM} (h : a_Fz mdJJ (sMm j μ) (sMm j μ')) : WOj μ μ' := fun r k hr => by
  have inv : ∀ r, sgm j (sgm j r) = r := (RN_sgm j hj).1
  have z := h.1 (sgm j r) k (fz_out (fun q hq e => by
    have y := List.all_eq_true.mp mdJJ_r q hq
    obtain ⟨y1, y2⟩ := z_and y
    have y1 := Nat.le_of_ble_eq_true y1
    have y2 := Nat.le_of_ble_eq_true y2
    have e2 : sgm j q.1 = r := by rw [e]; exact inv r
    obtain ⟨-, -, -, -, -, s14, s15, s16, s17⟩ := sgm_r j hj
    obtain e3 | e3 | e3 | e3 : q.1 = 14 ∨ q.1 = 15 ∨ q.1 = 16 ∨ q.1 = 17 := by omega
    · rw [e3, s14] at e2; omega
    · rw [e3, s15] at e2; omega
    · rw [e3, s16] at e2; omega
    · rw [e3, s17] at e2; omega))
  have a : ∀ ν : zM, (sMm j ν).1 (sgm j r) k = ν.1 r k ∧ (sMm j ν).2.1 (sgm j r) k = ν.2.1 r k := fun ν => by
    show ν.1 (sgm j (sgm j r)) k = _ ∧ ν.2.1 (sgm j (sgm j r)) k = _
    rw [inv]; exact ⟨rfl, rfl⟩
  rw [(a μ).1, (a μ').1, (a μ).2, (a μ').2] at z
  exact z
theorem hf_put {x m : zM} {s : Nat} {w aw : Nat → Nat} {q : Nat} {sL lL : Nat → Nat} (H : HF x m s w aw q sL lL) (hs : s < 4) {k : Nat} (hk : k < 34) (h3 : aw k ≤ 3) : HF (pS x s k 1) (z_giv m s k 1) s (ad1 w k) (ad1 aw k) q sL lL := by
  obtain ⟨e, he⟩ := H.aw hk
  obtain ⟨g1, g2, g3, g4, g5, g6, g7, g8⟩ := H
  have as : ∀ f : Nat → Nat, ad1 f k k = f k + 1 := fun f => if_pos rfl
  have ao : ∀ (f : Nat → Nat) j, j ≠ k → ad1 f k j = f j := fun f j h => if_neg h
  refine ⟨⟨fun j hj => ?_, ?_, g1.2.2.1, fun j hj => ?_⟩, fun j hj => ?_, fun j hj => ?_, ?_, fun hq j hj => ?_, fun j hj => ?_, ?_, fun j hj => ?_⟩
  · rw [giv_60]
    by_cases e2 : j = k
    · subst e2; rw [if_pos rfl, (g1.1 j hj).1, nI_s1, as]; exact ⟨rfl, by omega⟩
    · rw [if_neg (by omega), ao _ _ e2]; exact g1.1 j hj
  · rw [giv_o (by decide)]; exact g1.2.1
  · rw [giv_o (by decide), giv_o (by decide)]; exact g1.2.2.2 j hj
  · unfold pS
    by_cases e2 : j = k
    · subst e2; simp (disch := first | decide | exact ad_ne (by decide) | exact ad_m (by decide) | exact ad_l (by decide) | exact ad_g (by decide) | exact ad_lt (by decide) | exact ad_o (by decide) | omega) only [↓ui_s, ↓ui_o, ↓ui_k, ui_s, ui_o, ui_k]; rw [(g2 j hj).1, nI_s1, as]; exact ⟨rfl, by omega⟩
    · simp (disch := first | decide | exact ad_ne (by decide) | exact ad_m (by decide) | exact ad_l (by decide) | exact ad_g (by decide) | exact ad_lt (by decide) | exact ad_o (by decide) | omega) only [↓ui_s, ↓ui_o, ↓ui_k, ui_s, ui_o, ui_k]; rw [ao _ _ e2]; exact g2 j hj
  · unfold pS
    by_cases e2 : j = k
    · subst e2; simp (disch := first | decide | exact ad_ne (by decide) | exact ad_m (by decide) | exact ad_l (by decide) | exact ad_g (by decide) | exact ad_lt (by decide) | exact ad_o (by decide) | omega) only [↓ui_s, ↓ui_o, ↓ui_k, ui_s, ui_o, ui_k]; rw [(g3 j hj).1, nI_s1, as]; exact ⟨rfl, by omega⟩
    · simp (disch := first | decide | exact ad_ne (by decide) | exact ad_m (by decide) | exact ad_l (by decide) | exact ad_g (by decide) | exact ad_lt (by decide) | exact ad_o (by decide) | omega) only [↓ui_s, ↓ui_o, ↓ui_k, ui_s, ui_o, ui_k]; rw [ao _ _ e2]; exact g3 j hj
  · unfold pS; simp (disch := first | decide | exact ad_ne (by decide) | exact ad_m (by decide) | exact ad_l (by decide) | exact ad_g (by decide) | exact ad_lt (by decide) | exact ad_o (by decide) | omega) only [↓ui_s, ↓ui_o, ↓ui_k, ui_s, ui_o, ui_k]; exact g4
  · unfold ad1; rw [g5 hq j hj]
  · by_cases e2 : j = k
    · subst e2; rw [as]; omega
    · rw [ao _ _ e2]; exact g6 j hj
  · unfold pS; rw [ui_s, g7, sn_ad1 hk, nI_s1]
  · rw [show (fun i => (z_giv m s k 1).1 62 (4 * s + i)) = (fun i => m.1 62 (4 * s + i)) from funext fun i => giv_o (by decide), show (fun i => (z_giv m s k 1).1 63 (4 * s + i)) = (fun i => m.1 63 (4 * s + i)) from funext fun i => giv_o (by decide)]
    by_cases e2 : j = k
    · subst e2; rw [as, as, ← nI_s1, ← nI_s1, ofv_p, ← g8 j hj]
    · rw [ao _ _ e2, ao _ _ e2]; exact g8 j hj
theorem aw_3 {x m : zM} {p t c s : Nat} {w aw : Nat → Nat} {q : Nat} {sL lL : Nat → Nat} (R : RCl x m) (P : RPh x m p t c) (hA : a_H m) (hp : p ≠ 1) (hs : s < 4) (hst : s ≠ t) (H : HF x m s w aw q sL lL) (hc : c < 34) : aw c ≤ 3 := by
  obtain ⟨a, ha1, ha2⟩ := P.tc
  obtain ⟨sd, hsd⟩ := R.wp P.is
  have ht4 := P.t4
  have hnx : (m.1 50 46).toNatClampNeg ≤ 122 := by
    obtain ⟨n, h1, h2⟩ := i_nat (v := m.1 50 46) (n := 122) (hA 50 46).1 (hA 50 46).2 (by decide)
    rw [h2, nI_clamp (by omega)]; exact h1
  have hbk : (m.1 50 48).toNatClampNeg ≤ 14 := by
    obtain ⟨n, h1, h2⟩ := i_nat (v := m.1 50 48) (n := 4) (hA 50 48).1 (hA 50 48).2 (by decide)
    rw [h2, nI_clamp (by omega)]; omega
  have h1 := ha2 c hc
  have h2 := cW_4 sd (f := fW m) hsd hc hnx hbk
  have e : a s c = aw c := by
    have y := (ha1 s c hs hc).symm.trans (H.2.2.1 c hc).1
    have y2 := (H.2.2.1 c hc).2
    refine (nI_eq ?_ (by omega)).mp y
    obtain rfl | rfl | rfl | rfl := t_four hs <;> omega
  rcases P.p3 with y | y | y
  · exact absurd y hp
  · rw [if_pos ⟨y, rfl⟩] at h1
    rw [← e]
    obtain rfl | rfl | rfl | rfl := t_four hs <;> omega
  · have z := P.a3 y
    rw [ha1 t c ht4 hc] at z
    have z2 : a t c ≠ 0 := fun e => z (by rw [e]; rfl)
    rw [← e]
    obtain rfl | rfl | rfl | rfl := t_four hs <;> obtain rfl | rfl | rfl | rfl := t_four ht4 <;> first | exact absurd rfl hst | omega
/-- the class's worth of a hand -/
noncomputable def BX (w aw : Nat → Nat) (q c : Nat) (sL lL : Nat → Nat) (dr : Bool) (told : Int64) (wi de : Int32) (v : Q4) : Prop := (¬ VAL w q (nI c) ∧ v = (0, 0, 0, 0)) ∨ (VAL w q (nI c) ∧ ∃ κ μ', KC κ w aw q sL lL (nI c) dr told (27 + (wi &&& 3)) (rw9 wi) de ∧ CI (SCl κ w q sL lL 34) 5000 μ' ∧ bqC μ' = v)
/-- the reference's -/
noncomputable def BM (w : Nat → Nat) (q c : Nat) (sL lL : Nat → Nat) (dr : Bool) (told : Int64) (wd rd de : Int32) (b : Q4) : Prop := ∃ κ, KM κ w q sL lL (nI c) dr told wd rd de ∧ BS (SR κ w q sL lL) (0, 0, 0, 0) b
theorem wo_eq {x m : zM} {s : Nat} {w aw : Nat → Nat} {q c : Nat} {sL lL : Nat → Nat} (H : HF x m s w aw q sL lL) (hc : c < 34) (hw : 0 < w c) {dr : Bool} {told told' : Int64} {wi wd rd de : Int32} (ht : told &&& tlm = told') (h1 : wi &&& 3 = wd) (h2 : (wi >>> (2 &&& 31)) &&& 3 = rd) (h3 : de &&& 63 = de) {v b : Q4} (hX : BX w aw q c sL lL dr told wi de v) (hM : BM w q c sL lL dr told' wd rd de b) : v.1 = b.1 ∧ v.2.1 = b.2.1 ∧ v.2.2.2 = b.2.2.2 := by
  obtain ⟨κ, hM, hB⟩ := hM
  have hq := H.1.2.2.1
  rcases hX with ⟨nv, e0⟩ | ⟨V, κC, μ', hC, hI, e0⟩
  · have b0 : b = (0, 0, 0, 0) := hB.1.resolve_right (fun y => nv ⟨y.1, vp_in_nI hc (by decide), by rw [nI_clamp (by omega)]; exact hw⟩)
    rw [e0, b0]
    exact ⟨rfl, rfl, rfl⟩
  · rw [← h3] at hC
    rw [← ht, ← h1, ← h2, ← h3] at hM
    rw [← e0]
    refine both hq hc V.1 (fun j hj => ⟨(H.1.2.2.2 j hj).2.1, (H.1.2.2.2 j hj).2.2.2.1, (H.1.2.2.2 j hj).2.2.2.2⟩) (fun i hi => ⟨?_, by have := H.2.2.2.2.2.1 i hi; omega⟩) H.2.2.2.2.1 hC hM hI hB
    rw [hM.r58 i hi, ofv_cg (s' := fun i => m.1 62 (4 * s + i)) (l' := fun i => m.1 63 (4 * s + i)) q (fun j hj => ⟨by rw [(hM.r52 j hj).1, (H.1.2.2.2 j hj).1], by rw [(hM.r52 j hj).2.2.1, (H.1.2.2.2 j hj).2.2.1]⟩), ← H.2.2.2.2.2.2.2 i hi]
/-! what a hand is worth: the calls -/
set_option maxRecDepth 8000
noncomputable abbrev wiN (s dl rd : Nat) : Int32 := ((nI s - nI dl) &&& 3) ||| (nI rd <<< ((2 : Int32) &&& (31 : Int32)) : Int32)
/-- the kinds in the wall -/
noncomputable def Wm (m : zM) (p : Nat) : Nat := (m.1 59 p).toNatClampNeg
theorem Wm_e {m : zM} (hA : a_H m) (p : Nat) : m.1 59 p = nI (Wm m p) ∧ Wm m p < 34 := by
  obtain ⟨n, h1, h2⟩ := i_nat (v := m.1 59 p) (n := 33) (hA 59 p).1 (hA 59 p).2 (by decide)
  unfold Wm
  rw [h2, nI_clamp (by omega)]
  exact ⟨rfl, by omega⟩
/-- dear tiles -/
noncomputable def deM (m : zM) (s : Nat) (w : Nat → Nat) (q f : Nat) : Int32 := deF (dAs m s w (Wm m) q) (!(decide ((m.1 67 s) ≤ 0))) (f + 1)
theorem dear_p {x m m0 : zM} {s : Nat} {w aw : Nat → Nat} {q : Nat} {sL lL : Nat → Nat} (H : HF x m s w aw q sL lL) (h62 : ∀ i, m.1 62 (4 * s + i) = m0.1 62 (4 * s + i)) (h63 : ∀ i, m.1 63 (4 * s + i) = m0.1 63 (4 * s + i)) {p : Nat} (hA : a_H m0) (h3 : x.1 3 p = m0.1 59 p) : fr x (21 + 8 * s) (bhd (x.1 3 p)) = dAs m0 s w (Wm m0) q p ∧ ∃ a, a ≤ 5 ∧ dAs m0 s w (Wm m0) q p = nI a := by
  obtain ⟨e1, e2⟩ := Wm_e hA p
  have hb := bhd_in (Wm m0 p) e2
  obtain ⟨v, hv, ev⟩ := vp_in_of hb (by decide)
  have z : fr x (21 + 8 * s) (bhd (x.1 3 p)) = dAs m0 s w (Wm m0) q p := by
    unfold dAs
    rw [h3, e1, ev, fr_yes hv, nI_clamp (by omega), (H.2.2.1 v hv).1, H.2.2.2.2.2.2.2 v hv, show (fun i => m.1 62 (4 * s + i)) = (fun i => m0.1 62 (4 * s + i)) from funext h62, show (fun i => m.1 63 (4 * s + i)) = (fun i => m0.1 63 (4 * s + i)) from funext h63]
  refine ⟨z, aw v, (H.2.2.1 v hv).2, ?_⟩
  rw [← z, h3, e1, ev, fr_yes hv]
  exact (H.2.2.1 v hv).1
theorem de_63 {x m m0 : zM} {s : Nat} {w aw : Nat → Nat} {q : Nat} {sL lL : Nat → Nat} (H : HF x m s w aw q sL lL) (h62 : ∀ i, m.1 62 (4 * s + i) = m0.1 62 (4 * s + i)) (h63 : ∀ i, m.1 63 (4 * s + i) = m0.1 63 (4 * s + i)) (hA : a_H m0) (h3 : ∀ p, p < 136 → x.1 3 p = m0.1 59 p) {f : Nat} (hf : f ≤ 4) : deM m0 s w q f &&& 63 = deM m0 s w q f := by
  obtain ⟨N, h1, h2⟩ := deF_nat (A := dAs m0 s w (Wm m0) q) (b := !(decide ((m0.1 67 s) ≤ 0))) (fun p h1 h2 => (dear_p H h62 h63 hA (h3 p h2)).2) (f + 1) (by omega)
  unfold deM
  rw [h2]
  exact and63 N (by omega)
theorem WE_TE {x M : zM} (h : WE x M) : TE x M := fun i hi a h1 h2 k => (h (a + 8 * i) k (Or.inr (by omega)) (Or.inr ⟨by omega, by omega, by omega, by omega⟩) (Or.inl (by omega)) ⟨by omega, by omega, by omega, by omega⟩).1
theorem bt_not {x m : zM} (R : RCl x m) {s : Nat} (hs : s < 4) : (!decide (x.1 (18 + 8 * s) 5 = 0)) = !(decide ((m.1 67 s) ≤ 0)) := by
  rw [R.be s hs, bet_le R hs]
/-- judging, of the class -/
theorem jd_x {M m : zM} {s : Nat} {w aw : Nat → Nat} {q c : Nat} {sL lL : Nat → Nat} (H : HF M m s w aw q sL lL) (hs : s < 4) (hA : a_H M) (hso : ∀ i, i < q → M.1 (22 + 8 * s) i = nI (sL i) ∧ M.1 (23 + 8 * s) i = nI (lL i)) (dr : Bool) (told : Int64) (wi de : Int32) : ∀ d, 8 ≤ d → z_C d mi_X1_judge [.ref 4, .ref (19 + 8 * s), .int (nI c), .int (nB dr), .long told, .int wi, .int de] M (fun r μ' => r = none ∧ (WOj M μ' ∧ a_H μ' ∧ BX w aw q c sL lL dr told wi de (bqJ μ'))) := fun d hd => by
  refine z_C_mono (gc_judge d hd M s hs w aw q H.1.2.2.1 sL lL (fun i hi => ⟨(H.1.2.2.2 i hi).2.1, (H.1.2.2.2 i hi).2.2.2.1⟩) (fun k hk => (H.1.1 k hk).2) H.2.1 H.2.2.1 H.2.2.2.2.1 H.2.2.2.1 H.2.2.2.2.2.2.1 hso hA (nI c) wi de dr told) (fun r μ' z => ?_)
  obtain ⟨z1, z2, z3, z4⟩ := z
  have eb : bqC (sMm s μ') = bqJ μ' := by
    unfold bqC bqJ
    rw [sM14 hs, sM14 hs, sM14 hs, sM14j hs]
  refine ⟨z1, wo_fz hs z3, ?_, ?_⟩
  · have y := a_H_sg hs z2
    rw [sM_sM hs] at y
    exact y
  · rw [← eb]
    rcases z4 with ⟨a, b⟩ | ⟨a, κ, b, e⟩
    · exact Or.inl ⟨a, b⟩
    · exact Or.inr ⟨a, κ, _, b, e, rfl⟩
theorem left_x {x m M : zM} {p t c : Nat} (R : RCl x m) (P : RPh x m p t c) (h1 : M.1 2 1 = x.1 2 1) (h2 : M.1 2 2 = x.1 2 2) (h3 : M.1 2 3 = x.1 2 3) : xLf M = 122 - m.1 50 47 - m.1 50 46 := by
  unfold xLf
  rw [h1, h2, h3, R.sd, P.is, P.fo, R.nx, show decide ((1 : Int32) = 0) = false from by decide, cond_false]
/-- weighing a hand with the tile of another, of the class -/
theorem wx0 {x m : zM} {p t c s : Nat} {w aw : Nat → Nat} {q : Nat} {sL lL : Nat → Nat} (R : RCl x m) (P : RPh x m p t c) (hs : s < 4) (H : HF x m s w aw q sL lL) (hA : a_H m) (hc : c < 34) (h3 : aw c ≤ 3) {f dl rd : Nat} (hf : f ≤ 4) (hf47 : m.1 50 47 = nI f) (hdl : m.1 50 40 = nI dl) (hrd : m.1 50 41 = nI rd) : ∀ M, WE x M → a_H M → ∀ d, 10 ≤ d → z_C d mi_X6_weighHand [.ref 0, .int (nI s), .int 0] M (fun r μ' => ∃ μj, (μj.1 0 15 = nI c ∧ WOj (pS M s c 1) μj ∧ a_H μj ∧ BX (ad1 w c) (ad1 aw c) q c sL lL false (tX false (m.1 67 s) (m.1 69 s) (122 - m.1 50 47 - m.1 50 46) (x.1 0 16) (m.1 50 44) ||| 0) (wiN s dl rd) (deM m s (ad1 w c) q f) (bqJ μj)) ∧ μ' = pS μj s c (-1) ∧ r = some (.int (μj.1 4 0))) := fun M hM hAM d hd => by
  have e0 : ∀ k, k ≠ 12 → k ≠ 6 → M.1 0 k = x.1 0 k := fun k h1 h2 => (hM 0 k (Or.inl (by decide)) (Or.inr ⟨by decide, by decide, by decide, by decide⟩) (Or.inr ⟨h1, h2⟩) ⟨by decide, by decide, by decide, by decide⟩).1
  have e18 : ∀ k, k ≠ 4 → M.1 (18 + 8 * s) k = x.1 (18 + 8 * s) k := fun k h1 => (hM _ k (Or.inr (by omega)) (Or.inl h1) (Or.inl (by omega)) ⟨by omega, by omega, by omega, by omega⟩).1
  have e2 : ∀ r k, r = 2 ∨ r = 3 → M.1 r k = x.1 r k := fun r k h1 => (hM r k (Or.inl (by omega)) (Or.inr ⟨by omega, by omega, by omega, by omega⟩) (Or.inl (by omega)) ⟨by omega, by omega, by omega, by omega⟩).1
  have HM := hf_put (H.te hs (WE_TE hM)) hs hc h3
  have pe : ∀ r k, (r < 19 + 8 * s ∨ 21 + 8 * s < r) → (pS M s c 1).1 r k = M.1 r k := fun r k h => by unfold pS; simp (disch := first | decide | exact ad_ne (by decide) | exact ad_m (by decide) | exact ad_l (by decide) | exact ad_g (by decide) | exact ad_lt (by decide) | exact ad_o (by decide) | omega) only [↓ui_s, ↓ui_o, ↓ui_k, ui_s, ui_o, ui_k]
  have hAp : a_H (pS M s c 1) := by
    unfold pS
    obtain rfl | rfl | rfl | rfl := t_four hs
    all_goals exact a_H_ui (a_H_ui (a_H_ui hAM (bI_top _)) (bI_top _)) (bI_top _)
  have w3 : ∀ p, p < 136 → (pS M s c 1).1 3 p = m.1 59 p := fun p hp => by rw [pe 3 p (by omega), e2 3 p (Or.inr rfl)]; exact R.wl p hp
  have h62 : ∀ i, (z_giv m s c 1).1 62 (4 * s + i) = m.1 62 (4 * s + i) := fun i => giv_o (by decide)
  have h63 : ∀ i, (z_giv m s c 1).1 63 (4 * s + i) = m.1 63 (4 * s + i) := fun i => giv_o (by decide)
  have c15 : M.1 0 15 = nI c := (e0 15 (by decide) (by decide)).trans (P.cx.trans (if_neg (by omega)))
  refine gc_weigh0 d hd M s c hs hc c15 (tX false (m.1 67 s) (m.1 69 s) (122 - m.1 50 47 - m.1 50 46) (x.1 0 16) (m.1 50 44)) 0 (deM m s (ad1 w c) q f) ((nI s - nI dl) &&& 3) (by rw [e0 9 (by decide) (by decide), R.dl, hdl]) (fun d hd => ?_) (fun d hd => gc_firstDraw d hd _ s hs false) (fun d hd => ?_) (fun μj => μj.1 0 15 = nI c ∧ WOj (pS M s c 1) μj ∧ a_H μj ∧ BX (ad1 w c) (ad1 aw c) q c sL lL false (tX false (m.1 67 s) (m.1 69 s) (122 - m.1 50 47 - m.1 50 46) (x.1 0 16) (m.1 50 44) ||| 0) (wiN s dl rd) (deM m s (ad1 w c) q f) (bqJ μj)) (fun μj z => z.1) (fun d hd => ?_)
  · have z := tX_c d hd (pS M s c 1) s hs false
    rw [pe _ 5 (by omega), pe _ 7 (by omega), pe 0 16 (by omega), pe 0 7 (by omega), e18 5 (by decide), e18 7 (by decide), e0 16 (by decide) (by decide), e0 7 (by decide) (by decide), R.be s hs, R.ao s hs, left_x R P ((pe 2 1 (by omega)).trans (e2 2 1 (Or.inl rfl))) ((pe 2 2 (by omega)).trans (e2 2 2 (Or.inl rfl))) ((pe 2 3 (by omega)).trans (e2 2 3 (Or.inl rfl))), P.px, ← P.pm] at z
    exact z
  · have z := gc_dear d hd (pS M s c 1) s hs (!decide (M.1 (18 + 8 * s) 5 = 0)) f hf (by rw [pe 2 1 (by omega), e2 2 1 (Or.inl rfl), R.sd, P.is]) (by rw [pe 2 3 (by omega), e2 2 3 (Or.inl rfl), P.fo]; exact hf47)
    rw [deF_cg (B := dAs m s (ad1 w c) (Wm m) q) (f + 1) (fun p h1 h2 => (dear_p HM h62 h63 hA (w3 p (by omega))).1), e18 5 (by decide), bt_not R hs] at z
    rw [e18 5 (by decide), bt_not R hs]
    exact z
  · have z := jd_x (c := c) HM hs hAp (fun i hi => ⟨by rw [pe _ i (by omega), WE_TE hM s hs 22 (by decide) (by decide), R.so s i hs (by have := H.1.2.2.1; omega)]; exact (H.1.2.2.2 i hi).1, by rw [pe _ i (by omega), WE_TE hM s hs 23 (by decide) (by decide), R.lo s i hs (by have := H.1.2.2.1; omega)]; exact (H.1.2.2.2 i hi).2.2.1⟩) false (tX false (m.1 67 s) (m.1 69 s) (122 - m.1 50 47 - m.1 50 46) (x.1 0 16) (m.1 50 44) ||| 0) (wiN s dl rd) (deM m s (ad1 w c) q f) d hd
    rw [e0 10 (by decide) (by decide), R.rn, hrd]
    exact z_C_mono z (fun r μ' y => ⟨y.1, (y.2.1 0 15 (Or.inl (by decide))).1.trans ((pe 0 15 (by omega)).trans c15), y.2⟩)
/-- weighing, of the reference -/
theorem wm0 {x m : zM} {s c : Nat} {w aw : Nat → Nat} {q : Nat} {sL lL : Nat → Nat} (hs : s < 4) (H : HF x m s w aw q sL lL) (hA : a_H m) (hc : c < 34) {f dl rd : Nat} (hf : f ≤ 4) (hf47 : m.1 50 47 = nI f) (hdl : m.1 50 40 = nI dl) (hrd : m.1 50 41 = nI rd) : ∀ M, SVl m M → a_H M → ∀ d, 699 ≤ d → z_C d mi_X7_value [.ref 50, .int (nI s), .int (nI c), .int 0] M (fun r W => r = none ∧ a_H W ∧ SMj M W ∧ BM (ad1 w c) q c sL lL false (tM0 (m.1 67 s) (m.1 69 s) (122 - m.1 50 47 - m.1 50 46) (m.1 50 44)) (wdM (nI dl) (nI s)) (nI rd) (deM m s (ad1 w c) q f) (bq W)) := fun M hM hAM d hd => by
  have e5 : ∀ k, (k = 40 ∨ k = 41 ∨ k = 44 ∨ k = 46 ∨ k = 47 ∨ k = 56 ∨ k = 58) → M.1 50 k = m.1 50 k := fun k h => hM 50 k (by omega)
  have e6 : ∀ r k, (r = 59 ∨ r = 60 ∨ r = 62 ∨ r = 63 ∨ r = 64 ∨ r = 67 ∨ r = 68 ∨ r = 69) → M.1 r k = m.1 r k := fun r k h => hM r k (by omega)
  have eW : ∀ p, Wm M p = Wm m p := fun p => by unfold Wm; rw [e6 59 p (by omega)]
  have z := gm_value0 d (by omega) M hAM s c hs hc w q sL lL (H.1.se (fun r k g => e6 r k (by omega))) f hf ((e5 47 (by omega)).trans hf47) (Wm M) (fun p _ _ => Wm_e hAM p)
  refine z_C_mono z (fun r W y => ⟨y.1, y.2.1, y.2.2.1, ?_⟩)
  obtain ⟨κ, k1, k2⟩ := y.2.2.2.2
  refine ⟨κ, ?_, k2⟩
  have ed : dAs M s (ad1 w c) (Wm M) q = dAs m s (ad1 w c) (Wm m) q := by
    funext p
    unfold dAs
    rw [eW p, show (fun i => M.1 62 (4 * s + i)) = (fun i => m.1 62 (4 * s + i)) from funext fun i => e6 62 _ (by omega), show (fun i => M.1 63 (4 * s + i)) = (fun i => m.1 63 (4 * s + i)) from funext fun i => e6 63 _ (by omega)]
  rw [ed, e6 67 s (by omega), e6 69 s (by omega), e5 44 (by omega), e5 40 (by omega), e5 41 (by omega), hdl, hrd] at k1
  unfold tM0 deM
  rw [← e5 47 (by omega), ← e5 46 (by omega)]
  exact k1
/-- both weigh alike -/
theorem wb0 {x m : zM} {p t c s : Nat} {w aw : Nat → Nat} {q : Nat} {sL lL : Nat → Nat} (R : RCl x m) (P : RPh x m p t c) (hs : s < 4) (H : HF x m s w aw q sL lL) (hA : a_H m) (hc : c < 34) (h3 : aw c ≤ 3) {f dl rd : Nat} (hf : f ≤ 4) (hdl4 : dl < 4) (hrd2 : rd < 2) {v b : Q4} (hX : BX (ad1 w c) (ad1 aw c) q c sL lL false (tX false (m.1 67 s) (m.1 69 s) (122 - m.1 50 47 - m.1 50 46) (x.1 0 16) (m.1 50 44) ||| 0) (wiN s dl rd) (deM m s (ad1 w c) q f) v) (hM : BM (ad1 w c) q c sL lL false (tM0 (m.1 67 s) (m.1 69 s) (122 - m.1 50 47 - m.1 50 46) (m.1 50 44)) (wdM (nI dl) (nI s)) (nI rd) (deM m s (ad1 w c) q f) b) : v.1 = b.1 ∧ v.2.1 = b.2.1 ∧ v.2.2.2 = b.2.2.2 := by
  have H' := hf_put H hs hc h3
  have w3 : ∀ p, p < 136 → (pS x s c 1).1 3 p = m.1 59 p := fun p hp => by unfold pS; simp (disch := first | decide | exact ad_ne (by decide) | exact ad_m (by decide) | exact ad_l (by decide) | exact ad_g (by decide) | exact ad_lt (by decide) | exact ad_o (by decide) | omega) only [↓ui_s, ↓ui_o, ↓ui_k, ui_s, ui_o, ui_k]; exact R.wl p hp
  exact wo_eq H' hc (by show 0 < ad1 w c c; unfold ad1; rw [if_pos rfl]; omega) (tX_0 _ _ _ _ _) (wi_3 s hs dl hdl4 rd hrd2).1 (wi_3 s hs dl hdl4 rd hrd2).2 (de_63 H' (fun i => giv_o (by decide)) (fun i => giv_o (by decide)) hA w3 hf) hX hM
/-! the whole worth is alike where there is a base -/
set_option maxRecDepth 8000
theorem BS_both9 {S : Q4 → Prop} {f c m : Q4} (hf : S f) (hc : BS S f c) (hm : BS (fun x => S x ∧ ¬ x.2.2.2 = 0) (0, 0, 0, 0) m) (hz : ∀ x, S x → x.2.2.2 = 0 → x.1 = 0 ∧ x.2.1 = 0) (hp : ∀ x, S x → ¬ x.2.2.2 = 0 → 0 < x.1) : ¬ c.1 = 0 → c = m := by
  intro nz
  have hS : S c := by
    rcases hc.1 with e | e
    · rw [e]; exact hf
    · exact e
  have c0 : ¬ c.2.2.2 = 0 := fun e => nz (hz c hS e).1
  have hmS : S m ∧ ¬ m.2.2.2 = 0 := by
    rcases hm.1 with e | e
    · exact absurd (Or.inl (by rw [e]; exact hp c hS c0)) (hm.2.2 c ⟨hS, c0⟩)
    · exact e
  exact g4_anti (hm.2.2 c ⟨hS, c0⟩) (hc.2.2 m hmS.1)
theorem both9 {κC κM μ' : zM} {w aw : Nat → Nat} {q kk : Nat} {sL lL : Nat → Nat} {dr : Bool} {told : Int64} {wi de : Int32} {b : Q4} (hq : q ≤ 4) (hk : kk < 34) (h14 : sn w 34 + 3 * q = 14) (hL : ∀ j, j < q → sL j ≤ 3 ∧ lL j < 34 ∧ (sL j = 0 → rs (lL j))) (haw : ∀ i, i < 34 → ofv (κM.1 58 i) (κM.1 52) (κM.1 53) (nI i) q = nI (aw i) ∧ aw i < 100) (aw0 : q = 0 → ∀ k, k < 34 → aw k = w k) (hC : KC κC w aw q sL lL (nI kk) dr told (27 + (wi &&& 3)) (rw9 wi) (de &&& 63)) (hM : KM κM w q sL lL (nI kk) dr (told &&& tlm) (wi &&& 3) ((wi >>> (2 &&& 31)) &&& 3) (de &&& 63)) (hI : CI (SCl κC w q sL lL 34) 5000 μ') (hB : BS (SR κM w q sL lL) (0, 0, 0, 0) b) : ¬ (bqC μ').1 = 0 → bqC μ' = b := by
  obtain ⟨u, hu, eu⟩ := and_n wi 3 (by decide)
  obtain ⟨v, hv, ev⟩ := and_n (wi >>> (2 &&& 31)) 3 (by decide)
  obtain ⟨m, hm, em⟩ := and_n de 63 (by decide)
  have eu : wi &&& 3 = nI u := eu
  have ev : (wi >>> (2 &&& 31)) &&& 3 = nI v := ev
  have em : de &&& 63 = nI m := em
  have n27 : ∀ x, (27 : Int32) + nI x = nI (27 + x) := fun x => nI_add 27 x
  have k : KK κC κM q kk (de &&& 63) dr (xOr (κC.1 12) q) (27 + u) (27 + v) := ⟨hC.d4, hC.c6, hC.c7, hC.c8, (by rw [hC.c9, eu, n27]), (by rw [hC.c10]; show 27 + _ = _; rw [← sh3, ev, n27]), hC.c11, hM.c4, hM.c7, (by rw [hM.c8, eu, n27]), (by rw [hM.c9, ev, n27]), hM.c10, hM.c11, xOr_xOp κC κM sL q (fun j hj => (hC.r12 j hj).1) (fun j hj => (hM.r52 j hj).1), (by omega), (by omega), hk⟩
  have t : TTw κC κM q told (fun k => decide (0 < aw k)) := ⟨(by rw [hC.t12, NG_eq κC κM q hq w aw hC.d4 hM.c4 hC.r10 hM.r58 aw0]), (by rw [hM.t12, tlm_c]), (tF_N κM q (fun k => decide (0 < aw k)) (fun i hi => by
      rw [(haw i hi).1]
      have := (haw i hi).2
      show decide (nI (aw i) = 0) = !decide (0 < aw i)
      by_cases c : 0 < aw i
      · rw [decide_eq_true c, decide_eq_false (fun z => by have := (nI_eq (show aw i < 2 ^ 31 by omega) (show 0 < 2 ^ 31 by decide)).mp z; omega)]; rfl
      · rw [decide_eq_false c, show aw i = 0 by omega]; rfl) 34 0 (by omega))⟩
  -- a way
  have way : ∀ (p : Nat), p < 34 → ∀ t9 r9 : Nat → Nat, PW (sb2 w p) t9 r9 → sn (fun k => t9 k + r9 k) 34 = 4 - q → ∀ co, q ≤ co → co < 5 → WY q p co (sA q sL (flt t9 r9 34 0)) (lA q lL (flt t9 r9 34 0)) := fun p hp t9 r9 h1 h2 co h3 h4 => flt_WY hq hp h4 h3 h1.1 hL (by rw [flt_len]; omega)
  have eS : ∀ x, SR κM w q sL lL x ↔ (SCl κC w q sL lL 34 x ∧ ¬ x.2.2.2 = 0) := by
    intro x
    have opq : q = 0 → xOr (κC.1 12) q = false := fun z => by rw [z]; rfl
    have d50 : q = 0 → κC.1 9 4 = 0 ∧ κC.1 9 5 = 14 := fun z => ⟨by rw [hC.d4, z]; rfl, by rw [hC.d5, show sn w 34 = 14 by omega]; rfl⟩
    have q0 : κC.1 9 4 = 0 → q = 0 := fun z => by rw [hC.d4] at z; exact (nI_eq (by omega) (by decide)).mp z
    have f7 : S7 κM w q x ↔ (S7c κC w x ∧ ¬ x.2.2.2 = 0) := by
      constructor
      · rintro ⟨⟨z0, z7⟩, e, n0⟩
        have v := v7_eq k t (opq z0)
        refine ⟨⟨⟨(f7_iff (by omega)).mpr z7, d50 z0⟩, ?_⟩, n0⟩
        rw [e] at n0
        rw [e, v.2 (by rw [v.1]; exact n0)]
      · rintro ⟨⟨⟨z7, z4, z5⟩, e⟩, n0⟩
        have z0 := q0 z4
        have v := v7_eq k t (opq z0)
        refine ⟨⟨z0, (f7_iff (by omega)).mp z7⟩, ?_, n0⟩
        rw [e] at n0
        rw [e, v.2 n0]
    have f13 : S13 κM w q x ↔ (S13c κC w x ∧ ¬ x.2.2.2 = 0) := by
      have hb : q = 0 → (∀ k, k < 34 → (0 < w k ↔ eN k = true)) → ∀ j, j < 34 → (fun k => decide (0 < aw k)) j = eN j := fun z0 z j hj => by
        show decide (0 < aw j) = eN j
        rw [aw0 z0 j hj, Bool.eq_iff_iff, decide_eq_true_iff]; exact z j hj
      constructor
      · rintro ⟨⟨z0, z13⟩, e, n0⟩
        have z := (f13_iff (w := w) (by omega)).mpr z13
        have v := v13_eq k t (opq z0) (hb z0 z)
        refine ⟨⟨⟨(d50 z0).1, (d50 z0).2, z⟩, ?_⟩, n0⟩
        rw [e, v.2]
      · rintro ⟨⟨⟨z4, z5, z⟩, e⟩, n0⟩
        have z0 := q0 z4
        have v := v13_eq k t (opq z0) (hb z0 z)
        refine ⟨⟨z0, (f13_iff (by omega)).mp z⟩, ?_, n0⟩
        rw [e, v.2]
    have fi : Si κM w q sL lL 34 x ↔ (Sic κC w q sL lL 34 x ∧ ¬ x.2.2.2 = 0) := by
      constructor
      · rintro ⟨p, p1, p2, t9, r9, a1, a2, a3, co, c1, c2, c3, c4, c5⟩
        have W := way p p1 t9 r9 a1 a2 co c1 c2
        rw [List.nil_append] at c3 c4
        rw [hM.c7] at c3
        have v := W.val k t c3
        refine ⟨⟨p, p1, p2, t9, r9, a1, a2, a3, co, c1, c2, ?_, ?_⟩, c5⟩
        · rw [List.nil_append, hC.c6]; exact c3
        · rw [List.nil_append, c4]
          rw [c4] at c5
          rw [v.2 (by rw [v.1]; exact c5)]
      · rintro ⟨⟨p, p1, p2, t9, r9, a1, a2, a3, co, c1, c2, c3, c4⟩, c5⟩
        have W := way p p1 t9 r9 a1 a2 co c1 c2
        rw [List.nil_append] at c3 c4
        rw [hC.c6] at c3
        have v := W.val k t c3
        refine ⟨p, p1, p2, t9, r9, a1, a2, a3, co, c1, c2, ?_, ?_, c5⟩
        · rw [List.nil_append, hM.c7]; exact c3
        · rw [List.nil_append, c4]
          rw [c4] at c5
          rw [v.2 c5]
    unfold SR SCl
    rw [f7, f13, fi]
    constructor
    · rintro ⟨_, (z | z) | z⟩
      · exact ⟨Or.inr z.1, z.2⟩
      · exact ⟨Or.inl (Or.inl z.1), z.2⟩
      · exact ⟨Or.inl (Or.inr z.1), z.2⟩
    · rintro ⟨(z | z) | z, n0⟩
      · exact ⟨h14, Or.inl (Or.inr ⟨z, n0⟩)⟩
      · exact ⟨h14, Or.inr ⟨z, n0⟩⟩
      · exact ⟨h14, Or.inl (Or.inl ⟨z, n0⟩)⟩
  -- each is an offer
  have isO : ∀ x, SCl κC w q sL lL 34 x → ∃ (F : Int64) (n : Nat), 0 < n ∧ n < 300 ∧ x = vO (κC.1 14 8) (κC.1 14 11) F (nI n) := by
    rintro x ((z | z) | ⟨p, p1, p2, t9, r9, a1, a2, a3, co, c1, c2, c3, c4⟩)
    · exact ⟨_, 25, by omega, by omega, z.2⟩
    · exact ⟨_, 30, by omega, by omega, z.2⟩
    · have W := way p p1 t9 r9 a1 a2 co c1 c2
      rw [List.nil_append] at c3 c4
      rw [hC.c6] at c3
      obtain ⟨n, n1, n2, n3⟩ := W.fub k c3 (wFl (cM κC (sA q sL (flt t9 r9 34 0)) (lA q lL (flt t9 r9 34 0)) (nI p)) (nI co) (xWf (cM κC (sA q sL (flt t9 r9 34 0)) (lA q lL (flt t9 r9 34 0)) (nI p)) co)) (xHc0 (cM κC (sA q sL (flt t9 r9 34 0)) (lA q lL (flt t9 r9 34 0)) (nI p)) co) (xHc1 (cM κC (sA q sL (flt t9 r9 34 0)) (lA q lL (flt t9 r9 34 0)) (nI p)) co) (xHc2 (cM κC (sA q sL (flt t9 r9 34 0)) (lA q lL (flt t9 r9 34 0)) (nI p)) co) (xHc3 (cM κC (sA q sL (flt t9 r9 34 0)) (lA q lL (flt t9 r9 34 0)) (nI p)) co)
      exact ⟨_, n, n1, n2, c4.trans (congrArg (vO (κC.1 14 8) (κC.1 14 11) _) n3)⟩
  have hB2 := hB.iff eS
  obtain ⟨n, -, -, z | z⟩ := hI
  · have b0 : b = (0, 0, 0, 0) := hB2.1.resolve_right (fun y => z.2.2 _ y.1)
    intro nz
    rw [z.2.1] at nz
    exact absurd rfl nz
  · obtain ⟨_, f, hf, hbs⟩ := z
    have hz : ∀ x, SCl κC w q sL lL 34 x → x.2.2.2 = 0 → x.1 = 0 ∧ x.2.1 = 0 := fun x hx h0 => by
      obtain ⟨F, n, _, _, e⟩ := isO x hx
      rw [e] at h0 ⊢
      exact vO_z h0
    have hp : ∀ x, SCl κC w q sL lL 34 x → ¬ x.2.2.2 = 0 → 0 < x.1 := fun x hx h0 => by
      obtain ⟨F, n, n1, n2, e⟩ := isO x hx
      rw [e] at h0 ⊢
      exact vO_p n1 n2 (hC.c11.trans em) (by omega) h0
    exact BS_both9 hf hbs hB2 hz hp
theorem wo_eq9 {x m : zM} {s : Nat} {w aw : Nat → Nat} {q c : Nat} {sL lL : Nat → Nat} (H : HF x m s w aw q sL lL) (hc : c < 34) (hw : 0 < w c) {dr : Bool} {told told' : Int64} {wi wd rd de : Int32} (ht : told &&& tlm = told') (h1 : wi &&& 3 = wd) (h2 : (wi >>> (2 &&& 31)) &&& 3 = rd) (h3 : de &&& 63 = de) {v b : Q4} (hX : BX w aw q c sL lL dr told wi de v) (hM : BM w q c sL lL dr told' wd rd de b) (nz : ¬ v.1 = 0) : v = b := by
  obtain ⟨κ, hM, hB⟩ := hM
  have hq := H.1.2.2.1
  rcases hX with ⟨nv, e0⟩ | ⟨V, κC, μ', hC, hI, e0⟩
  · rw [e0] at nz
    exact absurd rfl nz
  · rw [← h3] at hC
    rw [← ht, ← h1, ← h2, ← h3] at hM
    rw [← e0] at nz ⊢
    refine both9 hq hc V.1 (fun j hj => ⟨(H.1.2.2.2 j hj).2.1, (H.1.2.2.2 j hj).2.2.2.1, (H.1.2.2.2 j hj).2.2.2.2⟩) (fun i hi => ⟨?_, by have := H.2.2.2.2.2.1 i hi; omega⟩) H.2.2.2.2.1 hC hM hI hB nz
    rw [hM.r58 i hi, ofv_cg (s' := fun i => m.1 62 (4 * s + i)) (l' := fun i => m.1 63 (4 * s + i)) q (fun j hj => ⟨by rw [(hM.r52 j hj).1, (H.1.2.2.2 j hj).1], by rw [(hM.r52 j hj).2.2.1, (H.1.2.2.2 j hj).2.2.1]⟩), ← H.2.2.2.2.2.2.2 i hi]
theorem wb09 {x m : zM} {p t c s : Nat} {w aw : Nat → Nat} {q : Nat} {sL lL : Nat → Nat} (R : RCl x m) (P : RPh x m p t c) (hs : s < 4) (H : HF x m s w aw q sL lL) (hA : a_H m) (hc : c < 34) (h3 : aw c ≤ 3) {f dl rd : Nat} (hf : f ≤ 4) (hdl4 : dl < 4) (hrd2 : rd < 2) {v b : Q4} (hX : BX (ad1 w c) (ad1 aw c) q c sL lL false (tX false (m.1 67 s) (m.1 69 s) (122 - m.1 50 47 - m.1 50 46) (x.1 0 16) (m.1 50 44) ||| 0) (wiN s dl rd) (deM m s (ad1 w c) q f) v) (hM : BM (ad1 w c) q c sL lL false (tM0 (m.1 67 s) (m.1 69 s) (122 - m.1 50 47 - m.1 50 46) (m.1 50 44)) (wdM (nI dl) (nI s)) (nI rd) (deM m s (ad1 w c) q f) b) (nz : ¬ v.1 = 0) : v = b := by
  have H' := hf_put H hs hc h3
  have w3 : ∀ p, p < 136 → (pS x s c 1).1 3 p = m.1 59 p := fun p hp => by unfold pS; simp (disch := first | decide | exact ad_ne (by decide) | exact ad_m (by decide) | exact ad_l (by decide) | exact ad_g (by decide) | exact ad_lt (by decide) | exact ad_o (by decide) | omega) only [↓ui_s, ↓ui_o, ↓ui_k, ui_s, ui_o, ui_k]; exact R.wl p hp
  exact wo_eq9 H' hc (by show 0 < ad1 w c c; unfold ad1; rw [if_pos rfl]; omega) (tX_0 _ _ _ _ _) (wi_3 s hs dl hdl4 rd hrd2).1 (wi_3 s hs dl hdl4 rd hrd2).2 (de_63 H' (fun i => giv_o (by decide)) (fun i => giv_o (by decide)) hA w3 hf) hX hM nz
/-! further refused calls -/
set_option maxRecDepth 8000
theorem gx_claimT (d : Nat) (hd : 3 ≤ d) (μ : zM) (s t : Nat) (hs4 : s < 4) (ht4 : t < 4) (ht : μ.1 0 8 = nI t) (hst : decide (nI s = nI t) = true) : z_C d mi_X6_claim [.ref 0, .int (nI s)] μ (fun r μ' => r = some (.int 0) ∧ μ' = μ) := by
  refine z_C_in (by decide) (by omega) (fun d' Z ed hc hr => ?_)
  have hH : zH mi_X6_claim zt_X6_claim 79 6 5 := hh_X6_claim
  refine z_rcs hc hH 1 (pc' := 1) (lv' := [(0, .ref 0), (1, .int (nI s))]) (st' := [.ref 0]) (μ' := μ) (by rfl) ?_
  refine zq_gfi hc hH (by rfl) (ci := 5) (f := 7) (by rfl) (by decide +kernel) (by rfl) ?_
  refine z_rcs hc hH 1 (pc' := 5) (lv' := [(0, .ref 0), (1, .int (nI s))]) (st' := [.int 2, .int (μ.1 0 7)]) (μ' := μ) (by rfl) ?_
  refine zq_ic hc hH (by rfl) (tg := 16) (by rfl) (fun h1 => ?_) (fun h1 => ?_)
  · have h1 : (decide ((μ.1 0 7) = 2)) = true := decide_eq_true (cm_eq9.mp h1)
    refine z_rcs hc hH 1 (pc' := 17) (lv' := [(0, .ref 0), (1, .int (nI s))]) (st' := [.int (nI s)]) (μ' := μ) (by rfl) ?_
    refine zq_call hc (z_cx_ok hH (by rfl)) (gc_isSeat d' (by omega) μ (nI s)) (by decide +kernel) (fun r9 μ9 hq => ?_)
    obtain ⟨hμ9, rfl⟩ := hq
    rw [hμ9]
    clear hμ9 μ9
    show Z 0 20 [(0, .ref 0), (1, .int (nI s))] [.int (nB (sI (nI s)))] μ
    refine zq_if hc hH (by rfl) (tg := 31) (by rfl) (fun h2 => ?_) (fun h2 => ?_)
    · have h2 : (sI (nI s)) = false := nB_z.mp (cm_eq9.mp h2)
      exact absurd (Eq.trans (Eq.symm (sI_n hs4)) h2) (by decide)
    · have h2 : (sI (nI s)) = true := nB_n.mp (cn_eq.mp h2)
      refine z_rcs hc hH 2 (pc' := 25) (lv' := [(0, .ref 0), (1, .int (nI s))]) (st' := [.ref 0, .int (nI s)]) (μ' := μ) (by rfl) ?_
      refine zq_gfi hc hH (by rfl) (ci := 5) (f := 8) (by rfl) (by decide +kernel) (by rfl) ?_
      rw [ht]
      refine zq_ic hc hH (by rfl) (tg := 33) (by rfl) (fun h3 => ?_) (fun h3 => ?_)
      · have h3 : (decide ((nI s) = (nI t))) = false := decide_eq_false (cm_ne.mp h3)
        exact absurd (Eq.trans (Eq.symm (hst)) h3) (by decide)
      · have h3 : (decide ((nI s) = (nI t))) = true := decide_eq_true (cn_ne.mp h3)
        refine z_rcs hc hH 1 (pc' := 32) (lv' := [(0, .ref 0), (1, .int (nI s))]) (st' := [.int 0]) (μ' := μ) (by rfl) ?_
        exact hr 0 32 _ _ _ (some (.int 0)) (by decide +kernel) (z_rx_ok hH (by rfl)) (⟨rfl, rfl⟩)
  · have h1 : (decide ((μ.1 0 7) = 2)) = false := decide_eq_false (cn_eq.mp h1)
    refine z_rcs hc hH 1 (pc' := 9) (lv' := [(0, .ref 0), (1, .int (nI s))]) (st' := [.ref 0]) (μ' := μ) (by rfl) ?_
    refine zq_gfi hc hH (by rfl) (ci := 5) (f := 7) (by rfl) (by decide +kernel) (by rfl) ?_
    refine z_rcs hc hH 1 (pc' := 13) (lv' := [(0, .ref 0), (1, .int (nI s))]) (st' := [.int 3, .int (μ.1 0 7)]) (μ' := μ) (by rfl) ?_
    refine zq_ic hc hH (by rfl) (tg := 31) (by rfl) (fun h4 => ?_) (fun h4 => ?_)
    · have h4 : (decide ((μ.1 0 7) = 3)) = false := decide_eq_false (cm_ne.mp h4)
      refine z_rcs hc hH 1 (pc' := 32) (lv' := [(0, .ref 0), (1, .int (nI s))]) (st' := [.int 0]) (μ' := μ) (by rfl) ?_
      exact hr 0 32 _ _ _ (some (.int 0)) (by decide +kernel) (z_rx_ok hH (by rfl)) (⟨rfl, rfl⟩)
    · have h4 : (decide ((μ.1 0 7) = 3)) = true := decide_eq_true (cn_ne.mp h4)
      refine z_rcs hc hH 1 (pc' := 17) (lv' := [(0, .ref 0), (1, .int (nI s))]) (st' := [.int (nI s)]) (μ' := μ) (by rfl) ?_
      refine zq_call hc (z_cx_ok hH (by rfl)) (gc_isSeat d' (by omega) μ (nI s)) (by decide +kernel) (fun r9 μ9 hq => ?_)
      obtain ⟨hμ9, rfl⟩ := hq
      rw [hμ9]
      clear hμ9 μ9
      show Z 0 20 [(0, .ref 0), (1, .int (nI s))] [.int (nB (sI (nI s)))] μ
      refine zq_if hc hH (by rfl) (tg := 31) (by rfl) (fun h5 => ?_) (fun h5 => ?_)
      · have h5 : (sI (nI s)) = false := nB_z.mp (cm_eq9.mp h5)
        exact absurd (Eq.trans (Eq.symm (sI_n hs4)) h5) (by decide)
      · have h5 : (sI (nI s)) = true := nB_n.mp (cn_eq.mp h5)
        refine z_rcs hc hH 2 (pc' := 25) (lv' := [(0, .ref 0), (1, .int (nI s))]) (st' := [.ref 0, .int (nI s)]) (μ' := μ) (by rfl) ?_
        refine zq_gfi hc hH (by rfl) (ci := 5) (f := 8) (by rfl) (by decide +kernel) (by rfl) ?_
        rw [ht]
        refine zq_ic hc hH (by rfl) (tg := 33) (by rfl) (fun h6 => ?_) (fun h6 => ?_)
        · have h6 : (decide ((nI s) = (nI t))) = false := decide_eq_false (cm_ne.mp h6)
          exact absurd (Eq.trans (Eq.symm (hst)) h6) (by decide)
        · have h6 : (decide ((nI s) = (nI t))) = true := decide_eq_true (cn_ne.mp h6)
          refine z_rcs hc hH 1 (pc' := 32) (lv' := [(0, .ref 0), (1, .int (nI s))]) (st' := [.int 0]) (μ' := μ) (by rfl) ?_
          exact hr 0 32 _ _ _ (some (.int 0)) (by decide +kernel) (z_rx_ok hH (by rfl)) (⟨rfl, rfl⟩)
theorem mr_claimT (d : Nat) (hd : 3 ≤ d) (μ : zM) (s t : Nat) (hs4 : s < 4) (ht4 : t < 4) (ht : μ.1 50 45 = nI t) (hst : decide (nI s = nI t) = true) : z_C d mi_X7_claim [.ref 50, .int (nI s)] μ (fun r μ' => r = some (.int 0) ∧ μ' = z_ui μ 50 0 0) := by
  refine z_C_in (by decide) (by omega) (fun d' Z ed hc hr => ?_)
  have hH : zH mi_X7_claim zt_X7_claim 79 7 5 := hh_X7_claim
  refine z_rcs hc hH 2 (pc' := 2) (lv' := [(0, .ref 50), (1, .int (nI s))]) (st' := [.int 0, .ref 50]) (μ' := μ) (by rfl) ?_
  refine zq_pfi hc hH (by rfl) (ci := 6) (f := 0) (by rfl) (by decide +kernel) (by rfl) ?_
  show Z 0 5 [(0, .ref 50), (1, .int (nI s))] [] (z_ui μ 50 0 0)
  refine z_rcs hc hH 1 (pc' := 6) (lv' := [(0, .ref 50), (1, .int (nI s))]) (st' := [.ref 50]) (μ' := z_ui μ 50 0 0) (by rfl) ?_
  refine zq_gfi hc hH (by rfl) (ci := 6) (f := 44) (by rfl) (by decide +kernel) (by rfl) ?_
  refine zV1 (Z := Z) (ui_k (by first | decide | omega)) ?_
  refine z_rcs hc hH 1 (pc' := 10) (lv' := [(0, .ref 50), (1, .int (nI s))]) (st' := [.int 2, .int (μ.1 50 44)]) (μ' := z_ui μ 50 0 0) (by rfl) ?_
  refine zq_ic hc hH (by rfl) (tg := 46) (by rfl) (fun h1 => ?_) (fun h1 => ?_)
  · have h1 : (decide ((μ.1 50 44) < 2)) = true := decide_eq_true (cm_lt.mp h1)
    refine z_rcs hc hH 1 (pc' := 47) (lv' := [(0, .ref 50), (1, .int (nI s))]) (st' := [.int 0]) (μ' := z_ui μ 50 0 0) (by rfl) ?_
    exact hr 0 47 _ _ _ (some (.int 0)) (by decide +kernel) (z_rx_ok hH (by rfl)) (⟨rfl, rfl⟩)
  · have h1 : (decide ((μ.1 50 44) < 2)) = false := decide_eq_false (cn_lt.mp h1)
    refine z_rcs hc hH 1 (pc' := 14) (lv' := [(0, .ref 50), (1, .int (nI s))]) (st' := [.int (nI s)]) (μ' := z_ui μ 50 0 0) (by rfl) ?_
    refine zq_call hc (z_cx_ok hH (by rfl)) (gm_isSeatN d' (by omega) (z_ui μ 50 0 0) s hs4) (by decide +kernel) (fun r9 μ9 hq => ?_)
    obtain ⟨hμ9, rfl⟩ := hq
    rw [hμ9]
    clear hμ9 μ9
    show Z 0 17 [(0, .ref 50), (1, .int (nI s))] [.int 1] (z_ui μ 50 0 0)
    refine z_rcs hc hH 3 (pc' := 22) (lv' := [(0, .ref 50), (1, .int (nI s))]) (st' := [.ref 50, .int (nI s)]) (μ' := z_ui μ 50 0 0) (by rfl) ?_
    refine zq_gfi hc hH (by rfl) (ci := 6) (f := 45) (by rfl) (by decide +kernel) (by rfl) ?_
    refine zV1 (Z := Z) (ui_k (by first | decide | omega)) ?_
    rw [ht]
    refine zq_ic hc hH (by rfl) (tg := 46) (by rfl) (fun h2 => ?_) (fun h2 => ?_)
    · have h2 : (decide ((nI s) = (nI t))) = true := decide_eq_true (cm_eq9.mp h2)
      refine z_rcs hc hH 1 (pc' := 47) (lv' := [(0, .ref 50), (1, .int (nI s))]) (st' := [.int 0]) (μ' := z_ui μ 50 0 0) (by rfl) ?_
      exact hr 0 47 _ _ _ (some (.int 0)) (by decide +kernel) (z_rx_ok hH (by rfl)) (⟨rfl, rfl⟩)
    · have h2 : (decide ((nI s) = (nI t))) = false := decide_eq_false (cn_eq.mp h2)
      exact absurd (Eq.trans (Eq.symm (hst)) h2) (by decide)
/-! claim answers alike -/
set_option maxRecDepth 8000
theorem kA_ex {f : Nat → Bool} : ∀ n, kA f n = true → ∃ i, i < n ∧ f i = true
  | 0, h => by cases h
  | n + 1, h => by
    have h : (kA f n || f n) = true := h
    rw [Bool.or_eq_true] at h
    rcases h with h | h
    · obtain ⟨i, h1, h2⟩ := kA_ex n h
      exact ⟨i, by omega, h2⟩
    · exact ⟨n, by omega, h⟩
theorem kb_nz {b : Nat → Bool} {k : Nat} (hk : k < 34) (h : b k = true) : ¬ kb b 34 = 0 := fun e => by
  have z := kb_bit b 34 (by omega) k hk
  rw [e, zero_b k (by omega), decide_eq_true hk, h] at z
  cases z
theorem thr_eq {m : zM} {s rm : Nat} (f : Nat → Bool) (hrm : m.1 66 s = nI rm) (h86 : rm ≤ 136) (hk : ∀ i, i < rm → ∃ k, k < 34 ∧ m.1 65 (136 * s + i) = nI k) : decide (lg_cmp (kb f 34 &&& kb (tkM m s) 34) 0 = 0) = !kA (rvF m s (kb f 34)) rm := by
  have er : ∀ i k, k < 34 → m.1 65 (136 * s + i) = nI k → rvF m s (kb f 34) i = f k := fun i k h1 h2 => by
    unfold rvF
    rw [h2]
    exact bw_kb f h1
  rw [kb_and9]
  cases e : kA (rvF m s (kb f 34)) rm with
  | true =>
    obtain ⟨i, hi, h1⟩ := kA_ex rm e
    obtain ⟨k, hk1, hk2⟩ := hk i hi
    rw [er i k hk1 hk2] at h1
    refine decide_eq_false (fun z => kb_nz (b := fun k => tkM m s k && f k) hk1 ?_ (lg_c0.mp z))
    show (tkM m s k && f k) = true
    rw [h1, Bool.and_true]
    unfold tkM
    rw [hrm, nI_clamp (by omega)]
    exact kA_hit hi (decide_eq_true hk2)
  | false =>
    refine decide_eq_true (lg_c0.mpr (kb_0 34 (fun k hk1 => ?_)))
    cases e2 : (tkM m s k && f k) with
    | false => rfl
    | true =>
      exfalso
      obtain ⟨t1, t2⟩ := z_and e2
      unfold tkM at t1
      rw [hrm, nI_clamp (by omega)] at t1
      obtain ⟨i, hi, h1⟩ := kA_ex rm t1
      have y := kA_hit (f := rvF m s (kb f 34)) hi ((er i k hk1 (of_decide_eq_true h1)).trans t2)
      rw [e] at y
      cases y
theorem wo_pS {M μj : zM} {s c : Nat} (h : WOj (pS M s c 1) μj) : WOj M (pS μj s c (-1)) := fun r k hr => by
  have z : ∀ v : Int32, v + 1 + -1 = v := fun v => by rw [Int32.add_assoc, show (1 : Int32) + -1 = 0 from by decide, Int32.add_zero]
  refine ⟨?_, (h r k hr).2⟩
  have e := fun r' k' (hr' : r' < 4 ∨ 7 < r') => (h r' k' hr').1
  by_cases e1 : r = 20 + 8 * s
  · subst e1
    by_cases e2 : k = c
    · subst e2
      rw [show (pS μj s k (-1)).1 (20 + 8 * s) k = μj.1 (20 + 8 * s) k + -1 from by unfold pS; simp (disch := first | decide | exact ad_ne (by decide) | exact ad_m (by decide) | exact ad_l (by decide) | exact ad_g (by decide) | exact ad_lt (by decide) | exact ad_o (by decide) | omega) only [↓ui_s, ↓ui_o, ↓ui_k, ui_s, ui_o, ui_k], e _ _ hr, show (pS M s k 1).1 (20 + 8 * s) k = M.1 (20 + 8 * s) k + 1 from by unfold pS; simp (disch := first | decide | exact ad_ne (by decide) | exact ad_m (by decide) | exact ad_l (by decide) | exact ad_g (by decide) | exact ad_lt (by decide) | exact ad_o (by decide) | omega) only [↓ui_s, ↓ui_o, ↓ui_k, ui_s, ui_o, ui_k]]
      exact z _
    · rw [show (pS μj s c (-1)).1 (20 + 8 * s) k = μj.1 (20 + 8 * s) k from by unfold pS; simp (disch := first | decide | exact ad_ne (by decide) | exact ad_m (by decide) | exact ad_l (by decide) | exact ad_g (by decide) | exact ad_lt (by decide) | exact ad_o (by decide) | omega) only [↓ui_s, ↓ui_o, ↓ui_k, ui_s, ui_o, ui_k], e _ _ hr]
      unfold pS; simp (disch := first | decide | exact ad_ne (by decide) | exact ad_m (by decide) | exact ad_l (by decide) | exact ad_g (by decide) | exact ad_lt (by decide) | exact ad_o (by decide) | omega) only [↓ui_s, ↓ui_o, ↓ui_k, ui_s, ui_o, ui_k]
  · by_cases e1 : r = 21 + 8 * s
    · subst e1
      by_cases e2 : k = c
      · subst e2
        rw [show (pS μj s k (-1)).1 (21 + 8 * s) k = μj.1 (21 + 8 * s) k + -1 from by unfold pS; simp (disch := first | decide | exact ad_ne (by decide) | exact ad_m (by decide) | exact ad_l (by decide) | exact ad_g (by decide) | exact ad_lt (by decide) | exact ad_o (by decide) | omega) only [↓ui_s, ↓ui_o, ↓ui_k, ui_s, ui_o, ui_k], e _ _ hr, show (pS M s k 1).1 (21 + 8 * s) k = M.1 (21 + 8 * s) k + 1 from by unfold pS; simp (disch := first | decide | exact ad_ne (by decide) | exact ad_m (by decide) | exact ad_l (by decide) | exact ad_g (by decide) | exact ad_lt (by decide) | exact ad_o (by decide) | omega) only [↓ui_s, ↓ui_o, ↓ui_k, ui_s, ui_o, ui_k]]
        exact z _
      · rw [show (pS μj s c (-1)).1 (21 + 8 * s) k = μj.1 (21 + 8 * s) k from by unfold pS; simp (disch := first | decide | exact ad_ne (by decide) | exact ad_m (by decide) | exact ad_l (by decide) | exact ad_g (by decide) | exact ad_lt (by decide) | exact ad_o (by decide) | omega) only [↓ui_s, ↓ui_o, ↓ui_k, ui_s, ui_o, ui_k], e _ _ hr]
        unfold pS; simp (disch := first | decide | exact ad_ne (by decide) | exact ad_m (by decide) | exact ad_l (by decide) | exact ad_g (by decide) | exact ad_lt (by decide) | exact ad_o (by decide) | omega) only [↓ui_s, ↓ui_o, ↓ui_k, ui_s, ui_o, ui_k]
    · by_cases e1 : r = 19 + 8 * s
      · subst e1
        by_cases e2 : k = 5
        · subst e2
          rw [show (pS μj s c (-1)).1 (19 + 8 * s) 5 = μj.1 (19 + 8 * s) 5 + -1 from by unfold pS; simp (disch := first | decide | exact ad_ne (by decide) | exact ad_m (by decide) | exact ad_l (by decide) | exact ad_g (by decide) | exact ad_lt (by decide) | exact ad_o (by decide) | omega) only [↓ui_s, ↓ui_o, ↓ui_k, ui_s, ui_o, ui_k], e _ _ hr, show (pS M s c 1).1 (19 + 8 * s) 5 = M.1 (19 + 8 * s) 5 + 1 from by unfold pS; simp (disch := first | decide | exact ad_ne (by decide) | exact ad_m (by decide) | exact ad_l (by decide) | exact ad_g (by decide) | exact ad_lt (by decide) | exact ad_o (by decide) | omega) only [↓ui_s, ↓ui_o, ↓ui_k, ui_s, ui_o, ui_k]]
          exact z _
        · rw [show (pS μj s c (-1)).1 (19 + 8 * s) k = μj.1 (19 + 8 * s) k from by unfold pS; simp (disch := first | decide | exact ad_ne (by decide) | exact ad_m (by decide) | exact ad_l (by decide) | exact ad_g (by decide) | exact ad_lt (by decide) | exact ad_o (by decide) | omega) only [↓ui_s, ↓ui_o, ↓ui_k, ui_s, ui_o, ui_k], e _ _ hr]
          unfold pS; simp (disch := first | decide | exact ad_ne (by decide) | exact ad_m (by decide) | exact ad_l (by decide) | exact ad_g (by decide) | exact ad_lt (by decide) | exact ad_o (by decide) | omega) only [↓ui_s, ↓ui_o, ↓ui_k, ui_s, ui_o, ui_k]
      · rw [show (pS μj s c (-1)).1 r k = μj.1 r k from by unfold pS; simp (disch := first | decide | exact ad_ne (by decide) | exact ad_m (by decide) | exact ad_l (by decide) | exact ad_g (by decide) | exact ad_lt (by decide) | exact ad_o (by decide) | omega) only [↓ui_s, ↓ui_o, ↓ui_k, ui_s, ui_o, ui_k], e _ _ hr]
        unfold pS; simp (disch := first | decide | exact ad_ne (by decide) | exact ad_m (by decide) | exact ad_l (by decide) | exact ad_g (by decide) | exact ad_lt (by decide) | exact ad_o (by decide) | omega) only [↓ui_s, ↓ui_o, ↓ui_k, ui_s, ui_o, ui_k]
theorem wo_EqX {M W : zM} (h : WOj M W) : EqX M W := fun r k g => h r k (by unfold gXc at g; omega)
theorem EqM_SVl {m M : zM} (h : EqM m M) : SVl m M := fun r k g => (h r k (by unfold gMc; omega)).1
theorem lg_cl {d : Nat} (hd : 700 ≤ d) (μ : zM) (s : Int32) (h : LJ μ) : z_C d mi_X7_claim [.ref 50, .int s] μ (fun _ μ' => LJ μ' ∧ EqX μ μ') := by
  by_cases hp : μ.1 50 44 = 0 ∨ μ.1 50 44 = 1
  · refine z_C_mono (bs_X7_claim_b hd [.ref 50, .int s] μ (aArg_preF ⟨⟨50, by decide, rfl⟩, ⟨_, rfl, bI_top _⟩, trivial⟩ (fun f hf => ?_)) h.1.1) (fun r μ' q => ⟨h.keep q.1 q.2.1 (by decide) (by decide), fz_EqX q.2.1 (by decide)⟩)
    rw [List.mem_singleton.mp hf]
    refine ⟨50, rfl, rfl, by decide, μ.1 50 44, rfl, ?_⟩
    rcases hp with e | e <;> rw [e] <;> exact ⟨by decide, by decide⟩
  · have hP := h.1.2.2 (fun e => hp (Or.inl e))
    have t0 := hP.2.2.2.2.1 (fun e => absurd (Or.inr e) hp)
    refine z_C_mono (bs_X7_claim_a hd [.ref 50, .int s] μ (aArg_preF ⟨⟨50, by decide, rfl⟩, ⟨_, rfl, bI_top _⟩, trivial⟩ (fun f hf => ?_)) h.1.1) (fun r μ' q => ⟨h.keep q.1 q.2.1 (by decide) (by decide), fz_EqX q.2.1 (by decide)⟩)
    rw [List.mem_singleton.mp hf]
    exact ⟨50, rfl, rfl, by decide, μ.1 50 49, rfl, t0, (h.1.1 50 49).2⟩
theorem go_in {d j' : Nat} {As' : List Value} {μ1 X : zM} {r : Option Value} {y : Int32} (h1 : LJ μ1) (km : ∀ μ1, LJ μ1 → z_C d j' As' μ1 (fun _ μ' => LJ μ' ∧ EqX μ1 μ')) (hr : r = some (.int y)) (hX : EqX X μ1) (c2 : z_C d j' As' μ1 (fun r μ' => r = some (.int y) ∧ RG X μ')) : LJ μ1 ∧ ∃ y, r = some (.int y) ∧ z_C d j' As' μ1 (fun r2 μ2 => LGm μ2 ∧ r2 = some (.int y)) := ⟨h1, y, hr, z_C_mono (zC_and d (km μ1 h1) c2) (fun r2 μ2 z => ⟨⟨z.1.1, z.2.2.cg (eqX_tr hX z.1.2) (eqM_rf _)⟩, z.2.1⟩)⟩
theorem cl_eq {x m : zM} {p t c s rm : Nat} (R : RCl x m) (P : RPh x m p t c) (hp : p ≠ 1) (hs : s < 4) (hc : c < 34) (hrm : m.1 66 s = nI rm) (hrm5 : rm ≤ 135) (f : Nat → Bool) : clC x s t c (kb f 34) = clD m s t c rm (kb f 34) := by
  unfold clC clD
  have h1 : (decide (x.1 0 7 = 2) || decide (x.1 0 7 = 3)) = true := by
    rw [P.px]
    rcases P.p3 with q | q | q
    · exact absurd q hp
    · rw [q]; decide
    · rw [q]; decide
  rw [h1, Bool.true_and, R.sy s hs, R.lg s hs, hd_kb f hc, bz_kb f hc, Bool.not_not, R.tk s hs, thr_eq f hrm (by omega) (fun i hi => R.rk s i hs (by rw [hrm, nI_clamp (by omega)]; exact hi))]
theorem lg_claim {d : Nat} (hd : 705 ≤ d) {μ : zM} (h : LGm μ) (y : Int32) : GO d mi_X6_claim mi_X7_claim [.ref 0, .int y] [.ref 50, .int y] μ := by
  obtain ⟨hJ, hR⟩ := h
  have kx : z_C d mi_X6_claim [.ref 0, .int y] μ (fun _ μ' => LJ μ' ∧ EqM μ μ') := lg_k (i := 67) (K := ak_67) rfl (by omega) (by decide +kernel) (by decide +kernel) rfl (by decide +kernel) [.ref 0, .int y] μ hJ ⟨⟨0, by decide, rfl⟩, ⟨_, rfl, bI_top _⟩, trivial⟩
  have km : ∀ μ1, LJ μ1 → z_C d mi_X7_claim [.ref 50, .int y] μ1 (fun _ μ' => LJ μ' ∧ EqX μ1 μ') := fun μ1 h1 => lg_cl (by omega) μ1 y h1
  have hA := hJ.1.1
  rcases hR.2 with ⟨p1, p2, -, -, -⟩ | ⟨p, t, c, P⟩
  · exact go_no hR kx km (gx_claimP d (by omega) μ y (by rw [p1]; decide) (by rw [p1]; decide)) (mr_claimP d (by omega) μ y (by rw [p2]; decide))
  by_cases hp : p = 1
  · exact go_no hR kx km (gx_claimP d (by omega) μ y (by rw [P.px, hp]; decide) (by rw [P.px, hp]; decide)) (mr_claimP d (by omega) μ y (by rw [P.pm, hp]; decide))
  by_cases hy : vp_in y 4
  · obtain ⟨s, hs, rfl⟩ := vp_in_of hy (by decide)
    have ht4 := P.t4
    by_cases hst : s = t
    · have e : decide (nI s = nI t) = true := decide_eq_true (by rw [hst])
      exact go_no hR kx km (gx_claimT d (by omega) μ s t hs ht4 P.tx e) (mr_claimT d (by omega) μ s t hs ht4 P.tm e)
    have R := hR.1
    have hc : c < 34 := by
      rcases P.c3 with q | ⟨_, q⟩
      · exact q
      · exact absurd q hp
    have hp0 : ¬ μ.1 50 44 = 0 := by rw [P.pm]; rcases P.p3 with q | q | q <;> (rw [q]; decide)
    have hp2 : decide (μ.1 50 44 < 2) = false := by
      rw [P.pm]
      rcases P.p3 with q | q | q
      · exact absurd q hp
      · rw [q]; decide
      · rw [q]; decide
    have G := hJ.1.2.2 hp0
    obtain ⟨W, hW⟩ := ww_of R P hA G hc
    obtain ⟨w, aw, q, sL, lL, H⟩ := hf_of R P hA G hs
    have h3 := aw_3 R P hA hp hs hst H hc
    have cx : μ.1 0 15 = nI c := P.cx.trans (if_neg (by omega))
    have cm : μ.1 50 49 = nI c := P.cm.trans (if_neg (by omega))
    obtain ⟨dl, hdl4, hdl⟩ := dealer_nI hA
    obtain ⟨f, hf4, hf47⟩ := i_nat (v := μ.1 50 47) (n := 4) (hA 50 47).1 (hA 50 47).2 (by decide)
    obtain ⟨rd, hrd2, hrd⟩ : ∃ rd, rd < 2 ∧ μ.1 50 41 = nI rd := by
      rcases R.rd with e | e
      · exact ⟨0, by decide, e⟩
      · exact ⟨1, by decide, e⟩
    obtain ⟨rm, hrm5, hrm⟩ := i_nat (v := μ.1 66 s) (n := 135) (hA 66 s).1 (hA 66 s).2 (by decide)
    obtain ⟨g, hg⟩ := (hW s hs).2.2.2
    have eC : clC μ s t c (W s) = clD μ s t c rm (W s) := by rw [hg]; exact cl_eq R P hp hs hc hrm hrm5 g
    have cc := gc_claim d (by omega) μ s t c hs ht4 P.tx hc cx (W s) (fun d hd => (hW s hs).2.2.1 μ (fun _ _ _ _ _ _ => rfl) d hd) _ (fun d hd => wx0 R P hs H hA hc h3 hf4 hf47 hdl hrd μ (WE_rf μ) hA d hd)
    have mm : ∀ μ1, LJ μ1 → EqM μ μ1 → z_C d mi_X7_claim [.ref 50, .int (nI s)] μ1 (fun r μ' => (clD μ s t c rm (W s) = false ∧ r = some (.int 0) ∧ SMj (z_ui μ1 50 0 0) μ') ∨ (clD μ s t c rm (W s) = true ∧ ∃ V, BM (ad1 w c) q c sL lL false (tM0 (μ.1 67 s) (μ.1 69 s) (122 - μ.1 50 47 - μ.1 50 46) (μ.1 50 44)) (wdM (nI dl) (nI s)) (nI rd) (deM μ s (ad1 w c) q f) (bq V) ∧ ((decide (V.1 50 13 = 0) = true ∧ r = some (.int 0) ∧ SMj (z_ui μ1 50 0 0) μ') ∨ (decide (V.1 50 13 = 0) = false ∧ r = some (.int 1) ∧ SMj (z_ui (z_ui μ1 50 0 0) 71 s 1) μ')))) := fun μ1 h1 qM => by
      have E : ∀ r k', gMc r k' → μ1.1 r k' = μ.1 r k' := fun r k' g => (qM r k' g).1
      have eD : clD μ1 s t c rm (W s) = clD μ s t c rm (W s) := by
        unfold clD
        rw [E 71 s (Or.inl ⟨by decide, by decide⟩), E 70 s (Or.inl ⟨by decide, by decide⟩), show rvF μ1 s (W s) = rvF μ s (W s) from funext fun i => by unfold rvF; rw [E 65 _ (Or.inl ⟨by decide, by decide⟩)]]
      rw [← eD]
      exact gm_claim d (by omega) μ1 h1.1.1 s t c rm hs ht4 ((E 50 45 (Or.inr ⟨rfl, by decide, by decide⟩)).trans P.tm) hc ((E 50 49 (Or.inr ⟨rfl, by decide, by decide⟩)).trans cm) (by rw [E 50 44 (Or.inr ⟨rfl, by decide, by decide⟩)]; exact hp2) ((E 66 s (Or.inl ⟨by decide, by decide⟩)).trans hrm) hrm5 (W s) (fun M hM => (hW s hs).2.1 M (fun r k g => (hM r k g).trans (E r k (Or.inl ⟨by omega, by omega⟩)))) _ (fun M hM hAM d hd => z_C_mono (wm0 hs H hA hc hf4 hf47 hdl hrd M (EqM_SVl (eqM_tr (eqM_tr qM (t0_EqM μ1 0)) (sm_EqM hM))) hAM d hd) (fun r W z => ⟨z.1, z.2.2.1, z.2.2.2⟩))
    refine z_C_mono (zC_and d kx cc) (fun r μ1 qq => ?_)
    obtain ⟨⟨q1, qM⟩, q2⟩ := qq
    have eM : EqM μ (z_ui μ1 50 0 0) := eqM_tr qM (t0_EqM μ1 0)
    have m2 := mm μ1 q1 qM
    rcases q2 with ⟨b1, b2, b3⟩ | ⟨b1, μj, hJ', b2⟩
    · refine go_in q1 km b2 (X := μ) (by rw [b3]; exact eqX_rf _) (z_C_mono m2 (fun r μ' z => ?_))
      rw [eC] at b1
      rcases z with ⟨_, z2, z3⟩ | ⟨z1, -⟩
      · exact ⟨z2, hR.cg (eqX_rf _) (eqM_tr eM (sm_EqM z3))⟩
      · rw [b1] at z1; cases z1
    · obtain ⟨j1, j2, j3, j4⟩ := hJ'
      rw [eC] at b1
      have eb : ∀ V : zM, BM (ad1 w c) q c sL lL false (tM0 (μ.1 67 s) (μ.1 69 s) (122 - μ.1 50 47 - μ.1 50 46) (μ.1 50 44)) (wdM (nI dl) (nI s)) (nI rd) (deM μ s (ad1 w c) q f) (bq V) → μj.1 4 0 = V.1 50 13 := fun V hV => (wb0 R P hs H hA hc h3 hf4 hdl4 hrd2 j4 hV).1
      rcases b2 with ⟨b3, b4, b5⟩ | ⟨b3, b4, b5⟩
      · refine go_in q1 km b4 (X := μ) (by rw [b5]; exact wo_EqX (wo_pS j2)) (z_C_mono m2 (fun r μ' z => ?_))
        rcases z with ⟨_, z2, z3⟩ | ⟨_, V, hV, z⟩
        · exact ⟨z2, hR.cg (eqX_rf _) (eqM_tr eM (sm_EqM z3))⟩
        · rcases z with ⟨_, z2, z3⟩ | ⟨z1, -, -⟩
          · exact ⟨z2, hR.cg (eqX_rf _) (eqM_tr eM (sm_EqM z3))⟩
          · rw [← eb V hV, b3] at z1; cases z1
      · refine go_in q1 km b4 (X := z_ui μ (18 + 8 * s) 9 1) (by
          rw [b5]
          have y := wo_EqX (wo_pS j2)
          exact fun r k g => ⟨by
            by_cases e : r = 18 + 8 * s ∧ k = 9
            · obtain ⟨rfl, rfl⟩ := e; rw [ui_s, ui_s]
            · by_cases e1 : r = 18 + 8 * s
              · rw [ui_k (by first | decide | omega), ui_k (by first | decide | omega)]; exact (y r k g).1
              · rw [ui_o e1, ui_o e1]; exact (y r k g).1, (y r k g).2⟩) (z_C_mono m2 (fun r μ' z => ?_))
        rcases z with ⟨z1, -, -⟩ | ⟨_, V, hV, z⟩
        · rw [b1] at z1; cases z1
        · rcases z with ⟨z1, -, -⟩ | ⟨_, z2, z3⟩
          · rw [← eb V hV, b3] at z1; cases z1
          · refine ⟨z2, RG.cg (eqX_rf _) (sm_EqM z3) ⟨rc_said (R.cg (eqX_rf _) eM) hs, Or.inr ⟨p, t, c, rp_said (P.cg (eqX_rf _) eM) hp hs hst (fun M hM hAM d hd => z_C_mono (wm0 hs H hA hc hf4 hf47 hdl hrd M (fun r k g => (hM r k g).trans (EqM_SVl eM r k g)) hAM d hd) (fun r V z => by
            have y := eb V z.2.2.2
            rw [← y]
            exact of_decide_eq_false b3))⟩⟩⟩
  · exact go_no hR kx km (gx_claimS d (by omega) μ y (isS_x hy)) (mr_claimS d (by omega) μ y (isS_no hy))
/-! win answers alike -/
set_option maxRecDepth 8000
/-- the told FORMS of a drawn tile -/
noncomputable def toX (x m : zM) (s : Nat) : Int64 := tX true (m.1 67 s) (m.1 69 s) (122 - m.1 50 47 - m.1 50 46) (m.1 50 58) 1 ||| t2X (!decide (m.1 50 56 = 0)) (decide (m.1 66 s ≤ 0)) (decide (nI s = m.1 50 40))
theorem toX_eq {x m : zM} {t c : Nat} (P : RPh x m 1 t c) (hc : c < 34) (hA : a_H m) : toX x m t &&& tlm = tM1 (m.1 67 t) (m.1 69 t) (122 - m.1 50 47 - m.1 50 46) (m.1 50 58) (decide (m.1 68 t = 1)) (decide (nI t = m.1 50 40)) (!decide (m.1 50 56 = 0)) := by
  refine tX_1 _ _ _ _ _ _ _ _ (fun h => ?_) (fun h1 h2 => ?_)
  · have z : ¬ m.1 50 56 = 0 := of_decide_eq_false (not_t h)
    have y := P.dr z t P.t4
    rw [if_pos ⟨rfl, rfl⟩] at y
    obtain ⟨rm, a, b⟩ := i_nat (v := m.1 66 t) (n := 135) (hA 66 t).1 (hA 66 t).2 (by decide)
    rw [y, b, nI_s1, show decide (nI (rm + 1) = 1) = decide (rm + 1 = 1) from by
      by_cases e : rm + 1 = 1
      · rw [decide_eq_true e, e]; decide
      · rw [decide_eq_false e]; exact decide_eq_false (fun q => e ((nI_eq (a := rm + 1) (b := 1) (by omega) (by decide)).mp q)), show decide (nI rm ≤ 0) = decide (rm ≤ 0) from nI_le2 (b := 0) (by omega) (by decide)]
    by_cases e : rm = 0
    · rw [decide_eq_true (show rm + 1 = 1 by omega), decide_eq_true (show rm ≤ 0 by omega)]
    · rw [decide_eq_false (by omega), decide_eq_false (by omega)]
  · have z : m.1 50 56 = 0 := of_decide_eq_true (not_f h1)
    exact decide_eq_false (P.d2 z rfl (of_decide_eq_true h2).symm hc)
theorem wx1 {x m : zM} {c t : Nat} {w aw : Nat → Nat} {q : Nat} {sL lL : Nat → Nat} (R : RCl x m) (P : RPh x m 1 t c) (H : HF x m t w aw q sL lL) (hA : a_H m) (hAx : a_H x) (hc : c < 34) {f dl rd : Nat} (hf : f ≤ 4) (hf47 : m.1 50 47 = nI f) (hdl : m.1 50 40 = nI dl) (hrd : m.1 50 41 = nI rd) : ∀ d, 10 ≤ d → z_C d mi_X6_weighHand [.ref 0, .int (nI t), .int 1] x (fun r μ' => ∃ μj, (μj.1 0 15 = nI c ∧ WOj x μj ∧ a_H μj ∧ BX w aw q c sL lL true (toX x m t) (wiN t dl rd) (deM m t w q f) (bqJ μj)) ∧ μ' = μj ∧ r = some (.int (μj.1 4 0))) := fun d hd => by
  have hs := P.t4
  have c15 : x.1 0 15 = nI c := P.cx.trans (if_neg (by omega))
  refine gc_weigh1 d hd x t c hs hc c15 (tX true (m.1 67 t) (m.1 69 t) (122 - m.1 50 47 - m.1 50 46) (m.1 50 58) 1) (t2X (!decide (m.1 50 56 = 0)) (decide (m.1 66 t ≤ 0)) (decide (nI t = m.1 50 40))) (deM m t w q f) ((nI t - nI dl) &&& 3) (by rw [R.dl, hdl]) (fun d hd => ?_) (fun d hd => ?_) (fun d hd => ?_) (fun μj => μj.1 0 15 = nI c ∧ WOj x μj ∧ a_H μj ∧ BX w aw q c sL lL true (toX x m t) (wiN t dl rd) (deM m t w q f) (bqJ μj)) (fun μj z => z.1) (fun d hd => ?_)
  · have z := tX_c d hd x t hs true
    rw [R.be t hs, R.ao t hs, left_x R P rfl rfl rfl, P.bf rfl hc, P.px] at z
    exact z
  · have z := gc_firstDraw d hd x t hs true
    rw [cond_true, P.br, R.ds t hs, R.dl, show decide (nB (decide (m.1 50 56 = 0)) = 0) = !decide (m.1 50 56 = 0) from by cases decide (m.1 50 56 = 0) <;> decide] at z
    exact z
  · have z := gc_dear d hd x t hs (!decide (x.1 (18 + 8 * t) 5 = 0)) f hf (by rw [R.sd, P.is]) (by rw [P.fo]; exact hf47)
    rw [deF_cg (B := dAs m t w (Wm m) q) (f + 1) (fun p h1 h2 => (dear_p H (fun _ => rfl) (fun _ => rfl) hA (R.wl p (by omega))).1), bt_not R hs] at z
    rw [bt_not R hs]
    exact z
  · have z := jd_x (c := c) H hs hAx (fun i hi => ⟨by rw [R.so t i hs (by have := H.1.2.2.1; omega)]; exact (H.1.2.2.2 i hi).1, by rw [R.lo t i hs (by have := H.1.2.2.1; omega)]; exact (H.1.2.2.2 i hi).2.2.1⟩) true (toX x m t) (wiN t dl rd) (deM m t w q f) d hd
    rw [R.rn, hrd]
    exact z_C_mono z (fun r μ' y => ⟨y.1, (y.2.1 0 15 (Or.inl (by decide))).1.trans c15, y.2⟩)
theorem wmD1 {x m : zM} {s c : Nat} {w aw : Nat → Nat} {q : Nat} {sL lL : Nat → Nat} (hs : s < 4) (H : HF x m s w aw q sL lL) (hA : a_H m) (hc : c < 34) {f dl rd : Nat} (hf : f ≤ 4) (hf47 : m.1 50 47 = nI f) (hdl : m.1 50 40 = nI dl) (hrd : m.1 50 41 = nI rd) : ∀ M, SVl m M → a_H M → ∀ d, 699 ≤ d → z_C d mi_X7_value [.ref 50, .int (nI s), .int (nI c), .int 1] M (fun r W => r = none ∧ a_H W ∧ SMj M W ∧ (¬ W.1 50 13 = 0 → W.1 50 18 = 1) ∧ BM w q c sL lL true (tM1 (m.1 67 s) (m.1 69 s) (122 - m.1 50 47 - m.1 50 46) (m.1 50 58) (decide (m.1 68 s = 1)) (decide (nI s = m.1 50 40)) (!decide (m.1 50 56 = 0))) (wdM (nI dl) (nI s)) (nI rd) (deM m s w q f) (bq W)) := fun M hM hAM d hd => by
  have e5 : ∀ k, (k = 40 ∨ k = 41 ∨ k = 44 ∨ k = 46 ∨ k = 47 ∨ k = 56 ∨ k = 58) → M.1 50 k = m.1 50 k := fun k h => hM 50 k (by omega)
  have e6 : ∀ r k, (r = 59 ∨ r = 60 ∨ r = 62 ∨ r = 63 ∨ r = 64 ∨ r = 67 ∨ r = 68 ∨ r = 69) → M.1 r k = m.1 r k := fun r k h => hM r k (by omega)
  have eW : ∀ p, Wm M p = Wm m p := fun p => by unfold Wm; rw [e6 59 p (by omega)]
  have z := gm_value1 d (by omega) M hAM s c hs hc w q sL lL (H.1.se (fun r k g => e6 r k (by omega))) f hf ((e5 47 (by omega)).trans hf47) (Wm M) (fun p _ _ => Wm_e hAM p)
  refine z_C_mono z (fun r W y => ⟨y.1, y.2.1, y.2.2.1, y.2.2.2.1, ?_⟩)
  obtain ⟨κ, k1, k2⟩ := y.2.2.2.2
  refine ⟨κ, ?_, k2⟩
  have ed : dAs M s w (Wm M) q = dAs m s w (Wm m) q := by
    funext p
    unfold dAs
    rw [eW p, show (fun i => M.1 62 (4 * s + i)) = (fun i => m.1 62 (4 * s + i)) from funext fun i => e6 62 _ (by omega), show (fun i => M.1 63 (4 * s + i)) = (fun i => m.1 63 (4 * s + i)) from funext fun i => e6 63 _ (by omega)]
  rw [ed, e6 67 s (by omega), e6 69 s (by omega), e6 68 s (by omega), e5 58 (by omega), e5 56 (by omega), e5 41 (by omega), hrd] at k1
  unfold tM1 deM
  rw [← e5 47 (by omega), ← e5 46 (by omega), ← e5 40 (by omega), ← hdl, ← e5 40 (by omega)]
  exact k1
theorem wb1 {x m : zM} {t c : Nat} {w aw : Nat → Nat} {q : Nat} {sL lL : Nat → Nat} (R : RCl x m) (P : RPh x m 1 t c) (H : HF x m t w aw q sL lL) (hA : a_H m) (hc : c < 34) {f dl rd : Nat} (hf : f ≤ 4) (hdl4 : dl < 4) (hrd2 : rd < 2) {v b : Q4} (hX : BX w aw q c sL lL true (toX x m t) (wiN t dl rd) (deM m t w q f) v) (hM : BM w q c sL lL true (tM1 (m.1 67 t) (m.1 69 t) (122 - m.1 50 47 - m.1 50 46) (m.1 50 58) (decide (m.1 68 t = 1)) (decide (nI t = m.1 50 40)) (!decide (m.1 50 56 = 0))) (wdM (nI dl) (nI t)) (nI rd) (deM m t w q f) b) : v.1 = b.1 ∧ v.2.1 = b.2.1 ∧ v.2.2.2 = b.2.2.2 := by
  have hw : 0 < w c := by
    rcases Nat.eq_zero_or_pos (w c) with e | e
    · exfalso
      have z := P.dt rfl hc
      rw [(H.1.1 c hc).1, e] at z
      exact z rfl
    · exact e
  exact wo_eq H hc hw (toX_eq P hc hA) (wi_3 t P.t4 dl hdl4 rd hrd2).1 (wi_3 t P.t4 dl hdl4 rd hrd2).2 (de_63 H (fun _ => rfl) (fun _ => rfl) hA R.wl hf) hX hM
theorem wb19 {x m : zM} {t c : Nat} {w aw : Nat → Nat} {q : Nat} {sL lL : Nat → Nat} (R : RCl x m) (P : RPh x m 1 t c) (H : HF x m t w aw q sL lL) (hA : a_H m) (hc : c < 34) {f dl rd : Nat} (hf : f ≤ 4) (hdl4 : dl < 4) (hrd2 : rd < 2) {v b : Q4} (hX : BX w aw q c sL lL true (toX x m t) (wiN t dl rd) (deM m t w q f) v) (hM : BM w q c sL lL true (tM1 (m.1 67 t) (m.1 69 t) (122 - m.1 50 47 - m.1 50 46) (m.1 50 58) (decide (m.1 68 t = 1)) (decide (nI t = m.1 50 40)) (!decide (m.1 50 56 = 0))) (wdM (nI dl) (nI t)) (nI rd) (deM m t w q f) b) (nz : ¬ v.1 = 0) : v = b := by
  have hw : 0 < w c := by
    rcases Nat.eq_zero_or_pos (w c) with e | e
    · exfalso
      have z := P.dt rfl hc
      rw [(H.1.1 c hc).1, e] at z
      exact z rfl
    · exact e
  exact wo_eq9 H hc hw (toX_eq P hc hA) (wi_3 t P.t4 dl hdl4 rd hrd2).1 (wi_3 t P.t4 dl hdl4 rd hrd2).2 (de_63 H (fun _ => rfl) (fun _ => rfl) hA R.wl hf) hX hM nz
theorem lg_win0_1 {d : Nat} (hd : 705 ≤ d) {μ : zM} (hJ : LJ μ) (hR : RG μ μ) {c dl : Nat} (P : RPh μ μ 1 0 c) (hc : c < 34) (hdl4 : dl < 4) (hdl : μ.1 50 40 = nI dl) (heq : dl = 0) (kx : z_C d mi_X6_win [.ref 0] μ (fun _ μ' => LJ μ' ∧ EqM μ μ')) (km : ∀ μ1, LJ μ1 → z_C d mi_X7_win [.ref 50] μ1 (fun _ μ' => LJ μ' ∧ EqX μ1 μ')) : GO d mi_X6_win mi_X7_win [.ref 0] [.ref 50] μ := by
  have hA := hJ.1.1
  have R := hR.1
  have hp1 : μ.1 50 44 = 1 := P.pm
  have G := hJ.1.2.2 (by rw [hp1]; decide)
  obtain ⟨w, aw, q, sL, lL, H⟩ := hf_of R P hA G P.t4
  have cx : μ.1 0 15 = nI c := P.cx.trans (if_neg (by omega))
  have cm : μ.1 50 49 = nI c := P.cm.trans (if_neg (by omega))
  obtain ⟨f, hf4, hf47⟩ := i_nat (v := μ.1 50 47) (n := 4) (hA 50 47).1 (hA 50 47).2 (by decide)
  obtain ⟨rd, hrd2, hrd⟩ : ∃ rd, rd < 2 ∧ μ.1 50 41 = nI rd := by
    rcases R.rd with e | e
    · exact ⟨0, by decide, e⟩
    · exact ⟨1, by decide, e⟩
  have cc := gc_win1 d (by omega) μ 0 dl ((dl + 1) % 4) c 1 2 3 (by decide) P.tx hdl4 rfl hc cx (by decide) (by decide) (by decide) (by decide) (by decide) (by decide) heq.symm (fun μj => μj.1 0 15 = nI c ∧ WOj μ μj ∧ a_H μj ∧ BX w aw q c sL lL true (toX μ μ 0) (wiN 0 dl rd) (deM μ 0 w q f) (bqJ μj)) (fun m z => ⟨(z.2.1 0 8 (Or.inl (by decide))).1.trans P.tx, (z.2.1 0 9 (Or.inl (by decide))).1.trans (R.dl.trans hdl), (z.2.1 0 6 (Or.inl (by decide))).1.trans (R.wc.trans P.w0)⟩) (wx1 R P H hA hA hc hf4 hf47 hdl hrd)
  have mm : ∀ μ1, LJ μ1 → EqM μ μ1 → z_C d mi_X7_win [.ref 50] μ1 (fun r μ' => ∃ V, BM w q c sL lL true (tM1 (μ.1 67 0) (μ.1 69 0) (122 - μ.1 50 47 - μ.1 50 46) (μ.1 50 58) (decide (μ.1 68 0 = 1)) (decide (nI 0 = μ.1 50 40)) (!decide (μ.1 50 56 = 0))) (wdM (nI dl) (nI 0)) (nI rd) (deM μ 0 w q f) (bq V) ∧ ((decide (V.1 50 13 = 0) = true ∧ r = some (.int 0) ∧ SMj (z_ui μ1 50 0 0) μ') ∨ (decide (V.1 50 13 = 0) = false ∧ r = some (.int 1) ∧ SMj (wM0_1 μ1 V dl ((dl + 1) % 4) c) μ'))) := fun μ1 h1 qM => by
    have E : ∀ r k', gMc r k' → μ1.1 r k' = μ.1 r k' := fun r k' g => (qM r k' g).1
    exact gm_win0_1 d (by omega) μ1 h1.1.1 dl ((dl + 1) % 4) c ((E 50 45 (Or.inr ⟨rfl, by decide, by decide⟩)).trans P.tm) ((E 50 40 (Or.inr ⟨rfl, by decide, by decide⟩)).trans hdl) hdl4 rfl heq hc ((E 50 49 (Or.inr ⟨rfl, by decide, by decide⟩)).trans cm) (by rw [E 50 44 (Or.inr ⟨rfl, by decide, by decide⟩), hp1]; decide) (by rw [E 50 57 (Or.inr ⟨rfl, by decide, by decide⟩), P.jc rfl, if_neg (by omega)]; decide) _ (fun d hd => wmD1 P.t4 H hA hc hf4 hf47 hdl hrd _ (EqM_SVl (eqM_tr qM (t0_EqM μ1 0))) (a_H_ui h1.1.1 (bI_top _)) d hd)
  refine z_C_mono (zC_and d kx cc) (fun r μ1 qq => ?_)
  obtain ⟨⟨q1, qM⟩, q2⟩ := qq
  have eM : EqM μ (z_ui μ1 50 0 0) := eqM_tr qM (t0_EqM μ1 0)
  have m2 := mm μ1 q1 qM
  rcases q2 with ⟨b1, -, -⟩ | ⟨-, μj, ⟨j1, j2, j3, j4⟩, b2⟩
  · rw [P.px] at b1; exact absurd b1 (by decide)
  · have eb := fun (V : zM) hV => wb1 (b := bq V) R P H hA hc hf4 hdl4 hrd2 j4 hV
    rcases b2 with ⟨b3, b4, b5⟩ | ⟨b3, b4, b5⟩
    · refine go_in q1 km b4 (X := μ) (by rw [b5]; exact wo_EqX j2) (z_C_mono m2 (fun r μ' z => ?_))
      obtain ⟨V, hV, z⟩ := z
      have e0 : μj.1 4 0 = V.1 50 13 := (eb V hV).1
      rcases z with ⟨_, z2, z3⟩ | ⟨z1, -, -⟩
      · exact ⟨z2, hR.cg (eqX_rf _) (eqM_tr eM (sm_EqM z3))⟩
      · rw [← e0, b3] at z1; cases z1
    · refine go_in q1 km b4 (X := wn1 μj 0 dl ((dl + 1) % 4) 1 2 3) (by rw [b5]; exact eqX_rf _) (z_C_mono m2 (fun r μ' z => ?_))
      obtain ⟨V, hV, z⟩ := z
      have e0 : μj.1 4 0 = V.1 50 13 := (eb V hV).1
      rcases z with ⟨z1, -, -⟩ | ⟨_, z2, z3⟩
      · rw [← e0, b3] at z1; cases z1
      · refine ⟨z2, RG.cg (eqX_rf _) (sm_EqM z3) ?_⟩
        have P' := P.cg (wo_EqX j2) qM
        exact rg_win0_1 (R.cg (wo_EqX j2) qM) P'.fo (P'.tx.trans P'.tm.symm) ((qM 50 40 (Or.inr ⟨rfl, by decide, by decide⟩)).1.trans hdl) hdl4 rfl e0 (eb V hV).2.1 (eb V hV).2.2 (congrArg (fun q => q.2.2.1) (wb19 (b := bq V) R P H hA hc hf4 hdl4 hrd2 j4 hV (of_decide_eq_false b3))) j1
theorem lg_win0_0 {d : Nat} (hd : 705 ≤ d) {μ : zM} (hJ : LJ μ) (hR : RG μ μ) {c dl : Nat} (P : RPh μ μ 1 0 c) (hc : c < 34) (hdl4 : dl < 4) (hdl : μ.1 50 40 = nI dl) (heq : dl ≠ 0) (kx : z_C d mi_X6_win [.ref 0] μ (fun _ μ' => LJ μ' ∧ EqM μ μ')) (km : ∀ μ1, LJ μ1 → z_C d mi_X7_win [.ref 50] μ1 (fun _ μ' => LJ μ' ∧ EqX μ1 μ')) : GO d mi_X6_win mi_X7_win [.ref 0] [.ref 50] μ := by
  have hA := hJ.1.1
  have R := hR.1
  have hp1 : μ.1 50 44 = 1 := P.pm
  have G := hJ.1.2.2 (by rw [hp1]; decide)
  obtain ⟨w, aw, q, sL, lL, H⟩ := hf_of R P hA G P.t4
  have cx : μ.1 0 15 = nI c := P.cx.trans (if_neg (by omega))
  have cm : μ.1 50 49 = nI c := P.cm.trans (if_neg (by omega))
  obtain ⟨f, hf4, hf47⟩ := i_nat (v := μ.1 50 47) (n := 4) (hA 50 47).1 (hA 50 47).2 (by decide)
  obtain ⟨rd, hrd2, hrd⟩ : ∃ rd, rd < 2 ∧ μ.1 50 41 = nI rd := by
    rcases R.rd with e | e
    · exact ⟨0, by decide, e⟩
    · exact ⟨1, by decide, e⟩
  have cc := gc_win0 d (by omega) μ 0 dl ((dl + 1) % 4) c 1 2 3 (by decide) P.tx hdl4 rfl hc cx (by decide) (by decide) (by decide) (by decide) (by decide) (by decide) (fun e => heq e.symm) (fun μj => μj.1 0 15 = nI c ∧ WOj μ μj ∧ a_H μj ∧ BX w aw q c sL lL true (toX μ μ 0) (wiN 0 dl rd) (deM μ 0 w q f) (bqJ μj)) (fun m z => ⟨(z.2.1 0 8 (Or.inl (by decide))).1.trans P.tx, (z.2.1 0 9 (Or.inl (by decide))).1.trans (R.dl.trans hdl), (z.2.1 0 6 (Or.inl (by decide))).1.trans (R.wc.trans P.w0)⟩) (wx1 R P H hA hA hc hf4 hf47 hdl hrd)
  have mm : ∀ μ1, LJ μ1 → EqM μ μ1 → z_C d mi_X7_win [.ref 50] μ1 (fun r μ' => ∃ V, BM w q c sL lL true (tM1 (μ.1 67 0) (μ.1 69 0) (122 - μ.1 50 47 - μ.1 50 46) (μ.1 50 58) (decide (μ.1 68 0 = 1)) (decide (nI 0 = μ.1 50 40)) (!decide (μ.1 50 56 = 0))) (wdM (nI dl) (nI 0)) (nI rd) (deM μ 0 w q f) (bq V) ∧ ((decide (V.1 50 13 = 0) = true ∧ r = some (.int 0) ∧ SMj (z_ui μ1 50 0 0) μ') ∨ (decide (V.1 50 13 = 0) = false ∧ r = some (.int 1) ∧ SMj (wM0_0 μ1 V dl ((dl + 1) % 4) c) μ'))) := fun μ1 h1 qM => by
    have E : ∀ r k', gMc r k' → μ1.1 r k' = μ.1 r k' := fun r k' g => (qM r k' g).1
    exact gm_win0_0 d (by omega) μ1 h1.1.1 dl ((dl + 1) % 4) c ((E 50 45 (Or.inr ⟨rfl, by decide, by decide⟩)).trans P.tm) ((E 50 40 (Or.inr ⟨rfl, by decide, by decide⟩)).trans hdl) hdl4 rfl heq hc ((E 50 49 (Or.inr ⟨rfl, by decide, by decide⟩)).trans cm) (by rw [E 50 44 (Or.inr ⟨rfl, by decide, by decide⟩), hp1]; decide) (by rw [E 50 57 (Or.inr ⟨rfl, by decide, by decide⟩), P.jc rfl, if_neg (by omega)]; decide) _ (fun d hd => wmD1 P.t4 H hA hc hf4 hf47 hdl hrd _ (EqM_SVl (eqM_tr qM (t0_EqM μ1 0))) (a_H_ui h1.1.1 (bI_top _)) d hd)
  refine z_C_mono (zC_and d kx cc) (fun r μ1 qq => ?_)
  obtain ⟨⟨q1, qM⟩, q2⟩ := qq
  have eM : EqM μ (z_ui μ1 50 0 0) := eqM_tr qM (t0_EqM μ1 0)
  have m2 := mm μ1 q1 qM
  rcases q2 with ⟨b1, -, -⟩ | ⟨-, μj, ⟨j1, j2, j3, j4⟩, b2⟩
  · rw [P.px] at b1; exact absurd b1 (by decide)
  · have eb := fun (V : zM) hV => wb1 (b := bq V) R P H hA hc hf4 hdl4 hrd2 j4 hV
    rcases b2 with ⟨b3, b4, b5⟩ | ⟨b3, b4, b5⟩
    · refine go_in q1 km b4 (X := μ) (by rw [b5]; exact wo_EqX j2) (z_C_mono m2 (fun r μ' z => ?_))
      obtain ⟨V, hV, z⟩ := z
      have e0 : μj.1 4 0 = V.1 50 13 := (eb V hV).1
      rcases z with ⟨_, z2, z3⟩ | ⟨z1, -, -⟩
      · exact ⟨z2, hR.cg (eqX_rf _) (eqM_tr eM (sm_EqM z3))⟩
      · rw [← e0, b3] at z1; cases z1
    · refine go_in q1 km b4 (X := wn0 μj 0 dl ((dl + 1) % 4) 1 2 3) (by rw [b5]; exact eqX_rf _) (z_C_mono m2 (fun r μ' z => ?_))
      obtain ⟨V, hV, z⟩ := z
      have e0 : μj.1 4 0 = V.1 50 13 := (eb V hV).1
      rcases z with ⟨z1, -, -⟩ | ⟨_, z2, z3⟩
      · rw [← e0, b3] at z1; cases z1
      · refine ⟨z2, RG.cg (eqX_rf _) (sm_EqM z3) ?_⟩
        have P' := P.cg (wo_EqX j2) qM
        exact rg_win0_0 (R.cg (wo_EqX j2) qM) P'.fo (P'.tx.trans P'.tm.symm) ((qM 50 40 (Or.inr ⟨rfl, by decide, by decide⟩)).1.trans hdl) hdl4 rfl e0 (eb V hV).2.1 (eb V hV).2.2 (congrArg (fun q => q.2.2.1) (wb19 (b := bq V) R P H hA hc hf4 hdl4 hrd2 j4 hV (of_decide_eq_false b3))) j1
theorem lg_win1_1 {d : Nat} (hd : 705 ≤ d) {μ : zM} (hJ : LJ μ) (hR : RG μ μ) {c dl : Nat} (P : RPh μ μ 1 1 c) (hc : c < 34) (hdl4 : dl < 4) (hdl : μ.1 50 40 = nI dl) (heq : dl = 1) (kx : z_C d mi_X6_win [.ref 0] μ (fun _ μ' => LJ μ' ∧ EqM μ μ')) (km : ∀ μ1, LJ μ1 → z_C d mi_X7_win [.ref 50] μ1 (fun _ μ' => LJ μ' ∧ EqX μ1 μ')) : GO d mi_X6_win mi_X7_win [.ref 0] [.ref 50] μ := by
  have hA := hJ.1.1
  have R := hR.1
  have hp1 : μ.1 50 44 = 1 := P.pm
  have G := hJ.1.2.2 (by rw [hp1]; decide)
  obtain ⟨w, aw, q, sL, lL, H⟩ := hf_of R P hA G P.t4
  have cx : μ.1 0 15 = nI c := P.cx.trans (if_neg (by omega))
  have cm : μ.1 50 49 = nI c := P.cm.trans (if_neg (by omega))
  obtain ⟨f, hf4, hf47⟩ := i_nat (v := μ.1 50 47) (n := 4) (hA 50 47).1 (hA 50 47).2 (by decide)
  obtain ⟨rd, hrd2, hrd⟩ : ∃ rd, rd < 2 ∧ μ.1 50 41 = nI rd := by
    rcases R.rd with e | e
    · exact ⟨0, by decide, e⟩
    · exact ⟨1, by decide, e⟩
  have cc := gc_win1 d (by omega) μ 1 dl ((dl + 1) % 4) c 2 3 0 (by decide) P.tx hdl4 rfl hc cx (by decide) (by decide) (by decide) (by decide) (by decide) (by decide) heq.symm (fun μj => μj.1 0 15 = nI c ∧ WOj μ μj ∧ a_H μj ∧ BX w aw q c sL lL true (toX μ μ 1) (wiN 1 dl rd) (deM μ 1 w q f) (bqJ μj)) (fun m z => ⟨(z.2.1 0 8 (Or.inl (by decide))).1.trans P.tx, (z.2.1 0 9 (Or.inl (by decide))).1.trans (R.dl.trans hdl), (z.2.1 0 6 (Or.inl (by decide))).1.trans (R.wc.trans P.w0)⟩) (wx1 R P H hA hA hc hf4 hf47 hdl hrd)
  have mm : ∀ μ1, LJ μ1 → EqM μ μ1 → z_C d mi_X7_win [.ref 50] μ1 (fun r μ' => ∃ V, BM w q c sL lL true (tM1 (μ.1 67 1) (μ.1 69 1) (122 - μ.1 50 47 - μ.1 50 46) (μ.1 50 58) (decide (μ.1 68 1 = 1)) (decide (nI 1 = μ.1 50 40)) (!decide (μ.1 50 56 = 0))) (wdM (nI dl) (nI 1)) (nI rd) (deM μ 1 w q f) (bq V) ∧ ((decide (V.1 50 13 = 0) = true ∧ r = some (.int 0) ∧ SMj (z_ui μ1 50 0 0) μ') ∨ (decide (V.1 50 13 = 0) = false ∧ r = some (.int 1) ∧ SMj (wM1_1 μ1 V dl ((dl + 1) % 4) c) μ'))) := fun μ1 h1 qM => by
    have E : ∀ r k', gMc r k' → μ1.1 r k' = μ.1 r k' := fun r k' g => (qM r k' g).1
    exact gm_win1_1 d (by omega) μ1 h1.1.1 dl ((dl + 1) % 4) c ((E 50 45 (Or.inr ⟨rfl, by decide, by decide⟩)).trans P.tm) ((E 50 40 (Or.inr ⟨rfl, by decide, by decide⟩)).trans hdl) hdl4 rfl heq hc ((E 50 49 (Or.inr ⟨rfl, by decide, by decide⟩)).trans cm) (by rw [E 50 44 (Or.inr ⟨rfl, by decide, by decide⟩), hp1]; decide) (by rw [E 50 57 (Or.inr ⟨rfl, by decide, by decide⟩), P.jc rfl, if_neg (by omega)]; decide) _ (fun d hd => wmD1 P.t4 H hA hc hf4 hf47 hdl hrd _ (EqM_SVl (eqM_tr qM (t0_EqM μ1 0))) (a_H_ui h1.1.1 (bI_top _)) d hd)
  refine z_C_mono (zC_and d kx cc) (fun r μ1 qq => ?_)
  obtain ⟨⟨q1, qM⟩, q2⟩ := qq
  have eM : EqM μ (z_ui μ1 50 0 0) := eqM_tr qM (t0_EqM μ1 0)
  have m2 := mm μ1 q1 qM
  rcases q2 with ⟨b1, -, -⟩ | ⟨-, μj, ⟨j1, j2, j3, j4⟩, b2⟩
  · rw [P.px] at b1; exact absurd b1 (by decide)
  · have eb := fun (V : zM) hV => wb1 (b := bq V) R P H hA hc hf4 hdl4 hrd2 j4 hV
    rcases b2 with ⟨b3, b4, b5⟩ | ⟨b3, b4, b5⟩
    · refine go_in q1 km b4 (X := μ) (by rw [b5]; exact wo_EqX j2) (z_C_mono m2 (fun r μ' z => ?_))
      obtain ⟨V, hV, z⟩ := z
      have e0 : μj.1 4 0 = V.1 50 13 := (eb V hV).1
      rcases z with ⟨_, z2, z3⟩ | ⟨z1, -, -⟩
      · exact ⟨z2, hR.cg (eqX_rf _) (eqM_tr eM (sm_EqM z3))⟩
      · rw [← e0, b3] at z1; cases z1
    · refine go_in q1 km b4 (X := wn1 μj 1 dl ((dl + 1) % 4) 2 3 0) (by rw [b5]; exact eqX_rf _) (z_C_mono m2 (fun r μ' z => ?_))
      obtain ⟨V, hV, z⟩ := z
      have e0 : μj.1 4 0 = V.1 50 13 := (eb V hV).1
      rcases z with ⟨z1, -, -⟩ | ⟨_, z2, z3⟩
      · rw [← e0, b3] at z1; cases z1
      · refine ⟨z2, RG.cg (eqX_rf _) (sm_EqM z3) ?_⟩
        have P' := P.cg (wo_EqX j2) qM
        exact rg_win1_1 (R.cg (wo_EqX j2) qM) P'.fo (P'.tx.trans P'.tm.symm) ((qM 50 40 (Or.inr ⟨rfl, by decide, by decide⟩)).1.trans hdl) hdl4 rfl e0 (eb V hV).2.1 (eb V hV).2.2 (congrArg (fun q => q.2.2.1) (wb19 (b := bq V) R P H hA hc hf4 hdl4 hrd2 j4 hV (of_decide_eq_false b3))) j1
theorem lg_win1_0 {d : Nat} (hd : 705 ≤ d) {μ : zM} (hJ : LJ μ) (hR : RG μ μ) {c dl : Nat} (P : RPh μ μ 1 1 c) (hc : c < 34) (hdl4 : dl < 4) (hdl : μ.1 50 40 = nI dl) (heq : dl ≠ 1) (kx : z_C d mi_X6_win [.ref 0] μ (fun _ μ' => LJ μ' ∧ EqM μ μ')) (km : ∀ μ1, LJ μ1 → z_C d mi_X7_win [.ref 50] μ1 (fun _ μ' => LJ μ' ∧ EqX μ1 μ')) : GO d mi_X6_win mi_X7_win [.ref 0] [.ref 50] μ := by
  have hA := hJ.1.1
  have R := hR.1
  have hp1 : μ.1 50 44 = 1 := P.pm
  have G := hJ.1.2.2 (by rw [hp1]; decide)
  obtain ⟨w, aw, q, sL, lL, H⟩ := hf_of R P hA G P.t4
  have cx : μ.1 0 15 = nI c := P.cx.trans (if_neg (by omega))
  have cm : μ.1 50 49 = nI c := P.cm.trans (if_neg (by omega))
  obtain ⟨f, hf4, hf47⟩ := i_nat (v := μ.1 50 47) (n := 4) (hA 50 47).1 (hA 50 47).2 (by decide)
  obtain ⟨rd, hrd2, hrd⟩ : ∃ rd, rd < 2 ∧ μ.1 50 41 = nI rd := by
    rcases R.rd with e | e
    · exact ⟨0, by decide, e⟩
    · exact ⟨1, by decide, e⟩
  have cc := gc_win0 d (by omega) μ 1 dl ((dl + 1) % 4) c 2 3 0 (by decide) P.tx hdl4 rfl hc cx (by decide) (by decide) (by decide) (by decide) (by decide) (by decide) (fun e => heq e.symm) (fun μj => μj.1 0 15 = nI c ∧ WOj μ μj ∧ a_H μj ∧ BX w aw q c sL lL true (toX μ μ 1) (wiN 1 dl rd) (deM μ 1 w q f) (bqJ μj)) (fun m z => ⟨(z.2.1 0 8 (Or.inl (by decide))).1.trans P.tx, (z.2.1 0 9 (Or.inl (by decide))).1.trans (R.dl.trans hdl), (z.2.1 0 6 (Or.inl (by decide))).1.trans (R.wc.trans P.w0)⟩) (wx1 R P H hA hA hc hf4 hf47 hdl hrd)
  have mm : ∀ μ1, LJ μ1 → EqM μ μ1 → z_C d mi_X7_win [.ref 50] μ1 (fun r μ' => ∃ V, BM w q c sL lL true (tM1 (μ.1 67 1) (μ.1 69 1) (122 - μ.1 50 47 - μ.1 50 46) (μ.1 50 58) (decide (μ.1 68 1 = 1)) (decide (nI 1 = μ.1 50 40)) (!decide (μ.1 50 56 = 0))) (wdM (nI dl) (nI 1)) (nI rd) (deM μ 1 w q f) (bq V) ∧ ((decide (V.1 50 13 = 0) = true ∧ r = some (.int 0) ∧ SMj (z_ui μ1 50 0 0) μ') ∨ (decide (V.1 50 13 = 0) = false ∧ r = some (.int 1) ∧ SMj (wM1_0 μ1 V dl ((dl + 1) % 4) c) μ'))) := fun μ1 h1 qM => by
    have E : ∀ r k', gMc r k' → μ1.1 r k' = μ.1 r k' := fun r k' g => (qM r k' g).1
    exact gm_win1_0 d (by omega) μ1 h1.1.1 dl ((dl + 1) % 4) c ((E 50 45 (Or.inr ⟨rfl, by decide, by decide⟩)).trans P.tm) ((E 50 40 (Or.inr ⟨rfl, by decide, by decide⟩)).trans hdl) hdl4 rfl heq hc ((E 50 49 (Or.inr ⟨rfl, by decide, by decide⟩)).trans cm) (by rw [E 50 44 (Or.inr ⟨rfl, by decide, by decide⟩), hp1]; decide) (by rw [E 50 57 (Or.inr ⟨rfl, by decide, by decide⟩), P.jc rfl, if_neg (by omega)]; decide) _ (fun d hd => wmD1 P.t4 H hA hc hf4 hf47 hdl hrd _ (EqM_SVl (eqM_tr qM (t0_EqM μ1 0))) (a_H_ui h1.1.1 (bI_top _)) d hd)
  refine z_C_mono (zC_and d kx cc) (fun r μ1 qq => ?_)
  obtain ⟨⟨q1, qM⟩, q2⟩ := qq
  have eM : EqM μ (z_ui μ1 50 0 0) := eqM_tr qM (t0_EqM μ1 0)
  have m2 := mm μ1 q1 qM
  rcases q2 with ⟨b1, -, -⟩ | ⟨-, μj, ⟨j1, j2, j3, j4⟩, b2⟩
  · rw [P.px] at b1; exact absurd b1 (by decide)
  · have eb := fun (V : zM) hV => wb1 (b := bq V) R P H hA hc hf4 hdl4 hrd2 j4 hV
    rcases b2 with ⟨b3, b4, b5⟩ | ⟨b3, b4, b5⟩
    · refine go_in q1 km b4 (X := μ) (by rw [b5]; exact wo_EqX j2) (z_C_mono m2 (fun r μ' z => ?_))
      obtain ⟨V, hV, z⟩ := z
      have e0 : μj.1 4 0 = V.1 50 13 := (eb V hV).1
      rcases z with ⟨_, z2, z3⟩ | ⟨z1, -, -⟩
      · exact ⟨z2, hR.cg (eqX_rf _) (eqM_tr eM (sm_EqM z3))⟩
      · rw [← e0, b3] at z1; cases z1
    · refine go_in q1 km b4 (X := wn0 μj 1 dl ((dl + 1) % 4) 2 3 0) (by rw [b5]; exact eqX_rf _) (z_C_mono m2 (fun r μ' z => ?_))
      obtain ⟨V, hV, z⟩ := z
      have e0 : μj.1 4 0 = V.1 50 13 := (eb V hV).1
      rcases z with ⟨z1, -, -⟩ | ⟨_, z2, z3⟩
      · rw [← e0, b3] at z1; cases z1
      · refine ⟨z2, RG.cg (eqX_rf _) (sm_EqM z3) ?_⟩
        have P' := P.cg (wo_EqX j2) qM
        exact rg_win1_0 (R.cg (wo_EqX j2) qM) P'.fo (P'.tx.trans P'.tm.symm) ((qM 50 40 (Or.inr ⟨rfl, by decide, by decide⟩)).1.trans hdl) hdl4 rfl e0 (eb V hV).2.1 (eb V hV).2.2 (congrArg (fun q => q.2.2.1) (wb19 (b := bq V) R P H hA hc hf4 hdl4 hrd2 j4 hV (of_decide_eq_false b3))) j1
theorem lg_win2_1 {d : Nat} (hd : 705 ≤ d) {μ : zM} (hJ : LJ μ) (hR : RG μ μ) {c dl : Nat} (P : RPh μ μ 1 2 c) (hc : c < 34) (hdl4 : dl < 4) (hdl : μ.1 50 40 = nI dl) (heq : dl = 2) (kx : z_C d mi_X6_win [.ref 0] μ (fun _ μ' => LJ μ' ∧ EqM μ μ')) (km : ∀ μ1, LJ μ1 → z_C d mi_X7_win [.ref 50] μ1 (fun _ μ' => LJ μ' ∧ EqX μ1 μ')) : GO d mi_X6_win mi_X7_win [.ref 0] [.ref 50] μ := by
  have hA := hJ.1.1
  have R := hR.1
  have hp1 : μ.1 50 44 = 1 := P.pm
  have G := hJ.1.2.2 (by rw [hp1]; decide)
  obtain ⟨w, aw, q, sL, lL, H⟩ := hf_of R P hA G P.t4
  have cx : μ.1 0 15 = nI c := P.cx.trans (if_neg (by omega))
  have cm : μ.1 50 49 = nI c := P.cm.trans (if_neg (by omega))
  obtain ⟨f, hf4, hf47⟩ := i_nat (v := μ.1 50 47) (n := 4) (hA 50 47).1 (hA 50 47).2 (by decide)
  obtain ⟨rd, hrd2, hrd⟩ : ∃ rd, rd < 2 ∧ μ.1 50 41 = nI rd := by
    rcases R.rd with e | e
    · exact ⟨0, by decide, e⟩
    · exact ⟨1, by decide, e⟩
  have cc := gc_win1 d (by omega) μ 2 dl ((dl + 1) % 4) c 3 0 1 (by decide) P.tx hdl4 rfl hc cx (by decide) (by decide) (by decide) (by decide) (by decide) (by decide) heq.symm (fun μj => μj.1 0 15 = nI c ∧ WOj μ μj ∧ a_H μj ∧ BX w aw q c sL lL true (toX μ μ 2) (wiN 2 dl rd) (deM μ 2 w q f) (bqJ μj)) (fun m z => ⟨(z.2.1 0 8 (Or.inl (by decide))).1.trans P.tx, (z.2.1 0 9 (Or.inl (by decide))).1.trans (R.dl.trans hdl), (z.2.1 0 6 (Or.inl (by decide))).1.trans (R.wc.trans P.w0)⟩) (wx1 R P H hA hA hc hf4 hf47 hdl hrd)
  have mm : ∀ μ1, LJ μ1 → EqM μ μ1 → z_C d mi_X7_win [.ref 50] μ1 (fun r μ' => ∃ V, BM w q c sL lL true (tM1 (μ.1 67 2) (μ.1 69 2) (122 - μ.1 50 47 - μ.1 50 46) (μ.1 50 58) (decide (μ.1 68 2 = 1)) (decide (nI 2 = μ.1 50 40)) (!decide (μ.1 50 56 = 0))) (wdM (nI dl) (nI 2)) (nI rd) (deM μ 2 w q f) (bq V) ∧ ((decide (V.1 50 13 = 0) = true ∧ r = some (.int 0) ∧ SMj (z_ui μ1 50 0 0) μ') ∨ (decide (V.1 50 13 = 0) = false ∧ r = some (.int 1) ∧ SMj (wM2_1 μ1 V dl ((dl + 1) % 4) c) μ'))) := fun μ1 h1 qM => by
    have E : ∀ r k', gMc r k' → μ1.1 r k' = μ.1 r k' := fun r k' g => (qM r k' g).1
    exact gm_win2_1 d (by omega) μ1 h1.1.1 dl ((dl + 1) % 4) c ((E 50 45 (Or.inr ⟨rfl, by decide, by decide⟩)).trans P.tm) ((E 50 40 (Or.inr ⟨rfl, by decide, by decide⟩)).trans hdl) hdl4 rfl heq hc ((E 50 49 (Or.inr ⟨rfl, by decide, by decide⟩)).trans cm) (by rw [E 50 44 (Or.inr ⟨rfl, by decide, by decide⟩), hp1]; decide) (by rw [E 50 57 (Or.inr ⟨rfl, by decide, by decide⟩), P.jc rfl, if_neg (by omega)]; decide) _ (fun d hd => wmD1 P.t4 H hA hc hf4 hf47 hdl hrd _ (EqM_SVl (eqM_tr qM (t0_EqM μ1 0))) (a_H_ui h1.1.1 (bI_top _)) d hd)
  refine z_C_mono (zC_and d kx cc) (fun r μ1 qq => ?_)
  obtain ⟨⟨q1, qM⟩, q2⟩ := qq
  have eM : EqM μ (z_ui μ1 50 0 0) := eqM_tr qM (t0_EqM μ1 0)
  have m2 := mm μ1 q1 qM
  rcases q2 with ⟨b1, -, -⟩ | ⟨-, μj, ⟨j1, j2, j3, j4⟩, b2⟩
  · rw [P.px] at b1; exact absurd b1 (by decide)
  · have eb := fun (V : zM) hV => wb1 (b := bq V) R P H hA hc hf4 hdl4 hrd2 j4 hV
    rcases b2 with ⟨b3, b4, b5⟩ | ⟨b3, b4, b5⟩
    · refine go_in q1 km b4 (X := μ) (by rw [b5]; exact wo_EqX j2) (z_C_mono m2 (fun r μ' z => ?_))
      obtain ⟨V, hV, z⟩ := z
      have e0 : μj.1 4 0 = V.1 50 13 := (eb V hV).1
      rcases z with ⟨_, z2, z3⟩ | ⟨z1, -, -⟩
      · exact ⟨z2, hR.cg (eqX_rf _) (eqM_tr eM (sm_EqM z3))⟩
      · rw [← e0, b3] at z1; cases z1
    · refine go_in q1 km b4 (X := wn1 μj 2 dl ((dl + 1) % 4) 3 0 1) (by rw [b5]; exact eqX_rf _) (z_C_mono m2 (fun r μ' z => ?_))
      obtain ⟨V, hV, z⟩ := z
      have e0 : μj.1 4 0 = V.1 50 13 := (eb V hV).1
      rcases z with ⟨z1, -, -⟩ | ⟨_, z2, z3⟩
      · rw [← e0, b3] at z1; cases z1
      · refine ⟨z2, RG.cg (eqX_rf _) (sm_EqM z3) ?_⟩
        have P' := P.cg (wo_EqX j2) qM
        exact rg_win2_1 (R.cg (wo_EqX j2) qM) P'.fo (P'.tx.trans P'.tm.symm) ((qM 50 40 (Or.inr ⟨rfl, by decide, by decide⟩)).1.trans hdl) hdl4 rfl e0 (eb V hV).2.1 (eb V hV).2.2 (congrArg (fun q => q.2.2.1) (wb19 (b := bq V) R P H hA hc hf4 hdl4 hrd2 j4 hV (of_decide_eq_false b3))) j1
theorem lg_win2_0 {d : Nat} (hd : 705 ≤ d) {μ : zM} (hJ : LJ μ) (hR : RG μ μ) {c dl : Nat} (P : RPh μ μ 1 2 c) (hc : c < 34) (hdl4 : dl < 4) (hdl : μ.1 50 40 = nI dl) (heq : dl ≠ 2) (kx : z_C d mi_X6_win [.ref 0] μ (fun _ μ' => LJ μ' ∧ EqM μ μ')) (km : ∀ μ1, LJ μ1 → z_C d mi_X7_win [.ref 50] μ1 (fun _ μ' => LJ μ' ∧ EqX μ1 μ')) : GO d mi_X6_win mi_X7_win [.ref 0] [.ref 50] μ := by
  have hA := hJ.1.1
  have R := hR.1
  have hp1 : μ.1 50 44 = 1 := P.pm
  have G := hJ.1.2.2 (by rw [hp1]; decide)
  obtain ⟨w, aw, q, sL, lL, H⟩ := hf_of R P hA G P.t4
  have cx : μ.1 0 15 = nI c := P.cx.trans (if_neg (by omega))
  have cm : μ.1 50 49 = nI c := P.cm.trans (if_neg (by omega))
  obtain ⟨f, hf4, hf47⟩ := i_nat (v := μ.1 50 47) (n := 4) (hA 50 47).1 (hA 50 47).2 (by decide)
  obtain ⟨rd, hrd2, hrd⟩ : ∃ rd, rd < 2 ∧ μ.1 50 41 = nI rd := by
    rcases R.rd with e | e
    · exact ⟨0, by decide, e⟩
    · exact ⟨1, by decide, e⟩
  have cc := gc_win0 d (by omega) μ 2 dl ((dl + 1) % 4) c 3 0 1 (by decide) P.tx hdl4 rfl hc cx (by decide) (by decide) (by decide) (by decide) (by decide) (by decide) (fun e => heq e.symm) (fun μj => μj.1 0 15 = nI c ∧ WOj μ μj ∧ a_H μj ∧ BX w aw q c sL lL true (toX μ μ 2) (wiN 2 dl rd) (deM μ 2 w q f) (bqJ μj)) (fun m z => ⟨(z.2.1 0 8 (Or.inl (by decide))).1.trans P.tx, (z.2.1 0 9 (Or.inl (by decide))).1.trans (R.dl.trans hdl), (z.2.1 0 6 (Or.inl (by decide))).1.trans (R.wc.trans P.w0)⟩) (wx1 R P H hA hA hc hf4 hf47 hdl hrd)
  have mm : ∀ μ1, LJ μ1 → EqM μ μ1 → z_C d mi_X7_win [.ref 50] μ1 (fun r μ' => ∃ V, BM w q c sL lL true (tM1 (μ.1 67 2) (μ.1 69 2) (122 - μ.1 50 47 - μ.1 50 46) (μ.1 50 58) (decide (μ.1 68 2 = 1)) (decide (nI 2 = μ.1 50 40)) (!decide (μ.1 50 56 = 0))) (wdM (nI dl) (nI 2)) (nI rd) (deM μ 2 w q f) (bq V) ∧ ((decide (V.1 50 13 = 0) = true ∧ r = some (.int 0) ∧ SMj (z_ui μ1 50 0 0) μ') ∨ (decide (V.1 50 13 = 0) = false ∧ r = some (.int 1) ∧ SMj (wM2_0 μ1 V dl ((dl + 1) % 4) c) μ'))) := fun μ1 h1 qM => by
    have E : ∀ r k', gMc r k' → μ1.1 r k' = μ.1 r k' := fun r k' g => (qM r k' g).1
    exact gm_win2_0 d (by omega) μ1 h1.1.1 dl ((dl + 1) % 4) c ((E 50 45 (Or.inr ⟨rfl, by decide, by decide⟩)).trans P.tm) ((E 50 40 (Or.inr ⟨rfl, by decide, by decide⟩)).trans hdl) hdl4 rfl heq hc ((E 50 49 (Or.inr ⟨rfl, by decide, by decide⟩)).trans cm) (by rw [E 50 44 (Or.inr ⟨rfl, by decide, by decide⟩), hp1]; decide) (by rw [E 50 57 (Or.inr ⟨rfl, by decide, by decide⟩), P.jc rfl, if_neg (by omega)]; decide) _ (fun d hd => wmD1 P.t4 H hA hc hf4 hf47 hdl hrd _ (EqM_SVl (eqM_tr qM (t0_EqM μ1 0))) (a_H_ui h1.1.1 (bI_top _)) d hd)
  refine z_C_mono (zC_and d kx cc) (fun r μ1 qq => ?_)
  obtain ⟨⟨q1, qM⟩, q2⟩ := qq
  have eM : EqM μ (z_ui μ1 50 0 0) := eqM_tr qM (t0_EqM μ1 0)
  have m2 := mm μ1 q1 qM
  rcases q2 with ⟨b1, -, -⟩ | ⟨-, μj, ⟨j1, j2, j3, j4⟩, b2⟩
  · rw [P.px] at b1; exact absurd b1 (by decide)
  · have eb := fun (V : zM) hV => wb1 (b := bq V) R P H hA hc hf4 hdl4 hrd2 j4 hV
    rcases b2 with ⟨b3, b4, b5⟩ | ⟨b3, b4, b5⟩
    · refine go_in q1 km b4 (X := μ) (by rw [b5]; exact wo_EqX j2) (z_C_mono m2 (fun r μ' z => ?_))
      obtain ⟨V, hV, z⟩ := z
      have e0 : μj.1 4 0 = V.1 50 13 := (eb V hV).1
      rcases z with ⟨_, z2, z3⟩ | ⟨z1, -, -⟩
      · exact ⟨z2, hR.cg (eqX_rf _) (eqM_tr eM (sm_EqM z3))⟩
      · rw [← e0, b3] at z1; cases z1
    · refine go_in q1 km b4 (X := wn0 μj 2 dl ((dl + 1) % 4) 3 0 1) (by rw [b5]; exact eqX_rf _) (z_C_mono m2 (fun r μ' z => ?_))
      obtain ⟨V, hV, z⟩ := z
      have e0 : μj.1 4 0 = V.1 50 13 := (eb V hV).1
      rcases z with ⟨z1, -, -⟩ | ⟨_, z2, z3⟩
      · rw [← e0, b3] at z1; cases z1
      · refine ⟨z2, RG.cg (eqX_rf _) (sm_EqM z3) ?_⟩
        have P' := P.cg (wo_EqX j2) qM
        exact rg_win2_0 (R.cg (wo_EqX j2) qM) P'.fo (P'.tx.trans P'.tm.symm) ((qM 50 40 (Or.inr ⟨rfl, by decide, by decide⟩)).1.trans hdl) hdl4 rfl e0 (eb V hV).2.1 (eb V hV).2.2 (congrArg (fun q => q.2.2.1) (wb19 (b := bq V) R P H hA hc hf4 hdl4 hrd2 j4 hV (of_decide_eq_false b3))) j1
theorem lg_win3_1 {d : Nat} (hd : 705 ≤ d) {μ : zM} (hJ : LJ μ) (hR : RG μ μ) {c dl : Nat} (P : RPh μ μ 1 3 c) (hc : c < 34) (hdl4 : dl < 4) (hdl : μ.1 50 40 = nI dl) (heq : dl = 3) (kx : z_C d mi_X6_win [.ref 0] μ (fun _ μ' => LJ μ' ∧ EqM μ μ')) (km : ∀ μ1, LJ μ1 → z_C d mi_X7_win [.ref 50] μ1 (fun _ μ' => LJ μ' ∧ EqX μ1 μ')) : GO d mi_X6_win mi_X7_win [.ref 0] [.ref 50] μ := by
  have hA := hJ.1.1
  have R := hR.1
  have hp1 : μ.1 50 44 = 1 := P.pm
  have G := hJ.1.2.2 (by rw [hp1]; decide)
  obtain ⟨w, aw, q, sL, lL, H⟩ := hf_of R P hA G P.t4
  have cx : μ.1 0 15 = nI c := P.cx.trans (if_neg (by omega))
  have cm : μ.1 50 49 = nI c := P.cm.trans (if_neg (by omega))
  obtain ⟨f, hf4, hf47⟩ := i_nat (v := μ.1 50 47) (n := 4) (hA 50 47).1 (hA 50 47).2 (by decide)
  obtain ⟨rd, hrd2, hrd⟩ : ∃ rd, rd < 2 ∧ μ.1 50 41 = nI rd := by
    rcases R.rd with e | e
    · exact ⟨0, by decide, e⟩
    · exact ⟨1, by decide, e⟩
  have cc := gc_win1 d (by omega) μ 3 dl ((dl + 1) % 4) c 0 1 2 (by decide) P.tx hdl4 rfl hc cx (by decide) (by decide) (by decide) (by decide) (by decide) (by decide) heq.symm (fun μj => μj.1 0 15 = nI c ∧ WOj μ μj ∧ a_H μj ∧ BX w aw q c sL lL true (toX μ μ 3) (wiN 3 dl rd) (deM μ 3 w q f) (bqJ μj)) (fun m z => ⟨(z.2.1 0 8 (Or.inl (by decide))).1.trans P.tx, (z.2.1 0 9 (Or.inl (by decide))).1.trans (R.dl.trans hdl), (z.2.1 0 6 (Or.inl (by decide))).1.trans (R.wc.trans P.w0)⟩) (wx1 R P H hA hA hc hf4 hf47 hdl hrd)
  have mm : ∀ μ1, LJ μ1 → EqM μ μ1 → z_C d mi_X7_win [.ref 50] μ1 (fun r μ' => ∃ V, BM w q c sL lL true (tM1 (μ.1 67 3) (μ.1 69 3) (122 - μ.1 50 47 - μ.1 50 46) (μ.1 50 58) (decide (μ.1 68 3 = 1)) (decide (nI 3 = μ.1 50 40)) (!decide (μ.1 50 56 = 0))) (wdM (nI dl) (nI 3)) (nI rd) (deM μ 3 w q f) (bq V) ∧ ((decide (V.1 50 13 = 0) = true ∧ r = some (.int 0) ∧ SMj (z_ui μ1 50 0 0) μ') ∨ (decide (V.1 50 13 = 0) = false ∧ r = some (.int 1) ∧ SMj (wM3_1 μ1 V dl ((dl + 1) % 4) c) μ'))) := fun μ1 h1 qM => by
    have E : ∀ r k', gMc r k' → μ1.1 r k' = μ.1 r k' := fun r k' g => (qM r k' g).1
    exact gm_win3_1 d (by omega) μ1 h1.1.1 dl ((dl + 1) % 4) c ((E 50 45 (Or.inr ⟨rfl, by decide, by decide⟩)).trans P.tm) ((E 50 40 (Or.inr ⟨rfl, by decide, by decide⟩)).trans hdl) hdl4 rfl heq hc ((E 50 49 (Or.inr ⟨rfl, by decide, by decide⟩)).trans cm) (by rw [E 50 44 (Or.inr ⟨rfl, by decide, by decide⟩), hp1]; decide) (by rw [E 50 57 (Or.inr ⟨rfl, by decide, by decide⟩), P.jc rfl, if_neg (by omega)]; decide) _ (fun d hd => wmD1 P.t4 H hA hc hf4 hf47 hdl hrd _ (EqM_SVl (eqM_tr qM (t0_EqM μ1 0))) (a_H_ui h1.1.1 (bI_top _)) d hd)
  refine z_C_mono (zC_and d kx cc) (fun r μ1 qq => ?_)
  obtain ⟨⟨q1, qM⟩, q2⟩ := qq
  have eM : EqM μ (z_ui μ1 50 0 0) := eqM_tr qM (t0_EqM μ1 0)
  have m2 := mm μ1 q1 qM
  rcases q2 with ⟨b1, -, -⟩ | ⟨-, μj, ⟨j1, j2, j3, j4⟩, b2⟩
  · rw [P.px] at b1; exact absurd b1 (by decide)
  · have eb := fun (V : zM) hV => wb1 (b := bq V) R P H hA hc hf4 hdl4 hrd2 j4 hV
    rcases b2 with ⟨b3, b4, b5⟩ | ⟨b3, b4, b5⟩
    · refine go_in q1 km b4 (X := μ) (by rw [b5]; exact wo_EqX j2) (z_C_mono m2 (fun r μ' z => ?_))
      obtain ⟨V, hV, z⟩ := z
      have e0 : μj.1 4 0 = V.1 50 13 := (eb V hV).1
      rcases z with ⟨_, z2, z3⟩ | ⟨z1, -, -⟩
      · exact ⟨z2, hR.cg (eqX_rf _) (eqM_tr eM (sm_EqM z3))⟩
      · rw [← e0, b3] at z1; cases z1
    · refine go_in q1 km b4 (X := wn1 μj 3 dl ((dl + 1) % 4) 0 1 2) (by rw [b5]; exact eqX_rf _) (z_C_mono m2 (fun r μ' z => ?_))
      obtain ⟨V, hV, z⟩ := z
      have e0 : μj.1 4 0 = V.1 50 13 := (eb V hV).1
      rcases z with ⟨z1, -, -⟩ | ⟨_, z2, z3⟩
      · rw [← e0, b3] at z1; cases z1
      · refine ⟨z2, RG.cg (eqX_rf _) (sm_EqM z3) ?_⟩
        have P' := P.cg (wo_EqX j2) qM
        exact rg_win3_1 (R.cg (wo_EqX j2) qM) P'.fo (P'.tx.trans P'.tm.symm) ((qM 50 40 (Or.inr ⟨rfl, by decide, by decide⟩)).1.trans hdl) hdl4 rfl e0 (eb V hV).2.1 (eb V hV).2.2 (congrArg (fun q => q.2.2.1) (wb19 (b := bq V) R P H hA hc hf4 hdl4 hrd2 j4 hV (of_decide_eq_false b3))) j1
theorem lg_win3_0 {d : Nat} (hd : 705 ≤ d) {μ : zM} (hJ : LJ μ) (hR : RG μ μ) {c dl : Nat} (P : RPh μ μ 1 3 c) (hc : c < 34) (hdl4 : dl < 4) (hdl : μ.1 50 40 = nI dl) (heq : dl ≠ 3) (kx : z_C d mi_X6_win [.ref 0] μ (fun _ μ' => LJ μ' ∧ EqM μ μ')) (km : ∀ μ1, LJ μ1 → z_C d mi_X7_win [.ref 50] μ1 (fun _ μ' => LJ μ' ∧ EqX μ1 μ')) : GO d mi_X6_win mi_X7_win [.ref 0] [.ref 50] μ := by
  have hA := hJ.1.1
  have R := hR.1
  have hp1 : μ.1 50 44 = 1 := P.pm
  have G := hJ.1.2.2 (by rw [hp1]; decide)
  obtain ⟨w, aw, q, sL, lL, H⟩ := hf_of R P hA G P.t4
  have cx : μ.1 0 15 = nI c := P.cx.trans (if_neg (by omega))
  have cm : μ.1 50 49 = nI c := P.cm.trans (if_neg (by omega))
  obtain ⟨f, hf4, hf47⟩ := i_nat (v := μ.1 50 47) (n := 4) (hA 50 47).1 (hA 50 47).2 (by decide)
  obtain ⟨rd, hrd2, hrd⟩ : ∃ rd, rd < 2 ∧ μ.1 50 41 = nI rd := by
    rcases R.rd with e | e
    · exact ⟨0, by decide, e⟩
    · exact ⟨1, by decide, e⟩
  have cc := gc_win0 d (by omega) μ 3 dl ((dl + 1) % 4) c 0 1 2 (by decide) P.tx hdl4 rfl hc cx (by decide) (by decide) (by decide) (by decide) (by decide) (by decide) (fun e => heq e.symm) (fun μj => μj.1 0 15 = nI c ∧ WOj μ μj ∧ a_H μj ∧ BX w aw q c sL lL true (toX μ μ 3) (wiN 3 dl rd) (deM μ 3 w q f) (bqJ μj)) (fun m z => ⟨(z.2.1 0 8 (Or.inl (by decide))).1.trans P.tx, (z.2.1 0 9 (Or.inl (by decide))).1.trans (R.dl.trans hdl), (z.2.1 0 6 (Or.inl (by decide))).1.trans (R.wc.trans P.w0)⟩) (wx1 R P H hA hA hc hf4 hf47 hdl hrd)
  have mm : ∀ μ1, LJ μ1 → EqM μ μ1 → z_C d mi_X7_win [.ref 50] μ1 (fun r μ' => ∃ V, BM w q c sL lL true (tM1 (μ.1 67 3) (μ.1 69 3) (122 - μ.1 50 47 - μ.1 50 46) (μ.1 50 58) (decide (μ.1 68 3 = 1)) (decide (nI 3 = μ.1 50 40)) (!decide (μ.1 50 56 = 0))) (wdM (nI dl) (nI 3)) (nI rd) (deM μ 3 w q f) (bq V) ∧ ((decide (V.1 50 13 = 0) = true ∧ r = some (.int 0) ∧ SMj (z_ui μ1 50 0 0) μ') ∨ (decide (V.1 50 13 = 0) = false ∧ r = some (.int 1) ∧ SMj (wM3_0 μ1 V dl ((dl + 1) % 4) c) μ'))) := fun μ1 h1 qM => by
    have E : ∀ r k', gMc r k' → μ1.1 r k' = μ.1 r k' := fun r k' g => (qM r k' g).1
    exact gm_win3_0 d (by omega) μ1 h1.1.1 dl ((dl + 1) % 4) c ((E 50 45 (Or.inr ⟨rfl, by decide, by decide⟩)).trans P.tm) ((E 50 40 (Or.inr ⟨rfl, by decide, by decide⟩)).trans hdl) hdl4 rfl heq hc ((E 50 49 (Or.inr ⟨rfl, by decide, by decide⟩)).trans cm) (by rw [E 50 44 (Or.inr ⟨rfl, by decide, by decide⟩), hp1]; decide) (by rw [E 50 57 (Or.inr ⟨rfl, by decide, by decide⟩), P.jc rfl, if_neg (by omega)]; decide) _ (fun d hd => wmD1 P.t4 H hA hc hf4 hf47 hdl hrd _ (EqM_SVl (eqM_tr qM (t0_EqM μ1 0))) (a_H_ui h1.1.1 (bI_top _)) d hd)
  refine z_C_mono (zC_and d kx cc) (fun r μ1 qq => ?_)
  obtain ⟨⟨q1, qM⟩, q2⟩ := qq
  have eM : EqM μ (z_ui μ1 50 0 0) := eqM_tr qM (t0_EqM μ1 0)
  have m2 := mm μ1 q1 qM
  rcases q2 with ⟨b1, -, -⟩ | ⟨-, μj, ⟨j1, j2, j3, j4⟩, b2⟩
  · rw [P.px] at b1; exact absurd b1 (by decide)
  · have eb := fun (V : zM) hV => wb1 (b := bq V) R P H hA hc hf4 hdl4 hrd2 j4 hV
    rcases b2 with ⟨b3, b4, b5⟩ | ⟨b3, b4, b5⟩
    · refine go_in q1 km b4 (X := μ) (by rw [b5]; exact wo_EqX j2) (z_C_mono m2 (fun r μ' z => ?_))
      obtain ⟨V, hV, z⟩ := z
      have e0 : μj.1 4 0 = V.1 50 13 := (eb V hV).1
      rcases z with ⟨_, z2, z3⟩ | ⟨z1, -, -⟩
      · exact ⟨z2, hR.cg (eqX_rf _) (eqM_tr eM (sm_EqM z3))⟩
      · rw [← e0, b3] at z1; cases z1
    · refine go_in q1 km b4 (X := wn0 μj 3 dl ((dl + 1) % 4) 0 1 2) (by rw [b5]; exact eqX_rf _) (z_C_mono m2 (fun r μ' z => ?_))
      obtain ⟨V, hV, z⟩ := z
      have e0 : μj.1 4 0 = V.1 50 13 := (eb V hV).1
      rcases z with ⟨z1, -, -⟩ | ⟨_, z2, z3⟩
      · rw [← e0, b3] at z1; cases z1
      · refine ⟨z2, RG.cg (eqX_rf _) (sm_EqM z3) ?_⟩
        have P' := P.cg (wo_EqX j2) qM
        exact rg_win3_0 (R.cg (wo_EqX j2) qM) P'.fo (P'.tx.trans P'.tm.symm) ((qM 50 40 (Or.inr ⟨rfl, by decide, by decide⟩)).1.trans hdl) hdl4 rfl e0 (eb V hV).2.1 (eb V hV).2.2 (congrArg (fun q => q.2.2.1) (wb19 (b := bq V) R P H hA hc hf4 hdl4 hrd2 j4 hV (of_decide_eq_false b3))) j1
theorem lg_win {d : Nat} (hd : 705 ≤ d) {μ : zM} (h : LGm μ) : GO d mi_X6_win mi_X7_win [.ref 0] [.ref 50] μ := by
  obtain ⟨hJ, hR⟩ := h
  have kx : z_C d mi_X6_win [.ref 0] μ (fun _ μ' => LJ μ' ∧ EqM μ μ') := lg_k (i := 66) (K := ak_66) rfl (by omega) (by decide +kernel) (by decide +kernel) rfl (by decide +kernel) [.ref 0] μ hJ ⟨⟨0, by decide, rfl⟩, trivial⟩
  have km : ∀ μ1, LJ μ1 → z_C d mi_X7_win [.ref 50] μ1 (fun _ μ' => LJ μ' ∧ EqX μ1 μ') := fun μ1 h => lg_e h (fc_X7_win d (by omega) μ1 h.1.1 h.1.2.1 (fun h1 h2 => (h.1.2.2 (by rw [h1]; decide)).2.2.2.2.1 (fun _ => h2)))
  have hA := hJ.1.1
  rcases hR.2 with ⟨p1, p2, -, -, -⟩ | ⟨p, t, c, P⟩
  · exact go_no hR kx km (gx_winP d (by omega) μ (by rw [p1]; decide)) (mr_winP d (by omega) μ (by rw [p2]; decide))
  by_cases hp : p = 1
  · subst hp
    rcases P.c3 with hc | ⟨hc, _⟩
    · obtain ⟨dl, hdl4, hdl⟩ := dealer_nI hA
      obtain rfl | rfl | rfl | rfl := t_four P.t4
      · by_cases he : dl = 0
        · exact lg_win0_1 hd hJ hR P hc hdl4 hdl he kx km
        · exact lg_win0_0 hd hJ hR P hc hdl4 hdl he kx km
      · by_cases he : dl = 1
        · exact lg_win1_1 hd hJ hR P hc hdl4 hdl he kx km
        · exact lg_win1_0 hd hJ hR P hc hdl4 hdl he kx km
      · by_cases he : dl = 2
        · exact lg_win2_1 hd hJ hR P hc hdl4 hdl he kx km
        · exact lg_win2_0 hd hJ hR P hc hdl4 hdl he kx km
      · by_cases he : dl = 3
        · exact lg_win3_1 hd hJ hR P hc hdl4 hdl he kx km
        · exact lg_win3_0 hd hJ hR P hc hdl4 hdl he kx km
    · exact go_no hR kx km (gx_winT d (by omega) μ (by rw [P.px]; decide) (by rw [P.cx, if_pos hc]; decide)) (mr_winT d (by omega) μ (by rw [P.pm]; decide) (by rw [P.jc rfl, if_pos hc]; decide))
  · have e : ∀ v : Int32, v = nI p → decide (v = 1) = false := fun v hv => by
      rcases P.p3 with q | q | q
      · exact absurd q hp
      · rw [hv, q]; decide
      · rw [hv, q]; decide
    exact go_no hR kx km (gx_winP d (by omega) μ (e _ P.px)) (mr_winP d (by omega) μ (e _ P.pm))
/-! pass answers alike: who said so wins -/
set_option maxRecDepth 8000
theorem sy_x {μ : zM} (R : RCl μ μ) : ∀ d, 2 ≤ d → z_C d mi_X6_someoneSays [.ref 0] μ (zR μ (.int (nB (anS μ)))) := fun d hd => by
  rw [← any_eq R]; exact gc_someoneSays d hd μ
theorem sy_m (μ : zM) : ∀ d, 2 ≤ d → z_C d mi_X7_anySays [.ref 50] (z_ui μ 50 0 0) (zR (z_ui μ 50 0 0) (.int (nB (anS μ)))) := fun d hd => by
  have z := gm_anySays d (by omega) (z_ui μ 50 0 0)
  simp (disch := first | decide | exact ad_ne (by decide) | exact ad_m (by decide) | exact ad_l (by decide) | exact ad_g (by decide) | exact ad_lt (by decide) | exact ad_o (by decide) | omega) only [ui_o, ui_k] at z
  exact z
theorem anS_e {m m' : zM} (h : EqM m m') : anS m' = anS m := by
  have e7 : ∀ k, m'.1 71 k = m.1 71 k := fun k => (h 71 k (Or.inl ⟨by decide, by decide⟩)).1
  unfold anS
  rw [e7 0, e7 1, e7 2, e7 3]
theorem pw_x {d : Nat} (hd : 12 ≤ d) {μ : zM} {p t c : Nat} (R : RCl μ μ) (P : RPh μ μ p t c) (hp : p ≠ 1) (han : anS μ = true) (W : zM → Prop) (cw : ∀ d, 11 ≤ d → z_C d mi_X6_winByTile [.ref 0] μ (fun r μ' => r = none ∧ W μ')) : z_C d mi_X6_pass [.ref 0] μ (fun r μ' => r = some (.int 1) ∧ W μ') := by
  rcases P.p3 with q | q | q
  · exact absurd q hp
  · exact gc_passW2 d (by omega) μ _ cw (by rw [P.px, q]; decide) (by rw [P.px, q]; decide) (anS μ) (sy_x R) han
  · exact gc_passW3 d (by omega) μ _ cw (by rw [P.px, q]; decide) (by rw [P.px, q]; decide) (anS μ) (sy_x R) han
/-- what the hand of a SEAT is worth with the tile of another: both sides -/
noncomputable def SW (μ : zM) (c s : Nat) (BXs BMs : Q4 → Prop) : Prop := (∀ M, WE μ M → a_H M → ∀ d, 10 ≤ d → z_C d mi_X6_weighHand [.ref 0, .int (nI s), .int 0] M (fun r W => ∃ v, BXs v ∧ r = some (.int v.1) ∧ WOj M W ∧ bqJ W = v ∧ a_H W)) ∧ (∀ M, SVl μ M → a_H M → ∀ d, 699 ≤ d → z_C d mi_X7_value [.ref 50, .int (nI s), .int (nI c), .int 0] M (fun r W => r = none ∧ a_H W ∧ SMj M W ∧ BMs (bq W))) ∧ ∀ v b, BXs v → BMs b → (v.1 = b.1 ∧ v.2.1 = b.2.1 ∧ v.2.2.2 = b.2.2.2) ∧ (¬ v.1 = 0 → v = b)
theorem bqJ_pS {M : zM} {s c : Nat} {n : Int32} : bqJ (pS M s c n) = bqJ M := by
  unfold bqJ pS
  simp (disch := first | decide | exact ad_ne (by decide) | exact ad_m (by decide) | exact ad_l (by decide) | exact ad_g (by decide) | exact ad_lt (by decide) | exact ad_o (by decide) | omega) only [ui_o, ui_j]
theorem a_H_pS {M : zM} (h : a_H M) {s c : Nat} (hs : s < 4) {n : Int32} : a_H (pS M s c n) := by
  unfold pS
  obtain rfl | rfl | rfl | rfl := t_four hs
  all_goals exact a_H_ui (a_H_ui (a_H_ui h (bI_top _)) (bI_top _)) (bI_top _)
theorem sw_of {μ : zM} {p t c s : Nat} (R : RCl μ μ) (P : RPh μ μ p t c) (hA : a_H μ) (G : GP μ) (hp : p ≠ 1) (hs : s < 4) (hst : s ≠ t) (hc : c < 34) : ∃ BXs BMs, SW μ c s BXs BMs := by
  obtain ⟨w, aw, q, sL, lL, H⟩ := hf_of R P hA G hs
  have h3 := aw_3 R P hA hp hs hst H hc
  obtain ⟨dl, hdl4, hdl⟩ := dealer_nI hA
  obtain ⟨f, hf4, hf47⟩ := i_nat (v := μ.1 50 47) (n := 4) (hA 50 47).1 (hA 50 47).2 (by decide)
  obtain ⟨rd, hrd2, hrd⟩ : ∃ rd, rd < 2 ∧ μ.1 50 41 = nI rd := by
    rcases R.rd with e | e
    · exact ⟨0, by decide, e⟩
    · exact ⟨1, by decide, e⟩
  refine ⟨_, _, fun M hM hAM d hd => z_C_mono (wx0 R P hs H hA hc h3 hf4 hf47 hdl hrd M hM hAM d hd) (fun r W z => ?_), wm0 hs H hA hc hf4 hf47 hdl hrd, fun v b h1 h2 => ⟨wb0 R P hs H hA hc h3 hf4 hdl4 hrd2 h1 h2, wb09 R P hs H hA hc h3 hf4 hdl4 hrd2 h1 h2⟩⟩
  obtain ⟨μj, ⟨j1, j2, j3, j4⟩, e1, e2⟩ := z
  exact ⟨bqJ μj, j4, e2, by rw [e1]; exact wo_pS j2, by rw [e1]; exact bqJ_pS, by rw [e1]; exact a_H_pS j3 hs⟩
theorem lg_pw001 {d : Nat} (hd : 705 ≤ d) {μ : zM} (hJ : LJ μ) (hR : RG μ μ) {p t c u1 u2 u3 dl e : Nat} (P : RPh μ μ p t c) (hp : p ≠ 1) (hc : c < 34) (hu1 : (t + 1) % 4 = u1) (hu2 : (t + 2) % 4 = u2) (hu3 : (t + 3) % 4 = u3) (hdl : μ.1 50 40 = nI dl) (hdl4 : dl < 4) (he : (dl + 1) % 4 = e) (han : anS μ = true) (hs1 : decide (μ.1 71 u1 = 0) = true) (hs2 : decide (μ.1 71 u2 = 0) = true) (hs3 : decide (μ.1 71 u3 = 0) = false) (kx : z_C d mi_X6_pass [.ref 0] μ (fun _ μ' => LJ μ' ∧ EqM μ μ')) (km : ∀ μ1, LJ μ1 → z_C d mi_X7_pass [.ref 50] μ1 (fun _ μ' => LJ μ' ∧ EqX μ1 μ')) : GO d mi_X6_pass mi_X7_pass [.ref 0] [.ref 50] μ := by
  have hA := hJ.1.1
  have R := hR.1
  have ht4 := P.t4
  have hp0 : ¬ μ.1 50 44 = 0 := by rw [P.pm]; rcases P.p3 with q | q | q <;> (rw [q]; decide)
  have G := hJ.1.2.2 hp0
  have cx : μ.1 0 15 = nI c := P.cx.trans (if_neg (by omega))
  have cm : μ.1 50 49 = nI c := P.cm.trans (if_neg (by omega))
  have h06 : μ.1 0 6 = nI 0 := R.wc.trans P.w0
  have hu14 : u1 < 4 := by omega
  have hu24 : u2 < 4 := by omega
  have hu34 : u3 < 4 := by omega
  obtain ⟨X3, M3, S3⟩ := sw_of (s := u3) R P hA G hp hu34 (by omega) hc
  have cw := fun (d : Nat) (hd : 11 ≤ d) => gc_winByTile001 d (by omega) μ t c u1 u2 u3 ht4 P.tx hu1 hu14 hu2 hu24 hu3 hu34 dl e (R.dl.trans hdl) hdl4 he h06 hA (by rw [R.sy u1 hu14]; exact hs1) (by rw [R.sy u2 hu24]; exact hs2) (by rw [R.sy u3 hu34]; exact hs3) X3 S3.1
  have cc := pw_x (d := d) (by omega) R P hp han _ cw
  refine z_C_mono (zC_and d kx cc) (fun r μ1 qq => ?_)
  obtain ⟨⟨q1, qM⟩, q2, v3, W3, b3, f3, o3, q3⟩ := qq
  have eM : EqM μ (z_ui μ1 50 0 0) := eqM_tr qM (t0_EqM μ1 0)
  have E : ∀ r k', gMc r k' → (z_ui μ1 50 0 0).1 r k' = μ.1 r k' := fun r k' g => (eM r k' g).1
  have hA1 : a_H (z_ui μ1 50 0 0) := a_H_ui q1.1.1 (bI_top _)
  refine go_in q1 km q2 (X := wA001 W3 t dl e u1 u2 u3 v3 μ) (by rw [q3]; exact eqX_rf _) ?_
  have mm := gm_passW d (by omega) μ1 (by
    rw [(qM 50 44 (Or.inr ⟨rfl, by decide, by decide⟩)).1, P.pm]
    rcases P.p3 with q | q | q
    · exact absurd q hp
    · rw [q]; decide
    · rw [q]; decide) (anS μ1) (sy_m μ1) ((anS_e qM).trans han) _ (fun d hd => gm_allWin001 d (by omega) (z_ui μ1 50 0 0) hA1 t c u1 u2 u3 dl e ht4 ((E 50 45 (Or.inr ⟨rfl, by decide, by decide⟩)).trans P.tm) hu1 hu14 hu2 hu24 hu3 hu34 ((E 50 40 (Or.inr ⟨rfl, by decide, by decide⟩)).trans hdl) hdl4 he hc ((E 50 49 (Or.inr ⟨rfl, by decide, by decide⟩)).trans cm) (by rw [E 71 u1 (Or.inl ⟨by decide, by decide⟩)]; exact hs1) (by rw [E 71 u2 (Or.inl ⟨by decide, by decide⟩)]; exact hs2) (by rw [E 71 u3 (Or.inl ⟨by decide, by decide⟩)]; exact hs3) (fun b => M3 b ∧ ¬ b.1 = 0) (fun M hM hAM d hd => z_C_mono (zC_and d (S3.2.1 M (fun r k g => (hM r k g).trans (EqM_SVl eM r k g)) hAM d hd) (P.sb hp u3 hu34 (of_decide_eq_false hs3) M (fun r k g => (hM r k g).trans (EqM_SVl eM r k g)) hAM d hd)) (fun r W z => ⟨z.1.1, z.1.2.1, z.1.2.2.1, z.1.2.2.2, z.2⟩)))
  refine z_C_mono mm (fun r μ' z => ?_)
  obtain ⟨z1, N3, g3, z3⟩ := z
  refine ⟨z1, RG.cg (eqX_rf _) (sm_EqM z3) ?_⟩
  have P' := P.cg (eqX_rf _) eM
  have k3 := (S3.2.2 _ _ b3 g3.1).1
  have w3 := (S3.2.2 _ _ b3 g3.1).2 (by rw [k3.1]; exact g3.2)
  exact rg_aw001 (R.cg (eqX_rf _) eM) P'.fo (P'.tx.trans P'.tm.symm) ((E 50 40 (Or.inr ⟨rfl, by decide, by decide⟩)).trans hdl) hdl4 he ht4 hu1 hu2 hu3 cx o3 f3 k3.1 k3.2.1 k3.2.2 (congrArg (fun q => q.2.2.1) w3)
theorem lg_pw010 {d : Nat} (hd : 705 ≤ d) {μ : zM} (hJ : LJ μ) (hR : RG μ μ) {p t c u1 u2 u3 dl e : Nat} (P : RPh μ μ p t c) (hp : p ≠ 1) (hc : c < 34) (hu1 : (t + 1) % 4 = u1) (hu2 : (t + 2) % 4 = u2) (hu3 : (t + 3) % 4 = u3) (hdl : μ.1 50 40 = nI dl) (hdl4 : dl < 4) (he : (dl + 1) % 4 = e) (han : anS μ = true) (hs1 : decide (μ.1 71 u1 = 0) = true) (hs2 : decide (μ.1 71 u2 = 0) = false) (hs3 : decide (μ.1 71 u3 = 0) = true) (kx : z_C d mi_X6_pass [.ref 0] μ (fun _ μ' => LJ μ' ∧ EqM μ μ')) (km : ∀ μ1, LJ μ1 → z_C d mi_X7_pass [.ref 50] μ1 (fun _ μ' => LJ μ' ∧ EqX μ1 μ')) : GO d mi_X6_pass mi_X7_pass [.ref 0] [.ref 50] μ := by
  have hA := hJ.1.1
  have R := hR.1
  have ht4 := P.t4
  have hp0 : ¬ μ.1 50 44 = 0 := by rw [P.pm]; rcases P.p3 with q | q | q <;> (rw [q]; decide)
  have G := hJ.1.2.2 hp0
  have cx : μ.1 0 15 = nI c := P.cx.trans (if_neg (by omega))
  have cm : μ.1 50 49 = nI c := P.cm.trans (if_neg (by omega))
  have h06 : μ.1 0 6 = nI 0 := R.wc.trans P.w0
  have hu14 : u1 < 4 := by omega
  have hu24 : u2 < 4 := by omega
  have hu34 : u3 < 4 := by omega
  obtain ⟨X2, M2, S2⟩ := sw_of (s := u2) R P hA G hp hu24 (by omega) hc
  have cw := fun (d : Nat) (hd : 11 ≤ d) => gc_winByTile010 d (by omega) μ t c u1 u2 u3 ht4 P.tx hu1 hu14 hu2 hu24 hu3 hu34 dl e (R.dl.trans hdl) hdl4 he h06 hA (by rw [R.sy u1 hu14]; exact hs1) (by rw [R.sy u2 hu24]; exact hs2) (by rw [R.sy u3 hu34]; exact hs3) X2 S2.1
  have cc := pw_x (d := d) (by omega) R P hp han _ cw
  refine z_C_mono (zC_and d kx cc) (fun r μ1 qq => ?_)
  obtain ⟨⟨q1, qM⟩, q2, v2, W2, b2, f2, o2, q3⟩ := qq
  have eM : EqM μ (z_ui μ1 50 0 0) := eqM_tr qM (t0_EqM μ1 0)
  have E : ∀ r k', gMc r k' → (z_ui μ1 50 0 0).1 r k' = μ.1 r k' := fun r k' g => (eM r k' g).1
  have hA1 : a_H (z_ui μ1 50 0 0) := a_H_ui q1.1.1 (bI_top _)
  refine go_in q1 km q2 (X := wA010 W2 t dl e u1 u2 u3 v2 μ) (by rw [q3]; exact eqX_rf _) ?_
  have mm := gm_passW d (by omega) μ1 (by
    rw [(qM 50 44 (Or.inr ⟨rfl, by decide, by decide⟩)).1, P.pm]
    rcases P.p3 with q | q | q
    · exact absurd q hp
    · rw [q]; decide
    · rw [q]; decide) (anS μ1) (sy_m μ1) ((anS_e qM).trans han) _ (fun d hd => gm_allWin010 d (by omega) (z_ui μ1 50 0 0) hA1 t c u1 u2 u3 dl e ht4 ((E 50 45 (Or.inr ⟨rfl, by decide, by decide⟩)).trans P.tm) hu1 hu14 hu2 hu24 hu3 hu34 ((E 50 40 (Or.inr ⟨rfl, by decide, by decide⟩)).trans hdl) hdl4 he hc ((E 50 49 (Or.inr ⟨rfl, by decide, by decide⟩)).trans cm) (by rw [E 71 u1 (Or.inl ⟨by decide, by decide⟩)]; exact hs1) (by rw [E 71 u2 (Or.inl ⟨by decide, by decide⟩)]; exact hs2) (by rw [E 71 u3 (Or.inl ⟨by decide, by decide⟩)]; exact hs3) (fun b => M2 b ∧ ¬ b.1 = 0) (fun M hM hAM d hd => z_C_mono (zC_and d (S2.2.1 M (fun r k g => (hM r k g).trans (EqM_SVl eM r k g)) hAM d hd) (P.sb hp u2 hu24 (of_decide_eq_false hs2) M (fun r k g => (hM r k g).trans (EqM_SVl eM r k g)) hAM d hd)) (fun r W z => ⟨z.1.1, z.1.2.1, z.1.2.2.1, z.1.2.2.2, z.2⟩)))
  refine z_C_mono mm (fun r μ' z => ?_)
  obtain ⟨z1, N2, g2, z3⟩ := z
  refine ⟨z1, RG.cg (eqX_rf _) (sm_EqM z3) ?_⟩
  have P' := P.cg (eqX_rf _) eM
  have k2 := (S2.2.2 _ _ b2 g2.1).1
  have w2 := (S2.2.2 _ _ b2 g2.1).2 (by rw [k2.1]; exact g2.2)
  exact rg_aw010 (R.cg (eqX_rf _) eM) P'.fo (P'.tx.trans P'.tm.symm) ((E 50 40 (Or.inr ⟨rfl, by decide, by decide⟩)).trans hdl) hdl4 he ht4 hu1 hu2 hu3 cx o2 f2 k2.1 k2.2.1 k2.2.2 (congrArg (fun q => q.2.2.1) w2)
theorem lg_pw011 {d : Nat} (hd : 705 ≤ d) {μ : zM} (hJ : LJ μ) (hR : RG μ μ) {p t c u1 u2 u3 dl e : Nat} (P : RPh μ μ p t c) (hp : p ≠ 1) (hc : c < 34) (hu1 : (t + 1) % 4 = u1) (hu2 : (t + 2) % 4 = u2) (hu3 : (t + 3) % 4 = u3) (hdl : μ.1 50 40 = nI dl) (hdl4 : dl < 4) (he : (dl + 1) % 4 = e) (han : anS μ = true) (hs1 : decide (μ.1 71 u1 = 0) = true) (hs2 : decide (μ.1 71 u2 = 0) = false) (hs3 : decide (μ.1 71 u3 = 0) = false) (kx : z_C d mi_X6_pass [.ref 0] μ (fun _ μ' => LJ μ' ∧ EqM μ μ')) (km : ∀ μ1, LJ μ1 → z_C d mi_X7_pass [.ref 50] μ1 (fun _ μ' => LJ μ' ∧ EqX μ1 μ')) : GO d mi_X6_pass mi_X7_pass [.ref 0] [.ref 50] μ := by
  have hA := hJ.1.1
  have R := hR.1
  have ht4 := P.t4
  have hp0 : ¬ μ.1 50 44 = 0 := by rw [P.pm]; rcases P.p3 with q | q | q <;> (rw [q]; decide)
  have G := hJ.1.2.2 hp0
  have cx : μ.1 0 15 = nI c := P.cx.trans (if_neg (by omega))
  have cm : μ.1 50 49 = nI c := P.cm.trans (if_neg (by omega))
  have h06 : μ.1 0 6 = nI 0 := R.wc.trans P.w0
  have hu14 : u1 < 4 := by omega
  have hu24 : u2 < 4 := by omega
  have hu34 : u3 < 4 := by omega
  obtain ⟨X2, M2, S2⟩ := sw_of (s := u2) R P hA G hp hu24 (by omega) hc
  obtain ⟨X3, M3, S3⟩ := sw_of (s := u3) R P hA G hp hu34 (by omega) hc
  have cw := fun (d : Nat) (hd : 11 ≤ d) => gc_winByTile011 d (by omega) μ t c u1 u2 u3 ht4 P.tx hu1 hu14 hu2 hu24 hu3 hu34 dl e (R.dl.trans hdl) hdl4 he h06 hA (by rw [R.sy u1 hu14]; exact hs1) (by rw [R.sy u2 hu24]; exact hs2) (by rw [R.sy u3 hu34]; exact hs3) X2 S2.1 X3 S3.1
  have cc := pw_x (d := d) (by omega) R P hp han _ cw
  refine z_C_mono (zC_and d kx cc) (fun r μ1 qq => ?_)
  obtain ⟨⟨q1, qM⟩, q2, v2, W2, v3, W3, b2, f2, o2, b3, f3, o3, q3⟩ := qq
  have eM : EqM μ (z_ui μ1 50 0 0) := eqM_tr qM (t0_EqM μ1 0)
  have E : ∀ r k', gMc r k' → (z_ui μ1 50 0 0).1 r k' = μ.1 r k' := fun r k' g => (eM r k' g).1
  have hA1 : a_H (z_ui μ1 50 0 0) := a_H_ui q1.1.1 (bI_top _)
  refine go_in q1 km q2 (X := wA011 W3 t dl e u1 u2 u3 v2 v3 μ) (by rw [q3]; exact eqX_rf _) ?_
  have mm := gm_passW d (by omega) μ1 (by
    rw [(qM 50 44 (Or.inr ⟨rfl, by decide, by decide⟩)).1, P.pm]
    rcases P.p3 with q | q | q
    · exact absurd q hp
    · rw [q]; decide
    · rw [q]; decide) (anS μ1) (sy_m μ1) ((anS_e qM).trans han) _ (fun d hd => gm_allWin011 d (by omega) (z_ui μ1 50 0 0) hA1 t c u1 u2 u3 dl e ht4 ((E 50 45 (Or.inr ⟨rfl, by decide, by decide⟩)).trans P.tm) hu1 hu14 hu2 hu24 hu3 hu34 ((E 50 40 (Or.inr ⟨rfl, by decide, by decide⟩)).trans hdl) hdl4 he hc ((E 50 49 (Or.inr ⟨rfl, by decide, by decide⟩)).trans cm) (by rw [E 71 u1 (Or.inl ⟨by decide, by decide⟩)]; exact hs1) (by rw [E 71 u2 (Or.inl ⟨by decide, by decide⟩)]; exact hs2) (by rw [E 71 u3 (Or.inl ⟨by decide, by decide⟩)]; exact hs3) (fun b => M2 b ∧ ¬ b.1 = 0) (fun M hM hAM d hd => z_C_mono (zC_and d (S2.2.1 M (fun r k g => (hM r k g).trans (EqM_SVl eM r k g)) hAM d hd) (P.sb hp u2 hu24 (of_decide_eq_false hs2) M (fun r k g => (hM r k g).trans (EqM_SVl eM r k g)) hAM d hd)) (fun r W z => ⟨z.1.1, z.1.2.1, z.1.2.2.1, z.1.2.2.2, z.2⟩)) (fun b => M3 b ∧ ¬ b.1 = 0) (fun M hM hAM d hd => z_C_mono (zC_and d (S3.2.1 M (fun r k g => (hM r k g).trans (EqM_SVl eM r k g)) hAM d hd) (P.sb hp u3 hu34 (of_decide_eq_false hs3) M (fun r k g => (hM r k g).trans (EqM_SVl eM r k g)) hAM d hd)) (fun r W z => ⟨z.1.1, z.1.2.1, z.1.2.2.1, z.1.2.2.2, z.2⟩)))
  refine z_C_mono mm (fun r μ' z => ?_)
  obtain ⟨z1, N2, N3, g2, g3, z3⟩ := z
  refine ⟨z1, RG.cg (eqX_rf _) (sm_EqM z3) ?_⟩
  have P' := P.cg (eqX_rf _) eM
  have k2 := (S2.2.2 _ _ b2 g2.1).1
  have w2 := (S2.2.2 _ _ b2 g2.1).2 (by rw [k2.1]; exact g2.2)
  have k3 := (S3.2.2 _ _ b3 g3.1).1
  have w3 := (S3.2.2 _ _ b3 g3.1).2 (by rw [k3.1]; exact g3.2)
  exact rg_aw011 (R.cg (eqX_rf _) eM) P'.fo (P'.tx.trans P'.tm.symm) ((E 50 40 (Or.inr ⟨rfl, by decide, by decide⟩)).trans hdl) hdl4 he ht4 hu1 hu2 hu3 cx o2 f2 k2.1 k2.2.1 k2.2.2 (congrArg (fun q => q.2.2.1) w2) o3 f3 k3.1 k3.2.1 k3.2.2 (congrArg (fun q => q.2.2.1) w3)
theorem lg_pw100 {d : Nat} (hd : 705 ≤ d) {μ : zM} (hJ : LJ μ) (hR : RG μ μ) {p t c u1 u2 u3 dl e : Nat} (P : RPh μ μ p t c) (hp : p ≠ 1) (hc : c < 34) (hu1 : (t + 1) % 4 = u1) (hu2 : (t + 2) % 4 = u2) (hu3 : (t + 3) % 4 = u3) (hdl : μ.1 50 40 = nI dl) (hdl4 : dl < 4) (he : (dl + 1) % 4 = e) (han : anS μ = true) (hs1 : decide (μ.1 71 u1 = 0) = false) (hs2 : decide (μ.1 71 u2 = 0) = true) (hs3 : decide (μ.1 71 u3 = 0) = true) (kx : z_C d mi_X6_pass [.ref 0] μ (fun _ μ' => LJ μ' ∧ EqM μ μ')) (km : ∀ μ1, LJ μ1 → z_C d mi_X7_pass [.ref 50] μ1 (fun _ μ' => LJ μ' ∧ EqX μ1 μ')) : GO d mi_X6_pass mi_X7_pass [.ref 0] [.ref 50] μ := by
  have hA := hJ.1.1
  have R := hR.1
  have ht4 := P.t4
  have hp0 : ¬ μ.1 50 44 = 0 := by rw [P.pm]; rcases P.p3 with q | q | q <;> (rw [q]; decide)
  have G := hJ.1.2.2 hp0
  have cx : μ.1 0 15 = nI c := P.cx.trans (if_neg (by omega))
  have cm : μ.1 50 49 = nI c := P.cm.trans (if_neg (by omega))
  have h06 : μ.1 0 6 = nI 0 := R.wc.trans P.w0
  have hu14 : u1 < 4 := by omega
  have hu24 : u2 < 4 := by omega
  have hu34 : u3 < 4 := by omega
  obtain ⟨X1, M1, S1⟩ := sw_of (s := u1) R P hA G hp hu14 (by omega) hc
  have cw := fun (d : Nat) (hd : 11 ≤ d) => gc_winByTile100 d (by omega) μ t c u1 u2 u3 ht4 P.tx hu1 hu14 hu2 hu24 hu3 hu34 dl e (R.dl.trans hdl) hdl4 he h06 hA (by rw [R.sy u1 hu14]; exact hs1) (by rw [R.sy u2 hu24]; exact hs2) (by rw [R.sy u3 hu34]; exact hs3) X1 S1.1
  have cc := pw_x (d := d) (by omega) R P hp han _ cw
  refine z_C_mono (zC_and d kx cc) (fun r μ1 qq => ?_)
  obtain ⟨⟨q1, qM⟩, q2, v1, W1, b1, f1, o1, q3⟩ := qq
  have eM : EqM μ (z_ui μ1 50 0 0) := eqM_tr qM (t0_EqM μ1 0)
  have E : ∀ r k', gMc r k' → (z_ui μ1 50 0 0).1 r k' = μ.1 r k' := fun r k' g => (eM r k' g).1
  have hA1 : a_H (z_ui μ1 50 0 0) := a_H_ui q1.1.1 (bI_top _)
  refine go_in q1 km q2 (X := wA100 W1 t dl e u1 u2 u3 v1 μ) (by rw [q3]; exact eqX_rf _) ?_
  have mm := gm_passW d (by omega) μ1 (by
    rw [(qM 50 44 (Or.inr ⟨rfl, by decide, by decide⟩)).1, P.pm]
    rcases P.p3 with q | q | q
    · exact absurd q hp
    · rw [q]; decide
    · rw [q]; decide) (anS μ1) (sy_m μ1) ((anS_e qM).trans han) _ (fun d hd => gm_allWin100 d (by omega) (z_ui μ1 50 0 0) hA1 t c u1 u2 u3 dl e ht4 ((E 50 45 (Or.inr ⟨rfl, by decide, by decide⟩)).trans P.tm) hu1 hu14 hu2 hu24 hu3 hu34 ((E 50 40 (Or.inr ⟨rfl, by decide, by decide⟩)).trans hdl) hdl4 he hc ((E 50 49 (Or.inr ⟨rfl, by decide, by decide⟩)).trans cm) (by rw [E 71 u1 (Or.inl ⟨by decide, by decide⟩)]; exact hs1) (by rw [E 71 u2 (Or.inl ⟨by decide, by decide⟩)]; exact hs2) (by rw [E 71 u3 (Or.inl ⟨by decide, by decide⟩)]; exact hs3) (fun b => M1 b ∧ ¬ b.1 = 0) (fun M hM hAM d hd => z_C_mono (zC_and d (S1.2.1 M (fun r k g => (hM r k g).trans (EqM_SVl eM r k g)) hAM d hd) (P.sb hp u1 hu14 (of_decide_eq_false hs1) M (fun r k g => (hM r k g).trans (EqM_SVl eM r k g)) hAM d hd)) (fun r W z => ⟨z.1.1, z.1.2.1, z.1.2.2.1, z.1.2.2.2, z.2⟩)))
  refine z_C_mono mm (fun r μ' z => ?_)
  obtain ⟨z1, N1, g1, z3⟩ := z
  refine ⟨z1, RG.cg (eqX_rf _) (sm_EqM z3) ?_⟩
  have P' := P.cg (eqX_rf _) eM
  have k1 := (S1.2.2 _ _ b1 g1.1).1
  have w1 := (S1.2.2 _ _ b1 g1.1).2 (by rw [k1.1]; exact g1.2)
  exact rg_aw100 (R.cg (eqX_rf _) eM) P'.fo (P'.tx.trans P'.tm.symm) ((E 50 40 (Or.inr ⟨rfl, by decide, by decide⟩)).trans hdl) hdl4 he ht4 hu1 hu2 hu3 cx o1 f1 k1.1 k1.2.1 k1.2.2 (congrArg (fun q => q.2.2.1) w1)
theorem lg_pw101 {d : Nat} (hd : 705 ≤ d) {μ : zM} (hJ : LJ μ) (hR : RG μ μ) {p t c u1 u2 u3 dl e : Nat} (P : RPh μ μ p t c) (hp : p ≠ 1) (hc : c < 34) (hu1 : (t + 1) % 4 = u1) (hu2 : (t + 2) % 4 = u2) (hu3 : (t + 3) % 4 = u3) (hdl : μ.1 50 40 = nI dl) (hdl4 : dl < 4) (he : (dl + 1) % 4 = e) (han : anS μ = true) (hs1 : decide (μ.1 71 u1 = 0) = false) (hs2 : decide (μ.1 71 u2 = 0) = true) (hs3 : decide (μ.1 71 u3 = 0) = false) (kx : z_C d mi_X6_pass [.ref 0] μ (fun _ μ' => LJ μ' ∧ EqM μ μ')) (km : ∀ μ1, LJ μ1 → z_C d mi_X7_pass [.ref 50] μ1 (fun _ μ' => LJ μ' ∧ EqX μ1 μ')) : GO d mi_X6_pass mi_X7_pass [.ref 0] [.ref 50] μ := by
  have hA := hJ.1.1
  have R := hR.1
  have ht4 := P.t4
  have hp0 : ¬ μ.1 50 44 = 0 := by rw [P.pm]; rcases P.p3 with q | q | q <;> (rw [q]; decide)
  have G := hJ.1.2.2 hp0
  have cx : μ.1 0 15 = nI c := P.cx.trans (if_neg (by omega))
  have cm : μ.1 50 49 = nI c := P.cm.trans (if_neg (by omega))
  have h06 : μ.1 0 6 = nI 0 := R.wc.trans P.w0
  have hu14 : u1 < 4 := by omega
  have hu24 : u2 < 4 := by omega
  have hu34 : u3 < 4 := by omega
  obtain ⟨X1, M1, S1⟩ := sw_of (s := u1) R P hA G hp hu14 (by omega) hc
  obtain ⟨X3, M3, S3⟩ := sw_of (s := u3) R P hA G hp hu34 (by omega) hc
  have cw := fun (d : Nat) (hd : 11 ≤ d) => gc_winByTile101 d (by omega) μ t c u1 u2 u3 ht4 P.tx hu1 hu14 hu2 hu24 hu3 hu34 dl e (R.dl.trans hdl) hdl4 he h06 hA (by rw [R.sy u1 hu14]; exact hs1) (by rw [R.sy u2 hu24]; exact hs2) (by rw [R.sy u3 hu34]; exact hs3) X1 S1.1 X3 S3.1
  have cc := pw_x (d := d) (by omega) R P hp han _ cw
  refine z_C_mono (zC_and d kx cc) (fun r μ1 qq => ?_)
  obtain ⟨⟨q1, qM⟩, q2, v1, W1, v3, W3, b1, f1, o1, b3, f3, o3, q3⟩ := qq
  have eM : EqM μ (z_ui μ1 50 0 0) := eqM_tr qM (t0_EqM μ1 0)
  have E : ∀ r k', gMc r k' → (z_ui μ1 50 0 0).1 r k' = μ.1 r k' := fun r k' g => (eM r k' g).1
  have hA1 : a_H (z_ui μ1 50 0 0) := a_H_ui q1.1.1 (bI_top _)
  refine go_in q1 km q2 (X := wA101 W3 t dl e u1 u2 u3 v1 v3 μ) (by rw [q3]; exact eqX_rf _) ?_
  have mm := gm_passW d (by omega) μ1 (by
    rw [(qM 50 44 (Or.inr ⟨rfl, by decide, by decide⟩)).1, P.pm]
    rcases P.p3 with q | q | q
    · exact absurd q hp
    · rw [q]; decide
    · rw [q]; decide) (anS μ1) (sy_m μ1) ((anS_e qM).trans han) _ (fun d hd => gm_allWin101 d (by omega) (z_ui μ1 50 0 0) hA1 t c u1 u2 u3 dl e ht4 ((E 50 45 (Or.inr ⟨rfl, by decide, by decide⟩)).trans P.tm) hu1 hu14 hu2 hu24 hu3 hu34 ((E 50 40 (Or.inr ⟨rfl, by decide, by decide⟩)).trans hdl) hdl4 he hc ((E 50 49 (Or.inr ⟨rfl, by decide, by decide⟩)).trans cm) (by rw [E 71 u1 (Or.inl ⟨by decide, by decide⟩)]; exact hs1) (by rw [E 71 u2 (Or.inl ⟨by decide, by decide⟩)]; exact hs2) (by rw [E 71 u3 (Or.inl ⟨by decide, by decide⟩)]; exact hs3) (fun b => M1 b ∧ ¬ b.1 = 0) (fun M hM hAM d hd => z_C_mono (zC_and d (S1.2.1 M (fun r k g => (hM r k g).trans (EqM_SVl eM r k g)) hAM d hd) (P.sb hp u1 hu14 (of_decide_eq_false hs1) M (fun r k g => (hM r k g).trans (EqM_SVl eM r k g)) hAM d hd)) (fun r W z => ⟨z.1.1, z.1.2.1, z.1.2.2.1, z.1.2.2.2, z.2⟩)) (fun b => M3 b ∧ ¬ b.1 = 0) (fun M hM hAM d hd => z_C_mono (zC_and d (S3.2.1 M (fun r k g => (hM r k g).trans (EqM_SVl eM r k g)) hAM d hd) (P.sb hp u3 hu34 (of_decide_eq_false hs3) M (fun r k g => (hM r k g).trans (EqM_SVl eM r k g)) hAM d hd)) (fun r W z => ⟨z.1.1, z.1.2.1, z.1.2.2.1, z.1.2.2.2, z.2⟩)))
  refine z_C_mono mm (fun r μ' z => ?_)
  obtain ⟨z1, N1, N3, g1, g3, z3⟩ := z
  refine ⟨z1, RG.cg (eqX_rf _) (sm_EqM z3) ?_⟩
  have P' := P.cg (eqX_rf _) eM
  have k1 := (S1.2.2 _ _ b1 g1.1).1
  have w1 := (S1.2.2 _ _ b1 g1.1).2 (by rw [k1.1]; exact g1.2)
  have k3 := (S3.2.2 _ _ b3 g3.1).1
  have w3 := (S3.2.2 _ _ b3 g3.1).2 (by rw [k3.1]; exact g3.2)
  exact rg_aw101 (R.cg (eqX_rf _) eM) P'.fo (P'.tx.trans P'.tm.symm) ((E 50 40 (Or.inr ⟨rfl, by decide, by decide⟩)).trans hdl) hdl4 he ht4 hu1 hu2 hu3 cx o1 f1 k1.1 k1.2.1 k1.2.2 (congrArg (fun q => q.2.2.1) w1) o3 f3 k3.1 k3.2.1 k3.2.2 (congrArg (fun q => q.2.2.1) w3)
theorem lg_pw110 {d : Nat} (hd : 705 ≤ d) {μ : zM} (hJ : LJ μ) (hR : RG μ μ) {p t c u1 u2 u3 dl e : Nat} (P : RPh μ μ p t c) (hp : p ≠ 1) (hc : c < 34) (hu1 : (t + 1) % 4 = u1) (hu2 : (t + 2) % 4 = u2) (hu3 : (t + 3) % 4 = u3) (hdl : μ.1 50 40 = nI dl) (hdl4 : dl < 4) (he : (dl + 1) % 4 = e) (han : anS μ = true) (hs1 : decide (μ.1 71 u1 = 0) = false) (hs2 : decide (μ.1 71 u2 = 0) = false) (hs3 : decide (μ.1 71 u3 = 0) = true) (kx : z_C d mi_X6_pass [.ref 0] μ (fun _ μ' => LJ μ' ∧ EqM μ μ')) (km : ∀ μ1, LJ μ1 → z_C d mi_X7_pass [.ref 50] μ1 (fun _ μ' => LJ μ' ∧ EqX μ1 μ')) : GO d mi_X6_pass mi_X7_pass [.ref 0] [.ref 50] μ := by
  have hA := hJ.1.1
  have R := hR.1
  have ht4 := P.t4
  have hp0 : ¬ μ.1 50 44 = 0 := by rw [P.pm]; rcases P.p3 with q | q | q <;> (rw [q]; decide)
  have G := hJ.1.2.2 hp0
  have cx : μ.1 0 15 = nI c := P.cx.trans (if_neg (by omega))
  have cm : μ.1 50 49 = nI c := P.cm.trans (if_neg (by omega))
  have h06 : μ.1 0 6 = nI 0 := R.wc.trans P.w0
  have hu14 : u1 < 4 := by omega
  have hu24 : u2 < 4 := by omega
  have hu34 : u3 < 4 := by omega
  obtain ⟨X1, M1, S1⟩ := sw_of (s := u1) R P hA G hp hu14 (by omega) hc
  obtain ⟨X2, M2, S2⟩ := sw_of (s := u2) R P hA G hp hu24 (by omega) hc
  have cw := fun (d : Nat) (hd : 11 ≤ d) => gc_winByTile110 d (by omega) μ t c u1 u2 u3 ht4 P.tx hu1 hu14 hu2 hu24 hu3 hu34 dl e (R.dl.trans hdl) hdl4 he h06 hA (by rw [R.sy u1 hu14]; exact hs1) (by rw [R.sy u2 hu24]; exact hs2) (by rw [R.sy u3 hu34]; exact hs3) X1 S1.1 X2 S2.1
  have cc := pw_x (d := d) (by omega) R P hp han _ cw
  refine z_C_mono (zC_and d kx cc) (fun r μ1 qq => ?_)
  obtain ⟨⟨q1, qM⟩, q2, v1, W1, v2, W2, b1, f1, o1, b2, f2, o2, q3⟩ := qq
  have eM : EqM μ (z_ui μ1 50 0 0) := eqM_tr qM (t0_EqM μ1 0)
  have E : ∀ r k', gMc r k' → (z_ui μ1 50 0 0).1 r k' = μ.1 r k' := fun r k' g => (eM r k' g).1
  have hA1 : a_H (z_ui μ1 50 0 0) := a_H_ui q1.1.1 (bI_top _)
  refine go_in q1 km q2 (X := wA110 W2 t dl e u1 u2 u3 v1 v2 μ) (by rw [q3]; exact eqX_rf _) ?_
  have mm := gm_passW d (by omega) μ1 (by
    rw [(qM 50 44 (Or.inr ⟨rfl, by decide, by decide⟩)).1, P.pm]
    rcases P.p3 with q | q | q
    · exact absurd q hp
    · rw [q]; decide
    · rw [q]; decide) (anS μ1) (sy_m μ1) ((anS_e qM).trans han) _ (fun d hd => gm_allWin110 d (by omega) (z_ui μ1 50 0 0) hA1 t c u1 u2 u3 dl e ht4 ((E 50 45 (Or.inr ⟨rfl, by decide, by decide⟩)).trans P.tm) hu1 hu14 hu2 hu24 hu3 hu34 ((E 50 40 (Or.inr ⟨rfl, by decide, by decide⟩)).trans hdl) hdl4 he hc ((E 50 49 (Or.inr ⟨rfl, by decide, by decide⟩)).trans cm) (by rw [E 71 u1 (Or.inl ⟨by decide, by decide⟩)]; exact hs1) (by rw [E 71 u2 (Or.inl ⟨by decide, by decide⟩)]; exact hs2) (by rw [E 71 u3 (Or.inl ⟨by decide, by decide⟩)]; exact hs3) (fun b => M1 b ∧ ¬ b.1 = 0) (fun M hM hAM d hd => z_C_mono (zC_and d (S1.2.1 M (fun r k g => (hM r k g).trans (EqM_SVl eM r k g)) hAM d hd) (P.sb hp u1 hu14 (of_decide_eq_false hs1) M (fun r k g => (hM r k g).trans (EqM_SVl eM r k g)) hAM d hd)) (fun r W z => ⟨z.1.1, z.1.2.1, z.1.2.2.1, z.1.2.2.2, z.2⟩)) (fun b => M2 b ∧ ¬ b.1 = 0) (fun M hM hAM d hd => z_C_mono (zC_and d (S2.2.1 M (fun r k g => (hM r k g).trans (EqM_SVl eM r k g)) hAM d hd) (P.sb hp u2 hu24 (of_decide_eq_false hs2) M (fun r k g => (hM r k g).trans (EqM_SVl eM r k g)) hAM d hd)) (fun r W z => ⟨z.1.1, z.1.2.1, z.1.2.2.1, z.1.2.2.2, z.2⟩)))
  refine z_C_mono mm (fun r μ' z => ?_)
  obtain ⟨z1, N1, N2, g1, g2, z3⟩ := z
  refine ⟨z1, RG.cg (eqX_rf _) (sm_EqM z3) ?_⟩
  have P' := P.cg (eqX_rf _) eM
  have k1 := (S1.2.2 _ _ b1 g1.1).1
  have w1 := (S1.2.2 _ _ b1 g1.1).2 (by rw [k1.1]; exact g1.2)
  have k2 := (S2.2.2 _ _ b2 g2.1).1
  have w2 := (S2.2.2 _ _ b2 g2.1).2 (by rw [k2.1]; exact g2.2)
  exact rg_aw110 (R.cg (eqX_rf _) eM) P'.fo (P'.tx.trans P'.tm.symm) ((E 50 40 (Or.inr ⟨rfl, by decide, by decide⟩)).trans hdl) hdl4 he ht4 hu1 hu2 hu3 cx o1 f1 k1.1 k1.2.1 k1.2.2 (congrArg (fun q => q.2.2.1) w1) o2 f2 k2.1 k2.2.1 k2.2.2 (congrArg (fun q => q.2.2.1) w2)
theorem lg_pw111 {d : Nat} (hd : 705 ≤ d) {μ : zM} (hJ : LJ μ) (hR : RG μ μ) {p t c u1 u2 u3 dl e : Nat} (P : RPh μ μ p t c) (hp : p ≠ 1) (hc : c < 34) (hu1 : (t + 1) % 4 = u1) (hu2 : (t + 2) % 4 = u2) (hu3 : (t + 3) % 4 = u3) (hdl : μ.1 50 40 = nI dl) (hdl4 : dl < 4) (he : (dl + 1) % 4 = e) (han : anS μ = true) (hs1 : decide (μ.1 71 u1 = 0) = false) (hs2 : decide (μ.1 71 u2 = 0) = false) (hs3 : decide (μ.1 71 u3 = 0) = false) (kx : z_C d mi_X6_pass [.ref 0] μ (fun _ μ' => LJ μ' ∧ EqM μ μ')) (km : ∀ μ1, LJ μ1 → z_C d mi_X7_pass [.ref 50] μ1 (fun _ μ' => LJ μ' ∧ EqX μ1 μ')) : GO d mi_X6_pass mi_X7_pass [.ref 0] [.ref 50] μ := by
  have hA := hJ.1.1
  have R := hR.1
  have ht4 := P.t4
  have hp0 : ¬ μ.1 50 44 = 0 := by rw [P.pm]; rcases P.p3 with q | q | q <;> (rw [q]; decide)
  have G := hJ.1.2.2 hp0
  have cx : μ.1 0 15 = nI c := P.cx.trans (if_neg (by omega))
  have cm : μ.1 50 49 = nI c := P.cm.trans (if_neg (by omega))
  have h06 : μ.1 0 6 = nI 0 := R.wc.trans P.w0
  have hu14 : u1 < 4 := by omega
  have hu24 : u2 < 4 := by omega
  have hu34 : u3 < 4 := by omega
  obtain ⟨X1, M1, S1⟩ := sw_of (s := u1) R P hA G hp hu14 (by omega) hc
  obtain ⟨X2, M2, S2⟩ := sw_of (s := u2) R P hA G hp hu24 (by omega) hc
  obtain ⟨X3, M3, S3⟩ := sw_of (s := u3) R P hA G hp hu34 (by omega) hc
  have cw := fun (d : Nat) (hd : 11 ≤ d) => gc_winByTile111 d (by omega) μ t c u1 u2 u3 ht4 P.tx hu1 hu14 hu2 hu24 hu3 hu34 dl e (R.dl.trans hdl) hdl4 he h06 hA (by rw [R.sy u1 hu14]; exact hs1) (by rw [R.sy u2 hu24]; exact hs2) (by rw [R.sy u3 hu34]; exact hs3) X1 S1.1 X2 S2.1 X3 S3.1
  have cc := pw_x (d := d) (by omega) R P hp han _ cw
  refine z_C_mono (zC_and d kx cc) (fun r μ1 qq => ?_)
  obtain ⟨⟨q1, qM⟩, q2, v1, W1, v2, W2, v3, W3, b1, f1, o1, b2, f2, o2, b3, f3, o3, q3⟩ := qq
  have eM : EqM μ (z_ui μ1 50 0 0) := eqM_tr qM (t0_EqM μ1 0)
  have E : ∀ r k', gMc r k' → (z_ui μ1 50 0 0).1 r k' = μ.1 r k' := fun r k' g => (eM r k' g).1
  have hA1 : a_H (z_ui μ1 50 0 0) := a_H_ui q1.1.1 (bI_top _)
  refine go_in q1 km q2 (X := wA111 W3 t dl e u1 u2 u3 v1 v2 v3 μ) (by rw [q3]; exact eqX_rf _) ?_
  have mm := gm_passW d (by omega) μ1 (by
    rw [(qM 50 44 (Or.inr ⟨rfl, by decide, by decide⟩)).1, P.pm]
    rcases P.p3 with q | q | q
    · exact absurd q hp
    · rw [q]; decide
    · rw [q]; decide) (anS μ1) (sy_m μ1) ((anS_e qM).trans han) _ (fun d hd => gm_allWin111 d (by omega) (z_ui μ1 50 0 0) hA1 t c u1 u2 u3 dl e ht4 ((E 50 45 (Or.inr ⟨rfl, by decide, by decide⟩)).trans P.tm) hu1 hu14 hu2 hu24 hu3 hu34 ((E 50 40 (Or.inr ⟨rfl, by decide, by decide⟩)).trans hdl) hdl4 he hc ((E 50 49 (Or.inr ⟨rfl, by decide, by decide⟩)).trans cm) (by rw [E 71 u1 (Or.inl ⟨by decide, by decide⟩)]; exact hs1) (by rw [E 71 u2 (Or.inl ⟨by decide, by decide⟩)]; exact hs2) (by rw [E 71 u3 (Or.inl ⟨by decide, by decide⟩)]; exact hs3) (fun b => M1 b ∧ ¬ b.1 = 0) (fun M hM hAM d hd => z_C_mono (zC_and d (S1.2.1 M (fun r k g => (hM r k g).trans (EqM_SVl eM r k g)) hAM d hd) (P.sb hp u1 hu14 (of_decide_eq_false hs1) M (fun r k g => (hM r k g).trans (EqM_SVl eM r k g)) hAM d hd)) (fun r W z => ⟨z.1.1, z.1.2.1, z.1.2.2.1, z.1.2.2.2, z.2⟩)) (fun b => M2 b ∧ ¬ b.1 = 0) (fun M hM hAM d hd => z_C_mono (zC_and d (S2.2.1 M (fun r k g => (hM r k g).trans (EqM_SVl eM r k g)) hAM d hd) (P.sb hp u2 hu24 (of_decide_eq_false hs2) M (fun r k g => (hM r k g).trans (EqM_SVl eM r k g)) hAM d hd)) (fun r W z => ⟨z.1.1, z.1.2.1, z.1.2.2.1, z.1.2.2.2, z.2⟩)) (fun b => M3 b ∧ ¬ b.1 = 0) (fun M hM hAM d hd => z_C_mono (zC_and d (S3.2.1 M (fun r k g => (hM r k g).trans (EqM_SVl eM r k g)) hAM d hd) (P.sb hp u3 hu34 (of_decide_eq_false hs3) M (fun r k g => (hM r k g).trans (EqM_SVl eM r k g)) hAM d hd)) (fun r W z => ⟨z.1.1, z.1.2.1, z.1.2.2.1, z.1.2.2.2, z.2⟩)))
  refine z_C_mono mm (fun r μ' z => ?_)
  obtain ⟨z1, N1, N2, N3, g1, g2, g3, z3⟩ := z
  refine ⟨z1, RG.cg (eqX_rf _) (sm_EqM z3) ?_⟩
  have P' := P.cg (eqX_rf _) eM
  have k1 := (S1.2.2 _ _ b1 g1.1).1
  have w1 := (S1.2.2 _ _ b1 g1.1).2 (by rw [k1.1]; exact g1.2)
  have k2 := (S2.2.2 _ _ b2 g2.1).1
  have w2 := (S2.2.2 _ _ b2 g2.1).2 (by rw [k2.1]; exact g2.2)
  have k3 := (S3.2.2 _ _ b3 g3.1).1
  have w3 := (S3.2.2 _ _ b3 g3.1).2 (by rw [k3.1]; exact g3.2)
  exact rg_aw111 (R.cg (eqX_rf _) eM) P'.fo (P'.tx.trans P'.tm.symm) ((E 50 40 (Or.inr ⟨rfl, by decide, by decide⟩)).trans hdl) hdl4 he ht4 hu1 hu2 hu3 cx o1 f1 k1.1 k1.2.1 k1.2.2 (congrArg (fun q => q.2.2.1) w1) o2 f2 k2.1 k2.2.1 k2.2.2 (congrArg (fun q => q.2.2.1) w2) o3 f3 k3.1 k3.2.1 k3.2.2 (congrArg (fun q => q.2.2.1) w3)

/-! run answers alike -/
set_option maxRecDepth 8000
theorem lg_run0 {d : Nat} (hd : 705 ≤ d) {μ : zM} (hJ : LJ μ) (hR : RG μ μ) {s l t : Nat} (hs : s < 4) (hl : l + 2 ≤ 33) (hsr : srB (nI l) = true) (P : RPh μ μ 2 t l) (hsu : s = (t + 1) % 4) (hm : mMC μ s = true) (hsy : ∀ j, j < 4 → μ.1 71 j = 0) (kx : z_C d mi_X6_run [.ref 0, .int (nI s), .int (nI l)] μ (fun _ μ' => LJ μ' ∧ EqM μ μ')) (km : ∀ μ1, LJ μ1 → z_C d mi_X7_run [.ref 50, .int (nI s), .int (nI l)] μ1 (fun _ μ' => LJ μ' ∧ EqX μ1 μ')) : GO d mi_X6_run mi_X7_run [.ref 0, .int (nI s), .int (nI l)] [.ref 50, .int (nI s), .int (nI l)] μ := by
  have hA := hJ.1.1
  have hx1 := mC_x hs ((mc_eq hR hs).trans hm)
  have hm1 := mC_m hs hm
  have R := hR.1
  have hp0 : ¬ μ.1 50 44 = 0 := by rw [P.pm]; decide
  have hp1 : ¬ μ.1 50 44 = 1 := by rw [P.pm]; decide
  have G := hJ.1.2.2 hp0
  have ht4 := P.t4
  have hc : l < 34 := by omega
  obtain ⟨W, hW⟩ := ww_of R P hA G hc
  obtain ⟨w, aw, q, sL, lL, H⟩ := hf_of R P hA G hs
  have cx : μ.1 0 15 = nI l := P.cx.trans (if_neg (by omega))
  have cm : μ.1 50 49 = nI l := P.cm.trans (if_neg (by omega))
  have fsu : decide (nI s = nI ((t + 1) % 4)) = true := decide_eq_true (by rw [hsu])
  have hwa := H.1.1 (l + 1) (by omega)
  have hwb := H.1.1 (l + 2) (by omega)
  have xa : μ.1 (20 + 8 * s) (l + 1) = nI (w (l + 1)) := (R.hd s (l + 1) hs (by omega)).trans hwa.1
  have xb : μ.1 (20 + 8 * s) (l + 2) = nI (w (l + 2)) := (R.hd s (l + 2) hs (by omega)).trans hwb.1
  have hu4 : (t + 1) % 4 < 4 := by omega
  have z0 : ∀ v : Nat, v ≤ 4 → decide (nI v = 0) = decide (v = 0) := fun v hv => nI_dec (a := v) (b := 0) (by omega) (by decide)
  by_cases ha : w (l + 1) = 0
  · have fa : decide (nI (w (l + 1)) = 0) = true := (z0 _ hwa.2).trans (decide_eq_true ha)
    exact go_no hR kx km (gx_runA0 d (by omega) μ s l hs hl cx t _ ht4 P.tx rfl hu4 hx1 fsu (sr_x hsr) (by rw [xa]; exact fa)) (mr_runA0 d (by omega) μ s l hs hl cm t _ ht4 P.tm rfl hu4 hm1 fsu (sr_m hsr) (by rw [hwa.1]; exact fa))
  have fa : decide (nI (w (l + 1)) = 0) = false := (z0 _ hwa.2).trans (decide_eq_false ha)
  by_cases hb : w (l + 2) = 0
  · have fb : decide (nI (w (l + 2)) = 0) = true := (z0 _ hwb.2).trans (decide_eq_true hb)
    exact go_no hR kx km (gx_runB0 d (by omega) μ s l hs hl cx t _ ht4 P.tx rfl hu4 hx1 fsu (sr_x hsr) (by rw [xa]; exact fa) (by rw [xb]; exact fb)) (mr_runB0 d (by omega) μ s l hs hl cm t _ ht4 P.tm rfl hu4 hm1 fsu (sr_m hsr) (by rw [hwa.1]; exact fa) (by rw [hwb.1]; exact fb))
  have fb : decide (nI (w (l + 2)) = 0) = false := (z0 _ hwb.2).trans (decide_eq_false hb)
  have hq3 : q ≤ 3 := q3_of G hs hp1 H.1.2.1 H.1.2.2.1 (by
    have g2 := G.1.le2 hs (a := (l + 1)) (b := (l + 2)) (by omega) (by omega) (by omega)
    have g4 : hI μ (34 * s + (l + 1)) = w (l + 1) := by unfold hI; rw [hwa.1]; exact nI_toInt (by omega)
    have g5 : hI μ (34 * s + (l + 2)) = w (l + 2) := by unfold hI; rw [hwb.1]; exact nI_toInt (by omega)
    omega)
  have d1 : decide ((nI l) < (nI l)) = false := (nI_lt2 (by omega) (by omega)).trans (decide_eq_false (by omega))
  have d2 : decide ((nI l) ≤ (nI (l + 2))) = true := (nI_le2 (by omega) (by omega)).trans (decide_eq_true (by omega))
  have d3 : decide ((nI l) = (nI l)) = true := (nI_dec (by omega) (by omega)).trans (decide_eq_true (by omega))
  have d4 : decide ((nI (l + 1)) = (nI l)) = false := (nI_dec (by omega) (by omega)).trans (decide_eq_false (by omega))
  have d5 : decide ((nI (l + 2)) = (nI l)) = false := (nI_dec (by omega) (by omega)).trans (decide_eq_false (by omega))
  have cdK : ∀ (kk : Bool), kA (koF μ s (usL0 l) (bsL0 l)) 34 = kk → ∀ μ1, EqM μ μ1 → ∀ d, 2 ≤ d → z_C d mi_X7_canDiscard [.ref 50, .int (nI s)] (z_giv (z_giv (z_ui (z_ui (z_ui μ1 50 0 0) 50 50 (nI l)) 50 51 (abL0 l)) s (l + 1) (-1)) s (l + 2) (-1)) (zR (z_giv (z_giv (z_ui (z_ui (z_ui μ1 50 0 0) 50 50 (nI l)) 50 51 (abL0 l)) s (l + 1) (-1)) s (l + 2) (-1)) (.int (nB kk))) := fun kk hk μ1 qM d hd => by
    have z := gm_canDiscard d hd (z_giv (z_giv (z_ui (z_ui (z_ui μ1 50 0 0) 50 50 (nI l)) 50 51 (abL0 l)) s (l + 1) (-1)) s (l + 2) (-1)) s hs
    rw [← ko_run0 (x := μ) (R.cg (eqX_rf _) qM) hs hl hsr, hk] at z
    exact z
  have cc := fun (ko : Bool) (hko : ∀ d, 3 ≤ d → z_C d mi_X6_keepsOther [.ref (19 + 8 * s), .long ((7 <<< ((nI l).toInt64 &&& 63)) &&& (((1 : Int64) <<< ((nI l).toInt64 &&& 63)) ^^^ (-1))), .long (((1 : Int64) <<< ((nI l).toInt64 &&& 63)) ||| oeL0 l)] μ (zR μ (.int (nB ko)))) => gc_run d (by omega) μ s q l hs hq3 H.2.2.2.1 hl (by rw [show zl 0 = 2 from by decide]; omega) t l ((t + 1) % 4) ((t + 2) % 4) ((t + 3) % 4) _ _ _ ht4 P.tx hc cx rfl (Nat.mod_lt _ (by decide)) (hW ((t + 1) % 4) (Nat.mod_lt _ (by decide))).1 rfl (Nat.mod_lt _ (by decide)) (hW ((t + 2) % 4) (Nat.mod_lt _ (by decide))).1 rfl (Nat.mod_lt _ (by decide)) (hW ((t + 3) % 4) (Nat.mod_lt _ (by decide))).1 true hx1 true (sr_x hsr) (oeL0 l) (oe_x cx (oe_eq0 l (by omega))) ko hko
  rw [fsu, d1, d2, d3, d4, d5, xa, xb, fa, fb] at cc
  simp only [cond_true, cond_false] at cc
  have mm : ∀ (kk : Bool), kA (koF μ s (usL0 l) (bsL0 l)) 34 = kk → ∀ μ1, LJ μ1 → EqM μ μ1 → EqB μ (ruM0 μ1 s l) ∧ z_C d mi_X7_run [.ref 50, .int (nI s), .int (nI l)] μ1 (fun r μ' => (ruC0 μ1 s l ((t + 1) % 4) true true kk = true ∧ r = some (.int 1) ∧ SMj (ruO0 (ovF (ruM0 μ1 s l) t l W) s l q) μ') ∨ (ruC0 μ1 s l ((t + 1) % 4) true true kk = false ∧ r = some (.int 0) ∧ (μ' = z_ui μ1 50 0 0 ∨ μ' = ruM0 μ1 s l))) := fun kk hk μ1 h1 qM => by
    have E : ∀ r k', gMc r k' → μ1.1 r k' = μ.1 r k' := fun r k' g => (qM r k' g).1
    have eB : EqB μ (ruM0 μ1 s l) := eB_tr (eB_M qM) (eB_tr (eB_0 μ1 0) (eB_tr (eB_50 _ _ _) (eB_g4 (by omega) (by decide))))
    have hA' : a_H (ruM0 μ1 s l) := a_H_ui (a_H_ui (a_H_ui (a_H_ui (a_H_ui (a_H_ui (a_H_ui h1.1.1 (bI_top _)) (bI_top _)) (bI_top _)) (bI_top _)) (bI_top _)) (bI_top _)) (bI_top _)
    have P' := P.cgB eB (by decide)
    have ov := ov_go (hW.m (eB_SE eB)) hA' ht4 P'.tm (P'.cm.trans (if_neg (by omega)))
    exact ⟨eB, gm_run0 d (by omega) μ1 s q l t ((t + 1) % 4) hs (by omega) hl ht4 ((E 50 45 (Or.inr ⟨rfl, by decide, by decide⟩)).trans P.tm) rfl hu4 ((E 50 49 (Or.inr ⟨rfl, by decide, by decide⟩)).trans cm) true (mC_m hs ((mMC_e qM).trans hm)) true (sr_m hsr) kk (cdK kk hk μ1 qM) (ovF (ruM0 μ1 s l) t l W) ov ((ovF_o (by decide) (by decide) (Or.inr ⟨by decide, by decide⟩)).trans (P'.cm.trans (if_neg (by omega)))) (((ovF_o (by decide) (by decide) (Or.inl (by decide))).trans (eB 64 s (Or.inl ⟨by decide, by decide⟩) (by omega)).1).trans H.1.2.1)⟩
  cases hk : kA (koF μ s (usL0 l) (bsL0 l)) 34 with
  | true =>
    have c1 := cc true (fun d hd => by rw [← hk]; exact gc_keepsOther d (by omega) μ s hs _ _)
    simp only [cond_true, cond_false] at c1
    refine go_yes (X := z_uj (tkS μ s l q 0 t l ((t + 1) % 4) ((t + 2) % 4) ((t + 3) % 4) (bw (W ((t + 1) % 4)) l) (bw (W ((t + 2) % 4)) l) (bw (W ((t + 3) % 4)) l)) 0 18 (((1 : Int64) <<< ((nI l).toInt64 &&& 63)) ||| oeL0 l)) (y := 1) kx km (z_C_mono c1 (fun r μ' z => ⟨z.1, by rw [z.2]; exact eqX_rf _⟩)) (fun μ1 h1 qM => ?_)
    obtain ⟨eB, z⟩ := mm true hk μ1 h1 qM
    refine z_C_mono z (fun r μ' z => ?_)
    have E : ∀ r k', gMc r k' → μ1.1 r k' = μ.1 r k' := fun r k' g => (qM r k' g).1
    rcases z with ⟨-, z2, z3⟩ | ⟨z1, -, -⟩
    · refine ⟨z2, ?_⟩
      have e50 : (ruM0 μ1 s l).1 50 50 = nI l := by unfold ruM0; rw [giv_o (by decide), giv_o (by decide), giv_o (by decide), giv_o (by decide), ui_k (by decide), ui_s]
      have e51 : (ruM0 μ1 s l).1 50 51 = abL0 l := by unfold ruM0; rw [giv_o (by decide), giv_o (by decide), giv_o (by decide), giv_o (by decide), ui_s]; rfl
      revert eB z3 e50 e51
      generalize (ruM0 μ1 s l) = M
      intro eB z3 e50 e51
      have R' := R.cgB eB
      have P' := P.cgB eB (by decide)
      obtain ⟨RO, QO, fO⟩ := ov_rq (W := W) R' P' (Or.inl rfl) (fun j hj => (eB 71 j (Or.inl ⟨by decide, by decide⟩) (by omega)).1.trans (hsy j hj))
      rw [if_pos rfl] at QO
      have o64 : ∀ j, (ovF M t l W).1 64 j = μ.1 64 j := fun j => (ovF_o (by decide) (by decide) (Or.inl (by decide))).trans (eB 64 j (Or.inl ⟨by decide, by decide⟩) (by omega)).1
      have g := rg_run0 (bs := bsL0 l) RO QO fO hs (by omega) ((sr_iff _).mp hsr) hq3 ((o64 s).trans H.1.2.1) (fun j hj => by rw [o64]; exact m4_of hA j hj) (by rw [ovF_o (by decide) (by decide) (Or.inr ⟨by decide, by decide⟩), ovF_o (by decide) (by decide) (Or.inr ⟨by decide, by decide⟩), e50, e51]; exact bs_eq0 l (by omega) hsr) ⟨l, hc, (ovF_o (by decide) (by decide) (Or.inr ⟨by decide, by decide⟩)).trans e50, by rw [ovF_o (by decide) (by decide) (Or.inr ⟨by decide, by decide⟩), e51]; exact ab_k0 l (by omega) hsr⟩
      exact RG.cg (eqX_rf _) (sm_EqM z3) g
    · exfalso
      unfold ruC0 at z1
      rw [fsu, E 60 _ (Or.inl ⟨by decide, by decide⟩), hwa.1, fa, E 60 _ (Or.inl ⟨by decide, by decide⟩), hwb.1, fb] at z1
      cases z1
  | false =>
    have c1 := cc false (fun d hd => by rw [← hk]; exact gc_keepsOther d (by omega) μ s hs _ _)
    simp only [cond_true, cond_false] at c1
    refine go_yes (X := μ) (y := 0) kx km (z_C_mono c1 (fun r μ' z => ⟨z.1, by rw [z.2]; exact eqX_rf _⟩)) (fun μ1 h1 qM => ?_)
    obtain ⟨eB, z⟩ := mm false hk μ1 h1 qM
    refine z_C_mono z (fun r μ' z => ?_)
    rcases z with ⟨z1, -, -⟩ | ⟨-, z2, z3⟩
    · exfalso
      unfold ruC0 at z1
      rw [Bool.and_false] at z1
      cases z1
    · refine ⟨z2, ?_⟩
      rcases z3 with z3 | z3
      · rw [z3]; exact RG.cgB2 R P (eB_tr (eB_M qM) (eB_0 μ1 0))
      · rw [z3]; exact RG.cgB2 R P eB
theorem lg_run1 {d : Nat} (hd : 705 ≤ d) {μ : zM} (hJ : LJ μ) (hR : RG μ μ) {s l t : Nat} (hs : s < 4) (hl : l + 2 ≤ 33) (hsr : srB (nI l) = true) (P : RPh μ μ 2 t (l + 1)) (hsu : s = (t + 1) % 4) (hm : mMC μ s = true) (hsy : ∀ j, j < 4 → μ.1 71 j = 0) (kx : z_C d mi_X6_run [.ref 0, .int (nI s), .int (nI l)] μ (fun _ μ' => LJ μ' ∧ EqM μ μ')) (km : ∀ μ1, LJ μ1 → z_C d mi_X7_run [.ref 50, .int (nI s), .int (nI l)] μ1 (fun _ μ' => LJ μ' ∧ EqX μ1 μ')) : GO d mi_X6_run mi_X7_run [.ref 0, .int (nI s), .int (nI l)] [.ref 50, .int (nI s), .int (nI l)] μ := by
  have hA := hJ.1.1
  have hx1 := mC_x hs ((mc_eq hR hs).trans hm)
  have hm1 := mC_m hs hm
  have R := hR.1
  have hp0 : ¬ μ.1 50 44 = 0 := by rw [P.pm]; decide
  have hp1 : ¬ μ.1 50 44 = 1 := by rw [P.pm]; decide
  have G := hJ.1.2.2 hp0
  have ht4 := P.t4
  have hc : (l + 1) < 34 := by omega
  obtain ⟨W, hW⟩ := ww_of R P hA G hc
  obtain ⟨w, aw, q, sL, lL, H⟩ := hf_of R P hA G hs
  have cx : μ.1 0 15 = nI (l + 1) := P.cx.trans (if_neg (by omega))
  have cm : μ.1 50 49 = nI (l + 1) := P.cm.trans (if_neg (by omega))
  have fsu : decide (nI s = nI ((t + 1) % 4)) = true := decide_eq_true (by rw [hsu])
  have hwa := H.1.1 l (by omega)
  have hwb := H.1.1 (l + 2) (by omega)
  have xa : μ.1 (20 + 8 * s) l = nI (w l) := (R.hd s l hs (by omega)).trans hwa.1
  have xb : μ.1 (20 + 8 * s) (l + 2) = nI (w (l + 2)) := (R.hd s (l + 2) hs (by omega)).trans hwb.1
  have hu4 : (t + 1) % 4 < 4 := by omega
  have z0 : ∀ v : Nat, v ≤ 4 → decide (nI v = 0) = decide (v = 0) := fun v hv => nI_dec (a := v) (b := 0) (by omega) (by decide)
  by_cases ha : w l = 0
  · have fa : decide (nI (w l) = 0) = true := (z0 _ hwa.2).trans (decide_eq_true ha)
    exact go_no hR kx km (gx_runA1 d (by omega) μ s l hs hl cx t _ ht4 P.tx rfl hu4 hx1 fsu (sr_x hsr) (by rw [xa]; exact fa)) (mr_runA1 d (by omega) μ s l hs hl cm t _ ht4 P.tm rfl hu4 hm1 fsu (sr_m hsr) (by rw [hwa.1]; exact fa))
  have fa : decide (nI (w l) = 0) = false := (z0 _ hwa.2).trans (decide_eq_false ha)
  by_cases hb : w (l + 2) = 0
  · have fb : decide (nI (w (l + 2)) = 0) = true := (z0 _ hwb.2).trans (decide_eq_true hb)
    exact go_no hR kx km (gx_runB1 d (by omega) μ s l hs hl cx t _ ht4 P.tx rfl hu4 hx1 fsu (sr_x hsr) (by rw [xa]; exact fa) (by rw [xb]; exact fb)) (mr_runB1 d (by omega) μ s l hs hl cm t _ ht4 P.tm rfl hu4 hm1 fsu (sr_m hsr) (by rw [hwa.1]; exact fa) (by rw [hwb.1]; exact fb))
  have fb : decide (nI (w (l + 2)) = 0) = false := (z0 _ hwb.2).trans (decide_eq_false hb)
  have hq3 : q ≤ 3 := q3_of G hs hp1 H.1.2.1 H.1.2.2.1 (by
    have g2 := G.1.le2 hs (a := l) (b := (l + 2)) (by omega) (by omega) (by omega)
    have g4 : hI μ (34 * s + l) = w l := by unfold hI; rw [hwa.1]; exact nI_toInt (by omega)
    have g5 : hI μ (34 * s + (l + 2)) = w (l + 2) := by unfold hI; rw [hwb.1]; exact nI_toInt (by omega)
    omega)
  have d1 : decide ((nI (l + 1)) < (nI l)) = false := (nI_lt2 (by omega) (by omega)).trans (decide_eq_false (by omega))
  have d2 : decide ((nI (l + 1)) ≤ (nI (l + 2))) = true := (nI_le2 (by omega) (by omega)).trans (decide_eq_true (by omega))
  have d3 : decide ((nI l) = (nI (l + 1))) = false := (nI_dec (by omega) (by omega)).trans (decide_eq_false (by omega))
  have d4 : decide ((nI (l + 1)) = (nI (l + 1))) = true := (nI_dec (by omega) (by omega)).trans (decide_eq_true (by omega))
  have d5 : decide ((nI (l + 2)) = (nI (l + 1))) = false := (nI_dec (by omega) (by omega)).trans (decide_eq_false (by omega))
  have cdK : ∀ (kk : Bool), kA (koF μ s (usL1 l) (bsL1 l)) 34 = kk → ∀ μ1, EqM μ μ1 → ∀ d, 2 ≤ d → z_C d mi_X7_canDiscard [.ref 50, .int (nI s)] (z_giv (z_giv (z_ui (z_ui (z_ui μ1 50 0 0) 50 50 (nI (l + 1))) 50 51 (abL1 l)) s l (-1)) s (l + 2) (-1)) (zR (z_giv (z_giv (z_ui (z_ui (z_ui μ1 50 0 0) 50 50 (nI (l + 1))) 50 51 (abL1 l)) s l (-1)) s (l + 2) (-1)) (.int (nB kk))) := fun kk hk μ1 qM d hd => by
    have z := gm_canDiscard d hd (z_giv (z_giv (z_ui (z_ui (z_ui μ1 50 0 0) 50 50 (nI (l + 1))) 50 51 (abL1 l)) s l (-1)) s (l + 2) (-1)) s hs
    rw [← ko_run1 (x := μ) (R.cg (eqX_rf _) qM) hs hl hsr, hk] at z
    exact z
  have cc := fun (ko : Bool) (hko : ∀ d, 3 ≤ d → z_C d mi_X6_keepsOther [.ref (19 + 8 * s), .long ((7 <<< ((nI l).toInt64 &&& 63)) &&& (((1 : Int64) <<< ((nI (l + 1)).toInt64 &&& 63)) ^^^ (-1))), .long (((1 : Int64) <<< ((nI (l + 1)).toInt64 &&& 63)) ||| oeL1 l)] μ (zR μ (.int (nB ko)))) => gc_run d (by omega) μ s q l hs hq3 H.2.2.2.1 hl (by rw [show zl 0 = 2 from by decide]; omega) t (l + 1) ((t + 1) % 4) ((t + 2) % 4) ((t + 3) % 4) _ _ _ ht4 P.tx hc cx rfl (Nat.mod_lt _ (by decide)) (hW ((t + 1) % 4) (Nat.mod_lt _ (by decide))).1 rfl (Nat.mod_lt _ (by decide)) (hW ((t + 2) % 4) (Nat.mod_lt _ (by decide))).1 rfl (Nat.mod_lt _ (by decide)) (hW ((t + 3) % 4) (Nat.mod_lt _ (by decide))).1 true hx1 true (sr_x hsr) (oeL1 l) (oe_x cx (oe_eq1 l (by omega))) ko hko
  rw [fsu, d1, d2, d3, d4, d5, xa, xb, fa, fb] at cc
  simp only [cond_true, cond_false] at cc
  have mm : ∀ (kk : Bool), kA (koF μ s (usL1 l) (bsL1 l)) 34 = kk → ∀ μ1, LJ μ1 → EqM μ μ1 → EqB μ (ruM1 μ1 s l) ∧ z_C d mi_X7_run [.ref 50, .int (nI s), .int (nI l)] μ1 (fun r μ' => (ruC1 μ1 s l ((t + 1) % 4) true true kk = true ∧ r = some (.int 1) ∧ SMj (ruO1 (ovF (ruM1 μ1 s l) t (l + 1) W) s l q) μ') ∨ (ruC1 μ1 s l ((t + 1) % 4) true true kk = false ∧ r = some (.int 0) ∧ (μ' = z_ui μ1 50 0 0 ∨ μ' = ruM1 μ1 s l))) := fun kk hk μ1 h1 qM => by
    have E : ∀ r k', gMc r k' → μ1.1 r k' = μ.1 r k' := fun r k' g => (qM r k' g).1
    have eB : EqB μ (ruM1 μ1 s l) := eB_tr (eB_M qM) (eB_tr (eB_0 μ1 0) (eB_tr (eB_50 _ _ _) (eB_g4 (by omega) (by decide))))
    have hA' : a_H (ruM1 μ1 s l) := a_H_ui (a_H_ui (a_H_ui (a_H_ui (a_H_ui (a_H_ui (a_H_ui h1.1.1 (bI_top _)) (bI_top _)) (bI_top _)) (bI_top _)) (bI_top _)) (bI_top _)) (bI_top _)
    have P' := P.cgB eB (by decide)
    have ov := ov_go (hW.m (eB_SE eB)) hA' ht4 P'.tm (P'.cm.trans (if_neg (by omega)))
    exact ⟨eB, gm_run1 d (by omega) μ1 s q l t ((t + 1) % 4) hs (by omega) hl ht4 ((E 50 45 (Or.inr ⟨rfl, by decide, by decide⟩)).trans P.tm) rfl hu4 ((E 50 49 (Or.inr ⟨rfl, by decide, by decide⟩)).trans cm) true (mC_m hs ((mMC_e qM).trans hm)) true (sr_m hsr) kk (cdK kk hk μ1 qM) (ovF (ruM1 μ1 s l) t (l + 1) W) ov ((ovF_o (by decide) (by decide) (Or.inr ⟨by decide, by decide⟩)).trans (P'.cm.trans (if_neg (by omega)))) (((ovF_o (by decide) (by decide) (Or.inl (by decide))).trans (eB 64 s (Or.inl ⟨by decide, by decide⟩) (by omega)).1).trans H.1.2.1)⟩
  cases hk : kA (koF μ s (usL1 l) (bsL1 l)) 34 with
  | true =>
    have c1 := cc true (fun d hd => by rw [← hk]; exact gc_keepsOther d (by omega) μ s hs _ _)
    simp only [cond_true, cond_false] at c1
    refine go_yes (X := z_uj (tkS μ s l q 0 t (l + 1) ((t + 1) % 4) ((t + 2) % 4) ((t + 3) % 4) (bw (W ((t + 1) % 4)) (l + 1)) (bw (W ((t + 2) % 4)) (l + 1)) (bw (W ((t + 3) % 4)) (l + 1))) 0 18 (((1 : Int64) <<< ((nI (l + 1)).toInt64 &&& 63)) ||| oeL1 l)) (y := 1) kx km (z_C_mono c1 (fun r μ' z => ⟨z.1, by rw [z.2]; exact eqX_rf _⟩)) (fun μ1 h1 qM => ?_)
    obtain ⟨eB, z⟩ := mm true hk μ1 h1 qM
    refine z_C_mono z (fun r μ' z => ?_)
    have E : ∀ r k', gMc r k' → μ1.1 r k' = μ.1 r k' := fun r k' g => (qM r k' g).1
    rcases z with ⟨-, z2, z3⟩ | ⟨z1, -, -⟩
    · refine ⟨z2, ?_⟩
      have e50 : (ruM1 μ1 s l).1 50 50 = nI (l + 1) := by unfold ruM1; rw [giv_o (by decide), giv_o (by decide), giv_o (by decide), giv_o (by decide), ui_k (by decide), ui_s]
      have e51 : (ruM1 μ1 s l).1 50 51 = abL1 l := by unfold ruM1; rw [giv_o (by decide), giv_o (by decide), giv_o (by decide), giv_o (by decide), ui_s]; rfl
      revert eB z3 e50 e51
      generalize (ruM1 μ1 s l) = M
      intro eB z3 e50 e51
      have R' := R.cgB eB
      have P' := P.cgB eB (by decide)
      obtain ⟨RO, QO, fO⟩ := ov_rq (W := W) R' P' (Or.inl rfl) (fun j hj => (eB 71 j (Or.inl ⟨by decide, by decide⟩) (by omega)).1.trans (hsy j hj))
      rw [if_pos rfl] at QO
      have o64 : ∀ j, (ovF M t (l + 1) W).1 64 j = μ.1 64 j := fun j => (ovF_o (by decide) (by decide) (Or.inl (by decide))).trans (eB 64 j (Or.inl ⟨by decide, by decide⟩) (by omega)).1
      have g := rg_run1 (bs := bsL1 l) RO QO fO hs (by omega) ((sr_iff _).mp hsr) hq3 ((o64 s).trans H.1.2.1) (fun j hj => by rw [o64]; exact m4_of hA j hj) (by rw [ovF_o (by decide) (by decide) (Or.inr ⟨by decide, by decide⟩), ovF_o (by decide) (by decide) (Or.inr ⟨by decide, by decide⟩), e50, e51]; exact bs_eq1 l (by omega) hsr) ⟨(l + 1), hc, (ovF_o (by decide) (by decide) (Or.inr ⟨by decide, by decide⟩)).trans e50, by rw [ovF_o (by decide) (by decide) (Or.inr ⟨by decide, by decide⟩), e51]; exact ab_k1 l (by omega) hsr⟩
      exact RG.cg (eqX_rf _) (sm_EqM z3) g
    · exfalso
      unfold ruC1 at z1
      rw [fsu, E 60 _ (Or.inl ⟨by decide, by decide⟩), hwa.1, fa, E 60 _ (Or.inl ⟨by decide, by decide⟩), hwb.1, fb] at z1
      cases z1
  | false =>
    have c1 := cc false (fun d hd => by rw [← hk]; exact gc_keepsOther d (by omega) μ s hs _ _)
    simp only [cond_true, cond_false] at c1
    refine go_yes (X := μ) (y := 0) kx km (z_C_mono c1 (fun r μ' z => ⟨z.1, by rw [z.2]; exact eqX_rf _⟩)) (fun μ1 h1 qM => ?_)
    obtain ⟨eB, z⟩ := mm false hk μ1 h1 qM
    refine z_C_mono z (fun r μ' z => ?_)
    rcases z with ⟨z1, -, -⟩ | ⟨-, z2, z3⟩
    · exfalso
      unfold ruC1 at z1
      rw [Bool.and_false] at z1
      cases z1
    · refine ⟨z2, ?_⟩
      rcases z3 with z3 | z3
      · rw [z3]; exact RG.cgB2 R P (eB_tr (eB_M qM) (eB_0 μ1 0))
      · rw [z3]; exact RG.cgB2 R P eB
theorem lg_run2 {d : Nat} (hd : 705 ≤ d) {μ : zM} (hJ : LJ μ) (hR : RG μ μ) {s l t : Nat} (hs : s < 4) (hl : l + 2 ≤ 33) (hsr : srB (nI l) = true) (P : RPh μ μ 2 t (l + 2)) (hsu : s = (t + 1) % 4) (hm : mMC μ s = true) (hsy : ∀ j, j < 4 → μ.1 71 j = 0) (kx : z_C d mi_X6_run [.ref 0, .int (nI s), .int (nI l)] μ (fun _ μ' => LJ μ' ∧ EqM μ μ')) (km : ∀ μ1, LJ μ1 → z_C d mi_X7_run [.ref 50, .int (nI s), .int (nI l)] μ1 (fun _ μ' => LJ μ' ∧ EqX μ1 μ')) : GO d mi_X6_run mi_X7_run [.ref 0, .int (nI s), .int (nI l)] [.ref 50, .int (nI s), .int (nI l)] μ := by
  have hA := hJ.1.1
  have hx1 := mC_x hs ((mc_eq hR hs).trans hm)
  have hm1 := mC_m hs hm
  have R := hR.1
  have hp0 : ¬ μ.1 50 44 = 0 := by rw [P.pm]; decide
  have hp1 : ¬ μ.1 50 44 = 1 := by rw [P.pm]; decide
  have G := hJ.1.2.2 hp0
  have ht4 := P.t4
  have hc : (l + 2) < 34 := by omega
  obtain ⟨W, hW⟩ := ww_of R P hA G hc
  obtain ⟨w, aw, q, sL, lL, H⟩ := hf_of R P hA G hs
  have cx : μ.1 0 15 = nI (l + 2) := P.cx.trans (if_neg (by omega))
  have cm : μ.1 50 49 = nI (l + 2) := P.cm.trans (if_neg (by omega))
  have fsu : decide (nI s = nI ((t + 1) % 4)) = true := decide_eq_true (by rw [hsu])
  have hwa := H.1.1 l (by omega)
  have hwb := H.1.1 (l + 1) (by omega)
  have xa : μ.1 (20 + 8 * s) l = nI (w l) := (R.hd s l hs (by omega)).trans hwa.1
  have xb : μ.1 (20 + 8 * s) (l + 1) = nI (w (l + 1)) := (R.hd s (l + 1) hs (by omega)).trans hwb.1
  have hu4 : (t + 1) % 4 < 4 := by omega
  have z0 : ∀ v : Nat, v ≤ 4 → decide (nI v = 0) = decide (v = 0) := fun v hv => nI_dec (a := v) (b := 0) (by omega) (by decide)
  by_cases ha : w l = 0
  · have fa : decide (nI (w l) = 0) = true := (z0 _ hwa.2).trans (decide_eq_true ha)
    exact go_no hR kx km (gx_runA2 d (by omega) μ s l hs hl cx t _ ht4 P.tx rfl hu4 hx1 fsu (sr_x hsr) (by rw [xa]; exact fa)) (mr_runA2 d (by omega) μ s l hs hl cm t _ ht4 P.tm rfl hu4 hm1 fsu (sr_m hsr) (by rw [hwa.1]; exact fa))
  have fa : decide (nI (w l) = 0) = false := (z0 _ hwa.2).trans (decide_eq_false ha)
  by_cases hb : w (l + 1) = 0
  · have fb : decide (nI (w (l + 1)) = 0) = true := (z0 _ hwb.2).trans (decide_eq_true hb)
    exact go_no hR kx km (gx_runB2 d (by omega) μ s l hs hl cx t _ ht4 P.tx rfl hu4 hx1 fsu (sr_x hsr) (by rw [xa]; exact fa) (by rw [xb]; exact fb)) (mr_runB2 d (by omega) μ s l hs hl cm t _ ht4 P.tm rfl hu4 hm1 fsu (sr_m hsr) (by rw [hwa.1]; exact fa) (by rw [hwb.1]; exact fb))
  have fb : decide (nI (w (l + 1)) = 0) = false := (z0 _ hwb.2).trans (decide_eq_false hb)
  have hq3 : q ≤ 3 := q3_of G hs hp1 H.1.2.1 H.1.2.2.1 (by
    have g2 := G.1.le2 hs (a := l) (b := (l + 1)) (by omega) (by omega) (by omega)
    have g4 : hI μ (34 * s + l) = w l := by unfold hI; rw [hwa.1]; exact nI_toInt (by omega)
    have g5 : hI μ (34 * s + (l + 1)) = w (l + 1) := by unfold hI; rw [hwb.1]; exact nI_toInt (by omega)
    omega)
  have d1 : decide ((nI (l + 2)) < (nI l)) = false := (nI_lt2 (by omega) (by omega)).trans (decide_eq_false (by omega))
  have d2 : decide ((nI (l + 2)) ≤ (nI (l + 2))) = true := (nI_le2 (by omega) (by omega)).trans (decide_eq_true (by omega))
  have d3 : decide ((nI l) = (nI (l + 2))) = false := (nI_dec (by omega) (by omega)).trans (decide_eq_false (by omega))
  have d4 : decide ((nI (l + 1)) = (nI (l + 2))) = false := (nI_dec (by omega) (by omega)).trans (decide_eq_false (by omega))
  have d5 : decide ((nI (l + 2)) = (nI (l + 2))) = true := (nI_dec (by omega) (by omega)).trans (decide_eq_true (by omega))
  have cdK : ∀ (kk : Bool), kA (koF μ s (usL2 l) (bsL2 l)) 34 = kk → ∀ μ1, EqM μ μ1 → ∀ d, 2 ≤ d → z_C d mi_X7_canDiscard [.ref 50, .int (nI s)] (z_giv (z_giv (z_ui (z_ui (z_ui μ1 50 0 0) 50 50 (nI (l + 2))) 50 51 (abL2 l)) s l (-1)) s (l + 1) (-1)) (zR (z_giv (z_giv (z_ui (z_ui (z_ui μ1 50 0 0) 50 50 (nI (l + 2))) 50 51 (abL2 l)) s l (-1)) s (l + 1) (-1)) (.int (nB kk))) := fun kk hk μ1 qM d hd => by
    have z := gm_canDiscard d hd (z_giv (z_giv (z_ui (z_ui (z_ui μ1 50 0 0) 50 50 (nI (l + 2))) 50 51 (abL2 l)) s l (-1)) s (l + 1) (-1)) s hs
    rw [← ko_run2 (x := μ) (R.cg (eqX_rf _) qM) hs hl hsr, hk] at z
    exact z
  have cc := fun (ko : Bool) (hko : ∀ d, 3 ≤ d → z_C d mi_X6_keepsOther [.ref (19 + 8 * s), .long ((7 <<< ((nI l).toInt64 &&& 63)) &&& (((1 : Int64) <<< ((nI (l + 2)).toInt64 &&& 63)) ^^^ (-1))), .long (((1 : Int64) <<< ((nI (l + 2)).toInt64 &&& 63)) ||| oeL2 l)] μ (zR μ (.int (nB ko)))) => gc_run d (by omega) μ s q l hs hq3 H.2.2.2.1 hl (by rw [show zl 0 = 2 from by decide]; omega) t (l + 2) ((t + 1) % 4) ((t + 2) % 4) ((t + 3) % 4) _ _ _ ht4 P.tx hc cx rfl (Nat.mod_lt _ (by decide)) (hW ((t + 1) % 4) (Nat.mod_lt _ (by decide))).1 rfl (Nat.mod_lt _ (by decide)) (hW ((t + 2) % 4) (Nat.mod_lt _ (by decide))).1 rfl (Nat.mod_lt _ (by decide)) (hW ((t + 3) % 4) (Nat.mod_lt _ (by decide))).1 true hx1 true (sr_x hsr) (oeL2 l) (oe_x cx (oe_eq2 l (by omega))) ko hko
  rw [fsu, d1, d2, d3, d4, d5, xa, xb, fa, fb] at cc
  simp only [cond_true, cond_false] at cc
  have mm : ∀ (kk : Bool), kA (koF μ s (usL2 l) (bsL2 l)) 34 = kk → ∀ μ1, LJ μ1 → EqM μ μ1 → EqB μ (ruM2 μ1 s l) ∧ z_C d mi_X7_run [.ref 50, .int (nI s), .int (nI l)] μ1 (fun r μ' => (ruC2 μ1 s l ((t + 1) % 4) true true kk = true ∧ r = some (.int 1) ∧ SMj (ruO2 (ovF (ruM2 μ1 s l) t (l + 2) W) s l q) μ') ∨ (ruC2 μ1 s l ((t + 1) % 4) true true kk = false ∧ r = some (.int 0) ∧ (μ' = z_ui μ1 50 0 0 ∨ μ' = ruM2 μ1 s l))) := fun kk hk μ1 h1 qM => by
    have E : ∀ r k', gMc r k' → μ1.1 r k' = μ.1 r k' := fun r k' g => (qM r k' g).1
    have eB : EqB μ (ruM2 μ1 s l) := eB_tr (eB_M qM) (eB_tr (eB_0 μ1 0) (eB_tr (eB_50 _ _ _) (eB_g4 (by omega) (by decide))))
    have hA' : a_H (ruM2 μ1 s l) := a_H_ui (a_H_ui (a_H_ui (a_H_ui (a_H_ui (a_H_ui (a_H_ui h1.1.1 (bI_top _)) (bI_top _)) (bI_top _)) (bI_top _)) (bI_top _)) (bI_top _)) (bI_top _)
    have P' := P.cgB eB (by decide)
    have ov := ov_go (hW.m (eB_SE eB)) hA' ht4 P'.tm (P'.cm.trans (if_neg (by omega)))
    exact ⟨eB, gm_run2 d (by omega) μ1 s q l t ((t + 1) % 4) hs (by omega) hl ht4 ((E 50 45 (Or.inr ⟨rfl, by decide, by decide⟩)).trans P.tm) rfl hu4 ((E 50 49 (Or.inr ⟨rfl, by decide, by decide⟩)).trans cm) true (mC_m hs ((mMC_e qM).trans hm)) true (sr_m hsr) kk (cdK kk hk μ1 qM) (ovF (ruM2 μ1 s l) t (l + 2) W) ov ((ovF_o (by decide) (by decide) (Or.inr ⟨by decide, by decide⟩)).trans (P'.cm.trans (if_neg (by omega)))) (((ovF_o (by decide) (by decide) (Or.inl (by decide))).trans (eB 64 s (Or.inl ⟨by decide, by decide⟩) (by omega)).1).trans H.1.2.1)⟩
  cases hk : kA (koF μ s (usL2 l) (bsL2 l)) 34 with
  | true =>
    have c1 := cc true (fun d hd => by rw [← hk]; exact gc_keepsOther d (by omega) μ s hs _ _)
    simp only [cond_true, cond_false] at c1
    refine go_yes (X := z_uj (tkS μ s l q 0 t (l + 2) ((t + 1) % 4) ((t + 2) % 4) ((t + 3) % 4) (bw (W ((t + 1) % 4)) (l + 2)) (bw (W ((t + 2) % 4)) (l + 2)) (bw (W ((t + 3) % 4)) (l + 2))) 0 18 (((1 : Int64) <<< ((nI (l + 2)).toInt64 &&& 63)) ||| oeL2 l)) (y := 1) kx km (z_C_mono c1 (fun r μ' z => ⟨z.1, by rw [z.2]; exact eqX_rf _⟩)) (fun μ1 h1 qM => ?_)
    obtain ⟨eB, z⟩ := mm true hk μ1 h1 qM
    refine z_C_mono z (fun r μ' z => ?_)
    have E : ∀ r k', gMc r k' → μ1.1 r k' = μ.1 r k' := fun r k' g => (qM r k' g).1
    rcases z with ⟨-, z2, z3⟩ | ⟨z1, -, -⟩
    · refine ⟨z2, ?_⟩
      have e50 : (ruM2 μ1 s l).1 50 50 = nI (l + 2) := by unfold ruM2; rw [giv_o (by decide), giv_o (by decide), giv_o (by decide), giv_o (by decide), ui_k (by decide), ui_s]
      have e51 : (ruM2 μ1 s l).1 50 51 = abL2 l := by unfold ruM2; rw [giv_o (by decide), giv_o (by decide), giv_o (by decide), giv_o (by decide), ui_s]; rfl
      revert eB z3 e50 e51
      generalize (ruM2 μ1 s l) = M
      intro eB z3 e50 e51
      have R' := R.cgB eB
      have P' := P.cgB eB (by decide)
      obtain ⟨RO, QO, fO⟩ := ov_rq (W := W) R' P' (Or.inl rfl) (fun j hj => (eB 71 j (Or.inl ⟨by decide, by decide⟩) (by omega)).1.trans (hsy j hj))
      rw [if_pos rfl] at QO
      have o64 : ∀ j, (ovF M t (l + 2) W).1 64 j = μ.1 64 j := fun j => (ovF_o (by decide) (by decide) (Or.inl (by decide))).trans (eB 64 j (Or.inl ⟨by decide, by decide⟩) (by omega)).1
      have g := rg_run2 (bs := bsL2 l) RO QO fO hs (by omega) ((sr_iff _).mp hsr) hq3 ((o64 s).trans H.1.2.1) (fun j hj => by rw [o64]; exact m4_of hA j hj) (by rw [ovF_o (by decide) (by decide) (Or.inr ⟨by decide, by decide⟩), ovF_o (by decide) (by decide) (Or.inr ⟨by decide, by decide⟩), e50, e51]; exact bs_eq2 l (by omega) hsr) ⟨(l + 2), hc, (ovF_o (by decide) (by decide) (Or.inr ⟨by decide, by decide⟩)).trans e50, by rw [ovF_o (by decide) (by decide) (Or.inr ⟨by decide, by decide⟩), e51]; exact ab_k2 l (by omega) hsr⟩
      exact RG.cg (eqX_rf _) (sm_EqM z3) g
    · exfalso
      unfold ruC2 at z1
      rw [fsu, E 60 _ (Or.inl ⟨by decide, by decide⟩), hwa.1, fa, E 60 _ (Or.inl ⟨by decide, by decide⟩), hwb.1, fb] at z1
      cases z1
  | false =>
    have c1 := cc false (fun d hd => by rw [← hk]; exact gc_keepsOther d (by omega) μ s hs _ _)
    simp only [cond_true, cond_false] at c1
    refine go_yes (X := μ) (y := 0) kx km (z_C_mono c1 (fun r μ' z => ⟨z.1, by rw [z.2]; exact eqX_rf _⟩)) (fun μ1 h1 qM => ?_)
    obtain ⟨eB, z⟩ := mm false hk μ1 h1 qM
    refine z_C_mono z (fun r μ' z => ?_)
    rcases z with ⟨z1, -, -⟩ | ⟨-, z2, z3⟩
    · exfalso
      unfold ruC2 at z1
      rw [Bool.and_false] at z1
      cases z1
    · refine ⟨z2, ?_⟩
      rcases z3 with z3 | z3
      · rw [z3]; exact RG.cgB2 R P (eB_tr (eB_M qM) (eB_0 μ1 0))
      · rw [z3]; exact RG.cgB2 R P eB
theorem lg_run {d : Nat} (hd : 705 ≤ d) {μ : zM} (h : LGm μ) (y x : Int32) : GO d mi_X6_run mi_X7_run [.ref 0, .int y, .int x] [.ref 50, .int y, .int x] μ := by
  obtain ⟨hJ, hR⟩ := h
  have kx : z_C d mi_X6_run [.ref 0, .int y, .int x] μ (fun _ μ' => LJ μ' ∧ EqM μ μ') := lg_k (i := 61) (K := ak_61) rfl (by omega) (by decide) (by decide) rfl (by decide) [.ref 0, .int y, .int x] μ hJ ⟨⟨0, by decide, rfl⟩, ⟨_, rfl, bI_top _⟩, ⟨_, rfl, bI_top _⟩, trivial⟩
  have km : ∀ μ1, LJ μ1 → z_C d mi_X7_run [.ref 50, .int y, .int x] μ1 (fun _ μ' => LJ μ' ∧ EqX μ1 μ') := fun μ1 h1 => lg_g h1 (fc_X7_run d (by omega) μ1 y x h1.1)
  have hA := hJ.1.1
  by_cases hy : vp_in y 4
  · obtain ⟨s, hs, rfl⟩ := vp_in_of hy (by decide)
    have eq := mc_eq hR hs
    cases hm : mMC μ s with
    | false => exact go_no hR kx km (gx_run d (by omega) μ _ _ (mC_x hs (eq.trans hm))) (mr_run d (by omega) μ _ _ (mC_m hs hm))
    | true =>
      have hx1 := mC_x hs (eq.trans hm)
      have hm1 := mC_m hs hm
      obtain ⟨t, c, P, hc, hsy, -⟩ := mc_in hR hm
      have ht4 := P.t4
      have hu4 : (t + 1) % 4 < 4 := by omega
      have cx : μ.1 0 15 = nI c := P.cx.trans (if_neg (by omega))
      have cm : μ.1 50 49 = nI c := P.cm.trans (if_neg (by omega))
      by_cases hsu : s = (t + 1) % 4
      · have fsu : decide (nI s = nI ((t + 1) % 4)) = true := decide_eq_true (by rw [hsu])
        cases hsr : srB x with
        | false => exact go_no hR kx km (gx_runR d (by omega) μ s hs x t _ ht4 P.tx rfl hu4 hx1 fsu (sr_x hsr)) (mr_runR d (by omega) μ s hs x t _ ht4 P.tm rfl hu4 hm1 fsu (sr_m hsr))
        | true =>
          obtain ⟨l, hl, rfl⟩ := sr_nat x hsr
          by_cases h1 : c < l
          · have f1 : decide (nI c < nI l) = true := (nI_lt2 (by omega) (by omega)).trans (decide_eq_true h1)
            exact go_no hR kx km (gx_runL d (by omega) μ s l c hs (by omega) cx t _ ht4 P.tx rfl hu4 hx1 fsu (sr_x hsr) f1) (mr_runL d (by omega) μ s l c hs (by omega) cm t _ ht4 P.tm rfl hu4 hm1 fsu (sr_m hsr) f1)
          · have f1 : decide (nI c < nI l) = false := (nI_lt2 (by omega) (by omega)).trans (decide_eq_false h1)
            by_cases h2 : c ≤ l + 2
            · obtain e | e | e : c = l ∨ c = l + 1 ∨ c = l + 2 := by omega
              · subst e; exact lg_run0 hd hJ hR hs (by omega) hsr P hsu hm hsy kx km
              · subst e; exact lg_run1 hd hJ hR hs (by omega) hsr P hsu hm hsy kx km
              · subst e; exact lg_run2 hd hJ hR hs (by omega) hsr P hsu hm hsy kx km
            · have f2 : decide (nI c ≤ nI (l + 2)) = false := (nI_le2 (by omega) (by omega)).trans (decide_eq_false h2)
              exact go_no hR kx km (gx_runG d (by omega) μ s l c hs (by omega) cx t _ ht4 P.tx rfl hu4 hx1 fsu (sr_x hsr) f1 f2) (mr_runG d (by omega) μ s l c hs (by omega) cm t _ ht4 P.tm rfl hu4 hm1 fsu (sr_m hsr) f1 f2)
      · have fsu : decide (nI s = nI ((t + 1) % 4)) = false := decide_eq_false (fun e => hsu ((nI_eq (by omega) (by omega)).mp e))
        exact go_no hR kx km (gx_runS d (by omega) μ s hs x t _ ht4 P.tx rfl hu4 hx1 fsu) (mr_runS d (by omega) μ s hs x t _ ht4 P.tm rfl hu4 hm1 fsu)
  · exact go_no hR kx km (gx_run d (by omega) μ y x (fun d hd => z_C_mono (gx_mayClaim d (by omega) μ y (isS_x hy)) (fun r m z => ⟨z.2, z.1⟩))) (mr_run d (by omega) μ y x (fun d hd => z_C_mono (mr_mayClaim d (by omega) _ y (isS_no hy)) (fun r m z => ⟨z.2, z.1⟩)))

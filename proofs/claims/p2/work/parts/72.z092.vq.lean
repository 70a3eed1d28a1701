/-! three answers alike -/
set_option maxRecDepth 8000
theorem nI_le2 {a b : Nat} (ha : a < 1000) (hb : b < 1000) : decide (nI a ≤ nI b) = decide (a ≤ b) := by
  by_cases e : a ≤ b
  · rw [decide_eq_true e]; exact decide_eq_true (by rw [Int32.le_iff_toInt_le, nI_toInt (by omega), nI_toInt (by omega)]; omega)
  · rw [decide_eq_false e]; exact decide_eq_false (by rw [Int32.le_iff_toInt_le, nI_toInt (by omega), nI_toInt (by omega)]; omega)
theorem nI_lt2 {a b : Nat} (ha : a < 1000) (hb : b < 1000) : decide (nI a < nI b) = decide (a < b) := by
  by_cases e : a < b
  · rw [decide_eq_true e]; exact decide_eq_true (by rw [Int32.lt_iff_toInt_lt, nI_toInt (by omega), nI_toInt (by omega)]; omega)
  · rw [decide_eq_false e]; exact decide_eq_false (by rw [Int32.lt_iff_toInt_lt, nI_toInt (by omega), nI_toInt (by omega)]; omega)
theorem or_z (a : Int64) : a ||| 0 = a := by
  apply Int64.toBitVec_inj.mp
  rw [Int64.toBitVec_or]
  exact BitVec.or_zero
theorem m4_of {μ : zM} (hA : a_H μ) : ∀ j, j < 4 → (μ.1 64 j).toNatClampNeg ≤ 4 := fun j hj => by
  obtain ⟨a, b1, b2⟩ := i_nat (v := μ.1 64 j) (n := 4) (hA 64 j).1 (hA 64 j).2 (by decide)
  rw [b2, nI_clamp (by omega)]; exact b1
theorem isS_x {μ : zM} {y : Int32} (h : ¬ vp_in y 4) : ∀ d, 1 ≤ d → z_C d mi_X6_isSeat [.int y] μ (zR μ (.int 0)) := fun d hd => by
  have z := gc_isSeat d hd μ y
  rw [show (!(decide (y < 0)) && (!(decide (4 ≤ y)))) = false from sI_no h] at z
  exact z
theorem lg_three {d : Nat} (hd : 705 ≤ d) {μ : zM} (h : LGm μ) (x : Int32) : GO d mi_X6_three mi_X7_three [.ref 0, .int x] [.ref 50, .int x] μ := by
  obtain ⟨hJ, hR⟩ := h
  have kx : z_C d mi_X6_three [.ref 0, .int x] μ (fun _ μ' => LJ μ' ∧ EqM μ μ') := lg_k (i := 62) (K := ak_62) rfl (by omega) (by decide) (by decide) rfl (by decide) [.ref 0, .int x] μ hJ ⟨⟨0, by decide, rfl⟩, ⟨_, rfl, bI_top _⟩, trivial⟩
  have km : ∀ μ1, LJ μ1 → z_C d mi_X7_three [.ref 50, .int x] μ1 (fun _ μ' => LJ μ' ∧ EqX μ1 μ') := fun μ1 h1 => lg_g h1 (fc_X7_three d (by omega) μ1 x h1.1)
  have hA := hJ.1.1
  by_cases hx : vp_in x 4
  · obtain ⟨s, hs, rfl⟩ := vp_in_of hx (by decide)
    have eq := mc_eq hR hs
    cases hm : mMC μ s with
    | false => exact go_no hR kx km (gx_three d (by omega) μ _ (mC_x hs (eq.trans hm))) (mr_three d (by omega) μ _ (mC_m hs hm))
    | true =>
      have hx1 := mC_x hs (eq.trans hm)
      have hm1 := mC_m hs hm
      obtain ⟨t, c, P, hc, hsy, -⟩ := mc_in hR hm
      have R := hR.1
      have hp0 : ¬ μ.1 50 44 = 0 := by rw [P.pm]; decide
      have hp1 : ¬ μ.1 50 44 = 1 := by rw [P.pm]; decide
      have G := hJ.1.2.2 hp0
      have ht4 := P.t4
      obtain ⟨W, hW⟩ := ww_of R P hA G hc
      obtain ⟨w, aw, q, sL, lL, H⟩ := hf_of R P hA G hs
      have cx : μ.1 0 15 = nI c := P.cx.trans (if_neg (by omega))
      have cm : μ.1 50 49 = nI c := P.cm.trans (if_neg (by omega))
      have hwc := H.1.1 c hc
      have fx : fr μ (20 + 8 * s) (nI c) = nI (w c) := by rw [fr_yes hc, R.hd s c hs hc]; exact hwc.1
      by_cases h2 : 2 ≤ w c
      · have f2 : decide (2 ≤ fr μ (20 + 8 * s) (nI c)) = true := by rw [fx]; exact (nI_le2 (a := 2) (by decide) (by omega)).trans (decide_eq_true h2)
        have hq3 : q ≤ 3 := q3_of G hs hp1 H.1.2.1 H.1.2.2.1 (by
          have g2 := G.1.le hs hc
          have g4 : hI μ (34 * s + c) = w c := by unfold hI; rw [hwc.1]; exact nI_toInt (by omega)
          unfold hs9
          omega)
        cases hk : kA (koF μ s 0 ((1 : Int64) <<< ((nI c).toInt64 &&& 63))) 34 with
        | true =>
          have hko : ∀ d, 3 ≤ d → z_C d mi_X6_keepsOther [.ref (19 + 8 * s), .long 0, .long (1 <<< ((nI c).toInt64 &&& 63))] μ (zR μ (.int (nB true))) := fun d hd => by rw [← hk]; exact gc_keepsOther d (by omega) μ s hs _ _
          refine go_yes (X := z_uj (tkS μ s c q 1 t c ((t + 1) % 4) ((t + 2) % 4) ((t + 3) % 4) (bw (W ((t + 1) % 4)) c) (bw (W ((t + 2) % 4)) c) (bw (W ((t + 3) % 4)) c)) 0 18 (1 <<< ((nI c).toInt64 &&& 63))) (y := 1) kx km (z_C_mono (gc_three d (by omega) μ s q hs hq3 H.2.2.2.1 t c ((t + 1) % 4) ((t + 2) % 4) ((t + 3) % 4) _ _ _ ht4 P.tx hc cx rfl (Nat.mod_lt _ (by decide)) (hW ((t + 1) % 4) (Nat.mod_lt _ (by decide))).1 rfl (Nat.mod_lt _ (by decide)) (hW ((t + 2) % 4) (Nat.mod_lt _ (by decide))).1 rfl (Nat.mod_lt _ (by decide)) (hW ((t + 3) % 4) (Nat.mod_lt _ (by decide))).1 (by rw [show zl 1 = 0 from by decide]; omega) true hx1 true hko) (fun r μ' z => ?_)) (fun μ1 h1 qM => ?_)
          · rw [f2] at z
            simp only [cond_true, cond_false] at z
            exact ⟨z.1, by rw [z.2]; exact eqX_rf _⟩
          · have E : ∀ r k', gMc r k' → μ1.1 r k' = μ.1 r k' := fun r k' g => (qM r k' g).1
            have eB : EqB μ (z_giv (z_giv (z_ui (z_ui (z_ui μ1 50 0 0) 50 50 (nI c)) 50 51 (-1)) s c (-2)) s c 2) := eB_tr (eB_M qM) (eB_tr (eB_0 μ1 0) (eB_tr (eB_50 _ _ _) (eB_g (by decide))))
            have hA' : a_H (z_giv (z_giv (z_ui (z_ui (z_ui μ1 50 0 0) 50 50 (nI c)) 50 51 (-1)) s c (-2)) s c 2) := a_H_ui (a_H_ui (a_H_ui (a_H_ui (a_H_ui h1.1.1 (bI_top _)) (bI_top _)) (bI_top _)) (bI_top _)) (bI_top _)
            have e50 : (z_giv (z_giv (z_ui (z_ui (z_ui μ1 50 0 0) 50 50 (nI c)) 50 51 (-1)) s c (-2)) s c 2).1 50 50 = nI c := by rw [giv_o (by decide), giv_o (by decide), ui_k (by decide), ui_s]
            have e51 : (z_giv (z_giv (z_ui (z_ui (z_ui μ1 50 0 0) 50 50 (nI c)) 50 51 (-1)) s c (-2)) s c 2).1 50 51 = -1 := by rw [giv_o (by decide), giv_o (by decide), ui_s]
            have hcd : ∀ d, 2 ≤ d → z_C d mi_X7_canDiscard [.ref 50, .int (nI s)] (z_giv (z_ui (z_ui (z_ui μ1 50 0 0) 50 50 (nI c)) 50 51 (-1)) s c (-2)) (zR (z_giv (z_ui (z_ui (z_ui μ1 50 0 0) 50 50 (nI c)) 50 51 (-1)) s c (-2)) (.int (nB true))) := fun d hd => by
              have z := gm_canDiscard d hd (z_giv (z_ui (z_ui (z_ui μ1 50 0 0) 50 50 (nI c)) 50 51 (-1)) s c (-2)) s hs
              rw [← ko_three (x := μ) (R.cg (eqX_rf _) qM) hs hc, hk] at z
              exact z
            revert eB hA' e50 e51
            generalize hM : z_giv (z_giv (z_ui (z_ui (z_ui μ1 50 0 0) 50 50 (nI c)) 50 51 (-1)) s c (-2)) s c 2 = M
            intro eB hA' e50 e51
            have R' := R.cgB eB
            have P' := P.cgB eB (by decide)
            have ov := ov_go (hW.m (eB_SE eB)) hA' ht4 P'.tm (P'.cm.trans (if_neg (by omega)))
            obtain ⟨RO, QO, fO⟩ := ov_rq (W := W) R' P' (Or.inl rfl) (fun j hj => (eB 71 j (Or.inl ⟨by decide, by decide⟩) (by omega)).1.trans (hsy j hj))
            rw [if_pos rfl] at QO
            have o64 : ∀ j, (ovF M t c W).1 64 j = μ.1 64 j := fun j => (ovF_o (by decide) (by decide) (Or.inl (by decide))).trans (eB 64 j (Or.inl ⟨by decide, by decide⟩) (by omega)).1
            have o49 : (ovF M t c W).1 50 49 = nI c := (ovF_o (by decide) (by decide) (Or.inr ⟨by decide, by decide⟩)).trans (P'.cm.trans (if_neg (by omega)))
            refine z_C_mono (gm_three d (by omega) μ1 s c q hs hc ((E 50 49 (Or.inr ⟨rfl, by decide, by decide⟩)).trans cm) (by omega) true (mC_m hs ((mMC_e qM).trans hm)) true hcd (ovF M t c W) (fun d hd => by rw [hM]; exact z_C_mono (ov d hd) (fun r V z => ⟨z.1, z.2.1⟩)) o49 ((o64 s).trans H.1.2.1)) (fun r μ' z => ?_)
            rcases z with ⟨-, z2, z3⟩ | ⟨z1, -, -⟩
            · refine ⟨z2, ?_⟩
              have g := rg_three (bs := (1 : Int64) <<< ((nI c).toInt64 &&& 63)) RO QO fO hs hc hq3 ((o64 s).trans H.1.2.1) (fun j hj => by rw [o64]; exact m4_of hA j hj) (by rw [ovF_o (by decide) (by decide) (Or.inr ⟨by decide, by decide⟩), ovF_o (by decide) (by decide) (Or.inr ⟨by decide, by decide⟩), e50, e51, show decide ((-1 : Int32) = -1) = true from by decide, cond_true, or_z]) ⟨c, hc, (ovF_o (by decide) (by decide) (Or.inr ⟨by decide, by decide⟩)).trans e50, Or.inl ((ovF_o (by decide) (by decide) (Or.inr ⟨by decide, by decide⟩)).trans e51)⟩
              exact RG.cg (eqX_rf _) (sm_EqM z3) g
            · exfalso
              have y : decide (2 ≤ μ1.1 60 (34 * s + c)) = true := by rw [E 60 _ (Or.inl ⟨by decide, by decide⟩), hwc.1]; exact (nI_le2 (a := 2) (by decide) (by omega)).trans (decide_eq_true h2)
              unfold thC at z1
              rw [y] at z1
              cases z1
        | false =>
          have hko : ∀ d, 3 ≤ d → z_C d mi_X6_keepsOther [.ref (19 + 8 * s), .long 0, .long (1 <<< ((nI c).toInt64 &&& 63))] μ (zR μ (.int (nB false))) := fun d hd => by rw [← hk]; exact gc_keepsOther d (by omega) μ s hs _ _
          refine go_yes (X := μ) (y := 0) kx km (z_C_mono (gc_three d (by omega) μ s q hs hq3 H.2.2.2.1 t c ((t + 1) % 4) ((t + 2) % 4) ((t + 3) % 4) _ _ _ ht4 P.tx hc cx rfl (Nat.mod_lt _ (by decide)) (hW ((t + 1) % 4) (Nat.mod_lt _ (by decide))).1 rfl (Nat.mod_lt _ (by decide)) (hW ((t + 2) % 4) (Nat.mod_lt _ (by decide))).1 rfl (Nat.mod_lt _ (by decide)) (hW ((t + 3) % 4) (Nat.mod_lt _ (by decide))).1 (by rw [show zl 1 = 0 from by decide]; omega) true hx1 false hko) (fun r μ' z => ?_)) (fun μ1 h1 qM => ?_)
          · rw [f2] at z
            simp only [cond_true, cond_false] at z
            exact ⟨z.1, by rw [z.2]; exact eqX_rf _⟩
          · have E : ∀ r k', gMc r k' → μ1.1 r k' = μ.1 r k' := fun r k' g => (qM r k' g).1
            have eB : EqB μ (z_giv (z_giv (z_ui (z_ui (z_ui μ1 50 0 0) 50 50 (nI c)) 50 51 (-1)) s c (-2)) s c 2) := eB_tr (eB_M qM) (eB_tr (eB_0 μ1 0) (eB_tr (eB_50 _ _ _) (eB_g (by decide))))
            have hA' : a_H (z_giv (z_giv (z_ui (z_ui (z_ui μ1 50 0 0) 50 50 (nI c)) 50 51 (-1)) s c (-2)) s c 2) := a_H_ui (a_H_ui (a_H_ui (a_H_ui (a_H_ui h1.1.1 (bI_top _)) (bI_top _)) (bI_top _)) (bI_top _)) (bI_top _)
            have hcd : ∀ d, 2 ≤ d → z_C d mi_X7_canDiscard [.ref 50, .int (nI s)] (z_giv (z_ui (z_ui (z_ui μ1 50 0 0) 50 50 (nI c)) 50 51 (-1)) s c (-2)) (zR (z_giv (z_ui (z_ui (z_ui μ1 50 0 0) 50 50 (nI c)) 50 51 (-1)) s c (-2)) (.int (nB false))) := fun d hd => by
              have z := gm_canDiscard d hd (z_giv (z_ui (z_ui (z_ui μ1 50 0 0) 50 50 (nI c)) 50 51 (-1)) s c (-2)) s hs
              rw [← ko_three (x := μ) (R.cg (eqX_rf _) qM) hs hc, hk] at z
              exact z
            revert eB hA'
            generalize hM : z_giv (z_giv (z_ui (z_ui (z_ui μ1 50 0 0) 50 50 (nI c)) 50 51 (-1)) s c (-2)) s c 2 = M
            intro eB hA'
            have R' := R.cgB eB
            have P' := P.cgB eB (by decide)
            have ov := ov_go (hW.m (eB_SE eB)) hA' ht4 P'.tm (P'.cm.trans (if_neg (by omega)))
            have o64 : ∀ j, (ovF M t c W).1 64 j = μ.1 64 j := fun j => (ovF_o (by decide) (by decide) (Or.inl (by decide))).trans (eB 64 j (Or.inl ⟨by decide, by decide⟩) (by omega)).1
            have o49 : (ovF M t c W).1 50 49 = nI c := (ovF_o (by decide) (by decide) (Or.inr ⟨by decide, by decide⟩)).trans (P'.cm.trans (if_neg (by omega)))
            have z := gm_three d (by omega) μ1 s c q hs hc ((E 50 49 (Or.inr ⟨rfl, by decide, by decide⟩)).trans cm) (by omega) true (mC_m hs ((mMC_e qM).trans hm)) false hcd (ovF M t c W) (fun d hd => by rw [hM]; exact z_C_mono (ov d hd) (fun r V z => ⟨z.1, z.2.1⟩)) o49 ((o64 s).trans H.1.2.1)
            rw [hM] at z
            refine z_C_mono z (fun r μ' z => ?_)
            rcases z with ⟨z1, -, -⟩ | ⟨-, z2, z3⟩
            · exfalso
              unfold thC at z1
              rw [Bool.and_false] at z1
              cases z1
            · refine ⟨z2, ?_⟩
              rcases z3 with z3 | z3
              · rw [z3]; exact RG.cgB2 R P (eB_tr (eB_M qM) (eB_0 μ1 0))
              · rw [z3]; exact RG.cgB2 R P eB
      · have f2 : decide (2 ≤ nI (w c)) = false := (nI_le2 (a := 2) (by decide) (by omega)).trans (decide_eq_false h2)
        exact go_no hR kx km (gx_threeF d (by omega) μ s c hs cx hx1 (by rw [fx]; exact f2)) (mr_threeH d (by omega) μ s c hs hc cm hm1 (by rw [hwc.1]; exact f2))
  · exact go_no hR kx km (gx_three d (by omega) μ x (fun d hd => z_C_mono (gx_mayClaim d (by omega) μ x (isS_x hx)) (fun r m z => ⟨z.2, z.1⟩))) (mr_three d (by omega) μ x (fun d hd => z_C_mono (mr_mayClaim d (by omega) _ x (isS_no hx)) (fun r m z => ⟨z.2, z.1⟩)))

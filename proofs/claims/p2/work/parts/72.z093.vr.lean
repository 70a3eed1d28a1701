/-! four answers alike -/
set_option maxRecDepth 8000
theorem lg_four {d : Nat} (hd : 705 ≤ d) {μ : zM} (h : LGm μ) (x : Int32) : GO d mi_X6_four mi_X7_four [.ref 0, .int x] [.ref 50, .int x] μ := by
  obtain ⟨hJ, hR⟩ := h
  have kx : z_C d mi_X6_four [.ref 0, .int x] μ (fun _ μ' => LJ μ' ∧ EqM μ μ') := lg_k (i := 63) (K := ak_63) rfl (by omega) (by decide) (by decide) rfl (by decide) [.ref 0, .int x] μ hJ ⟨⟨0, by decide, rfl⟩, ⟨_, rfl, bI_top _⟩, trivial⟩
  have km : ∀ μ1, LJ μ1 → z_C d mi_X7_four [.ref 50, .int x] μ1 (fun _ μ' => LJ μ' ∧ EqX μ1 μ') := fun μ1 h1 => lg_g h1 (fc_X7_four d (by omega) μ1 x h1.1)
  have hA := hJ.1.1
  by_cases hx : vp_in x 4
  · obtain ⟨s, hs, rfl⟩ := vp_in_of hx (by decide)
    have eq := mc_eq hR hs
    cases hm : mMC μ s with
    | false => exact go_no hR kx km (gx_four d (by omega) μ _ (mC_x hs (eq.trans hm))) (mr_four d (by omega) μ _ (mC_m hs hm))
    | true =>
      have hx1 := mC_x hs (eq.trans hm)
      have hm1 := mC_m hs hm
      obtain ⟨t, c, P, hc, hsy, -⟩ := mc_in hR hm
      have R := hR.1
      have hp0 : ¬ μ.1 50 44 = 0 := by rw [P.pm]; decide
      have hp1 : ¬ μ.1 50 44 = 1 := by rw [P.pm]; decide
      have G := hJ.1.2.2 hp0
      have ht4 := P.t4
      obtain ⟨W, hW⟩ := ww_of R P hA G hc
      obtain ⟨w, aw, q, sL, lL, H⟩ := hf_of R P hA G hs
      have cx : μ.1 0 15 = nI c := P.cx.trans (if_neg (by omega))
      have cm : μ.1 50 49 = nI c := P.cm.trans (if_neg (by omega))
      have hwc := H.1.1 c hc
      have fx : fr μ (20 + 8 * s) (nI c) = nI (w c) := by rw [fr_yes hc, R.hd s c hs hc]; exact hwc.1
      by_cases h2 : w c < 3
      · have f2 : decide (nI (w c) < 3) = true := (nI_lt2 (b := 3) (by omega) (by decide)).trans (decide_eq_true h2)
        exact go_no hR kx km (gx_fourF d (by omega) μ s c hs cx hx1 (by rw [fx]; exact f2)) (mr_fourH d (by omega) μ s c hs hc cm hm1 (by rw [hwc.1]; exact f2))
      · have f2 : decide (nI (w c) < 3) = false := (nI_lt2 (b := 3) (by omega) (by decide)).trans (decide_eq_false h2)
        have hq3 : q ≤ 3 := q3_of G hs hp1 H.1.2.1 H.1.2.2.1 (by
          have g2 := G.1.le hs hc
          have g4 : hI μ (34 * s + c) = w c := by unfold hI; rw [hwc.1]; exact nI_toInt (by omega)
          unfold hs9
          omega)
        obtain ⟨n, hn1, hn2⟩ := i_nat (v := μ.1 50 47) (n := 4) (hA 50 47).1 (hA 50 47).2 (by decide)
        obtain ⟨k2, hk2a, hk2b⟩ := i_nat (v := μ.1 59 (122 + n)) (n := 33) (hA 59 _).1 (hA 59 _).2 (by decide)
        have hk2 : k2 < 34 := by omega
        have e48 : μ.1 50 48 = nI n := G.2.2.1.trans hn2
        have cc := gc_four d (by omega) μ s q hs hq3 H.2.2.2.1 n k2 (by omega) (P.fo.trans hn2) (R.sd.trans P.is) hk2 ((R.wl _ (by omega)).trans hk2b) t c ((t + 1) % 4) ((t + 2) % 4) ((t + 3) % 4) _ _ _ ht4 P.tx hc cx rfl (Nat.mod_lt _ (by decide)) (hW ((t + 1) % 4) (Nat.mod_lt _ (by decide))).1 rfl (Nat.mod_lt _ (by decide)) (hW ((t + 2) % 4) (Nat.mod_lt _ (by decide))).1 rfl (Nat.mod_lt _ (by decide)) (hW ((t + 3) % 4) (Nat.mod_lt _ (by decide))).1 (by rw [show zl 2 = 0 from by decide]; omega) true hx1
        rw [fx, f2, P.fo, hn2] at cc
        have mm : ∀ μ1, LJ μ1 → EqM μ μ1 → z_C d mi_X7_four [.ref 50, .int (nI s)] μ1 (fun r μ' => (foC μ1 s c true = true ∧ r = some (.int 1) ∧ SMj (dM1 (z_ui (toM (z_lys (z_giv (ovF (z_ui μ1 50 0 0) t c W) s c (-3)) s q 2 (nI c))) 50 47 ((ovF (z_ui μ1 50 0 0) t c W).1 50 47 + 1)) s n k2) μ') ∨ (foC μ1 s c true = false ∧ r = some (.int 0) ∧ μ' = z_ui μ1 50 0 0)) := fun μ1 h1 qM => by
          have E : ∀ r k', gMc r k' → μ1.1 r k' = μ.1 r k' := fun r k' g => (qM r k' g).1
          have eB : EqM μ (z_ui μ1 50 0 0) := eqM_tr qM (t0_EqM μ1 0)
          have P' := P.cg (eqX_rf _) eB
          have o : ∀ r k, gMc r k → r ≠ 70 → r ≠ 61 → (r ≠ 50 ∨ (k ≠ 43 ∧ k ≠ 59)) → (ovF (z_ui μ1 50 0 0) t c W).1 r k = μ.1 r k := fun r k g z1 z2 z3 => (ovF_o z1 z2 z3).trans (eB r k g).1
          have ov := ov_go (hW.m (eB_SE (eB_M eB))) (a_H_ui h1.1.1 (bI_top _)) ht4 P'.tm (P'.cm.trans (if_neg (by omega)))
          exact gm_four d (by omega) μ1 s c q n k2 hs hc ((E 50 49 (Or.inr ⟨rfl, by decide, by decide⟩)).trans cm) (by omega) true (mC_m hs ((mMC_e qM).trans hm)) (ovF (z_ui μ1 50 0 0) t c W) (fun d hd => z_C_mono (ov d hd) (fun r V z => ⟨z.1, z.2.1⟩)) ((o 50 49 (Or.inr ⟨rfl, by decide, by decide⟩) (by decide) (by decide) (Or.inr ⟨by decide, by decide⟩)).trans cm) ((o 64 s (Or.inl ⟨by decide, by decide⟩) (by decide) (by decide) (Or.inl (by decide))).trans H.1.2.1) (by omega) ((o 50 48 (Or.inr ⟨rfl, by decide, by decide⟩) (by decide) (by decide) (Or.inr ⟨by decide, by decide⟩)).trans e48) hk2 ((o 59 _ (Or.inl ⟨by decide, by decide⟩) (by decide) (by decide) (Or.inl (by decide))).trans hk2b)
        by_cases hn4 : n < 4
        · have f4 : decide (nI n < 4) = true := (nI_lt2 (b := 4) (by omega) (by decide)).trans (decide_eq_true hn4)
          rw [f4] at cc
          simp only [cond_true, cond_false] at cc
          refine go_yes (X := dT1 (bkH (tkS μ s c q 2 t c ((t + 1) % 4) ((t + 2) % 4) ((t + 3) % 4) (bw (W ((t + 1) % 4)) c) (bw (W ((t + 2) % 4)) c) (bw (W ((t + 3) % 4)) c))) s n k2) (y := 1) kx km (z_C_mono cc (fun r μ' z => ⟨z.1, by rw [z.2]; exact eqX_rf _⟩)) (fun μ1 h1 qM => z_C_mono (mm μ1 h1 qM) (fun r μ' z => ?_))
          have E : ∀ r k', gMc r k' → μ1.1 r k' = μ.1 r k' := fun r k' g => (qM r k' g).1
          have eB : EqM μ (z_ui μ1 50 0 0) := eqM_tr qM (t0_EqM μ1 0)
          rcases z with ⟨-, z2, z3⟩ | ⟨z1, -, -⟩
          · refine ⟨z2, ?_⟩
            revert eB z3
            generalize z_ui μ1 50 0 0 = M
            intro eB z3
            have R' := R.cg (eqX_rf _) eB
            have P' := P.cg (eqX_rf _) eB
            have o : ∀ r k, gMc r k → r ≠ 70 → r ≠ 61 → (r ≠ 50 ∨ (k ≠ 43 ∧ k ≠ 59)) → (ovF M t c W).1 r k = μ.1 r k := fun r k g z1 z2 z3 => (ovF_o z1 z2 z3).trans (eB r k g).1
            obtain ⟨RO, QO, fO⟩ := ov_rq (W := W) R' P' (Or.inl rfl) (fun j hj => (eB 71 j (Or.inl ⟨by decide, by decide⟩)).1.trans (hsy j hj))
            rw [if_pos rfl] at QO
            have g := rg_four (n := n) (k2 := k2) RO QO hs hc hq3 ((o 64 s (Or.inl ⟨by decide, by decide⟩) (by decide) (by decide) (Or.inl (by decide))).trans H.1.2.1) (fun j hj => by rw [o 64 j (Or.inl ⟨by decide, by decide⟩) (by decide) (by decide) (Or.inl (by decide))]; exact m4_of hA j hj) hn4 ((o 50 47 (Or.inr ⟨rfl, by decide, by decide⟩) (by decide) (by decide) (Or.inr ⟨by decide, by decide⟩)).trans hn2) ((o 50 48 (Or.inr ⟨rfl, by decide, by decide⟩) (by decide) (by decide) (Or.inr ⟨by decide, by decide⟩)).trans e48) hk2 ((o 59 _ (Or.inl ⟨by decide, by decide⟩) (by decide) (by decide) (Or.inl (by decide))).trans hk2b) (by rw [o 50 46 (Or.inr ⟨rfl, by decide, by decide⟩) (by decide) (by decide) (Or.inr ⟨by decide, by decide⟩)]; exact hA 50 46) (by
              rw [giv_60, o 60 _ (Or.inl ⟨by decide, by decide⟩) (by decide) (by decide) (Or.inl (by decide)), (H.1.1 k2 hk2).1]
              by_cases e : 34 * s + k2 = 34 * s + c
              · have e : k2 = c := by omega
                rw [if_pos (by omega), e]
                obtain e4 | e4 : w c = 3 ∨ w c = 4 := by omega
                · rw [e4]; decide
                · rw [e4]; decide
              · rw [if_neg e]; exact of_decide_eq_false (kn_m1 (by have := (H.1.1 k2 hk2).2; omega)))
            exact RG.cg (eqX_rf _) (sm_EqM z3) g
          · exfalso
            unfold foC at z1
            rw [E 60 _ (Or.inl ⟨by decide, by decide⟩), hwc.1, f2, E 50 47 (Or.inr ⟨rfl, by decide, by decide⟩), hn2, show decide (nI n = 4) = false from decide_eq_false (fun e => by have := (nI_eq (a := n) (b := 4) (by omega) (by decide)).mp e; omega)] at z1
            cases z1
        · have f4 : decide (nI n < 4) = false := (nI_lt2 (b := 4) (by omega) (by decide)).trans (decide_eq_false hn4)
          rw [f4] at cc
          simp only [cond_true, cond_false] at cc
          refine go_no hR kx km cc (z_C_mono (mm μ hJ (eqM_rf _)) (fun r μ' z => ?_))
          rcases z with ⟨z1, -, -⟩ | ⟨-, z2, z3⟩
          · exfalso
            obtain rfl : n = 4 := by omega
            unfold foC at z1
            rw [hn2, show decide (nI 4 = 4) = true from by decide, Bool.not_true, Bool.and_false] at z1
            cases z1
          · exact ⟨z2, z3⟩
  · exact go_no hR kx km (gx_four d (by omega) μ x (fun d hd => z_C_mono (gx_mayClaim d (by omega) μ x (isS_x hx)) (fun r m z => ⟨z.2, z.1⟩))) (mr_four d (by omega) μ x (fun d hd => z_C_mono (mr_mayClaim d (by omega) _ x (isS_no hx)) (fun r m z => ⟨z.2, z.1⟩)))

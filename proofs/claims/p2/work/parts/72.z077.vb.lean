/-! hide answers alike: the call -/
set_option maxRecDepth 8000
theorem xk_mm {μ : zM} {t : Nat} (ht4 : t < 4) (ht : μ.1 0 8 = nI t) {b : Bool} (h : xMM μ t = b) : ∀ d, 3 ≤ d → z_C d mi_X6_mayMakeFour [.ref 0] μ (zR μ (.int (nB b))) := fun d hd => by
  rw [← h]; exact gc_mayMakeFour d hd μ t ht4 ht
theorem mk_mm {μ : zM} {t : Nat} (ht4 : t < 4) (ht : μ.1 50 45 = nI t) {b : Bool} (h : mMM μ t = b) : ∀ d, 2 ≤ d → z_C d mi_X7_mayMake [.ref 50] (z_ui μ 50 0 0) (zR (z_ui μ 50 0 0) (.int (nB b))) := fun d hd => by
  rw [← h, ← mMM_0 (m := μ) (v := 0)]
  exact gm_mayMake d hd (z_ui μ 50 0 0) t ht4 (by rw [ui_k (by decide)]; exact ht)
theorem isK_no {μ : zM} {x : Int32} (h : ¬ vp_in x 34) : ∀ d, 1 ≤ d → z_C d mi_X7_isKind [.int x] μ (zR μ (.int 0)) := fun d hd => z_C_mono (fc_X7_isKind d hd μ x) (fun r m z => ⟨z.1, by
  rcases z.2 with ⟨_, y⟩ | ⟨y, _⟩
  · exact absurd y h
  · exact y⟩)
theorem fr_no {μ : zM} {r : Nat} {x : Int32} (h : ¬ vp_in x 34) : fr μ r x = 0 := by
  unfold fr
  cases e : z_in x 34
  · rfl
  · exact absurd (z_in_iff.mp e) h
theorem fr_yes {μ : zM} {r k : Nat} (h : k < 34) : fr μ r (nI k) = μ.1 r k := by
  unfold fr
  rw [z_in_iff.mpr (vp_in_nI h (by decide)), cond_true, nI_clamp (by omega)]
theorem lg_hide {d : Nat} (hd : 705 ≤ d) {μ : zM} (h : LGm μ) (x : Int32) : z_C d mi_X6_hide [.ref 0, .int x] μ (fun r μ1 => LJ μ1 ∧ ∃ y, r = some (.int y) ∧ z_C d mi_X7_hide [.ref 50, .int x] μ1 (fun r2 μ2 => LGm μ2 ∧ r2 = some (.int y))) := by
  obtain ⟨hJ, hR⟩ := h
  have kx : z_C d mi_X6_hide [.ref 0, .int x] μ (fun _ μ' => LJ μ' ∧ EqM μ μ') := lg_k (i := 64) (K := ak_64) rfl (by omega) (by decide) (by decide) rfl (by decide) [.ref 0, .int x] μ hJ ⟨⟨0, by decide, rfl⟩, ⟨_, rfl, bI_top _⟩, trivial⟩
  have km : ∀ μ1, LJ μ1 → z_C d mi_X7_hide [.ref 50, .int x] μ1 (fun _ μ' => LJ μ' ∧ EqX μ1 μ') := fun μ1 h1 => lg_g h1 (fc_X7_hide d (by omega) μ1 x h1.1)
  have no : z_C d mi_X6_hide [.ref 0, .int x] μ (fun r μ' => r = some (.int 0) ∧ μ' = μ) → z_C d mi_X7_hide [.ref 50, .int x] μ (fun r μ' => r = some (.int 0) ∧ μ' = z_ui μ 50 0 0) → z_C d mi_X6_hide [.ref 0, .int x] μ (fun r μ1 => LJ μ1 ∧ ∃ y, r = some (.int y) ∧ z_C d mi_X7_hide [.ref 50, .int x] μ1 (fun r2 μ2 => LGm μ2 ∧ r2 = some (.int y))) := fun c1 c2 => z_C_mono (zC_and d kx c1) (fun r μ1 q => by
    obtain ⟨⟨q1, _⟩, q2, rfl⟩ := q
    exact ⟨q1, 0, q2, z_C_mono (zC_and d (km _ q1) c2) (fun r2 μ2 z => ⟨lg_no hR z.2.2 z.1.1, z.2.1⟩)⟩)
  have hA := hJ.1.1
  rcases hR.2 with ⟨p1, p2, p3, p4, p5⟩ | ⟨p, t, c, P⟩
  · obtain ⟨t, ht4, ht⟩ := turn_nI hA
    have e1 : xMM μ t = false := by unfold xMM; rw [p1]; rfl
    have e2 : mMM μ t = false := by unfold mMM; rw [p2]; rfl
    exact no (gx_hide d (by omega) μ x (xk_mm ht4 (p5.trans ht) e1)) (mr_hide d (by omega) μ x (mk_mm ht4 ht e2))
  · have R := hR.1
    have ht4 := P.t4
    have eq := mm_eq R P
    cases hm : mMM μ t with
    | false => exact no (gx_hide d (by omega) μ x (xk_mm ht4 P.tx (eq.trans hm))) (mr_hide d (by omega) μ x (mk_mm ht4 P.tm hm))
    | true =>
      have hx1 := xk_mm ht4 P.tx (eq.trans hm)
      have hm1 := mk_mm ht4 P.tm hm
      by_cases hv : vp_in x 34
      · obtain ⟨k, hk, rfl⟩ := vp_in_of hv (by decide)
        have hp0 : ¬ μ.1 50 44 = 0 := by rw [P.pm]; rcases P.p3 with q | q | q <;> (rw [q]; decide)
        have G := hJ.1.2.2 hp0
        obtain ⟨w, aw, q, sL, lL, H⟩ := hf_of R P hA G ht4
        have hwk := H.1.1 k hk
        by_cases h4 : w k = 4
        · have hp1 : p = 1 := by
            have z := hm
            unfold mMM at z
            have z := (z_and z).1
            have z := of_decide_eq_true z
            rw [P.pm] at z
            rcases P.p3 with q | q | q
            · exact q
            · rw [q] at z; exact absurd z (by decide)
            · rw [q] at z; exact absurd z (by decide)
          subst hp1
          obtain ⟨z1, z2⟩ := z_and hm
          obtain ⟨z3, z4⟩ := z_and z2
          obtain ⟨z5, z6⟩ := z_and z4
          obtain ⟨z7, z8⟩ := z_and z6
          obtain ⟨n, hn1, hn2⟩ := i_nat (v := μ.1 50 47) (n := 4) (hA 50 47).1 (hA 50 47).2 (by decide)
          have hn : n < 4 := by
            rcases Nat.lt_or_ge n 4 with y | y
            · exact y
            · exfalso
              have : n = 4 := by omega
              rw [hn2, this] at z8
              exact absurd z8 (by decide)
          have hq3 : q ≤ 3 := by
            have g1 := G.1.2 t ht4
            have g2 := G.1.le ht4 hk
            have g3 : glim μ t ≤ 14 := by unfold glim; split <;> decide
            have g4 : hI μ (34 * t + k) = 4 := by unfold hI; rw [hwk.1, h4]; decide
            have g5 : mI μ t = q := by unfold mI; rw [H.1.2.1]; exact nI_toInt (by have := H.1.2.2.1; omega)
            omega
          obtain ⟨k2, hk2a, hk2b⟩ := i_nat (v := μ.1 59 (122 + n)) (n := 33) (hA 59 _).1 (hA 59 _).2 (by decide)
          have hk2 : k2 < 34 := by omega
          have e48 : μ.1 50 48 = nI n := G.2.2.1.trans hn2
          have hz3 : k + zl 3 ≤ 33 := by rw [show zl 3 = 0 from by decide]; omega
          refine z_C_mono (zC_and d kx (gc_hide d (by omega) μ t ht4 P.tx k q hk hz3 hq3 H.2.2.2.1 n k2 (by omega) (P.fo.trans hn2) (R.sd.trans P.is) hk2 ((R.wl _ (by omega)).trans hk2b) true hx1)) (fun r μ1 qq => ?_)
          obtain ⟨⟨q1, qM⟩, q2, q3⟩ := qq
          have f4 : decide (4 ≤ fr μ (20 + 8 * t) (nI k)) = true := by rw [fr_yes hk, R.hd t k ht4 hk, hwk.1, h4]; decide
          rw [f4, cond_true, cond_true] at q2 q3
          refine ⟨q1, 1, q2, ?_⟩
          have E : ∀ r k', gMc r k' → μ1.1 r k' = μ.1 r k' := fun r k' g => (qM r k' g).1
          have R' := (hR.cg (eqX_rf _) qM).1
          have P' := P.cg (eqX_rf _) qM
          refine z_C_mono (zC_and d (km μ1 q1) (gm_hide d (by omega) μ1 t ht4 P'.tm k q n k2 hk (by omega) ((E 64 t (Or.inl ⟨by decide, by decide⟩)).trans H.1.2.1) (by omega) ((E 50 48 (Or.inr ⟨rfl, by decide, by decide⟩)).trans e48) hk2 ((E 59 _ (Or.inl ⟨by decide, by decide⟩)).trans hk2b) true (mk_mm ht4 P'.tm ((mMM_e qM).trans hm)))) (fun r2 μ2 z => ?_)
          obtain ⟨⟨y1, yX⟩, y2, y3⟩ := z
          have f5 : decide (μ1.1 60 (34 * t + k) = 4) = true := by rw [E 60 _ (Or.inl ⟨by decide, by decide⟩), hwk.1, h4]; decide
          rw [f5, cond_true, cond_true] at y2 y3
          refine ⟨⟨y1, ?_⟩, y2⟩
          have R0 := R'.cg (eqX_rf _) (t0_EqM μ1 0)
          have P0 := P'.cg (eqX_rf _) (t0_EqM μ1 0)
          have E0 : ∀ r k', gMc r k' → (z_ui μ1 50 0 0).1 r k' = μ.1 r k' := fun r k' g => ((t0_EqM μ1 0 r k' g).1).trans (E r k' g)
          have g := rg_hide (k := k) (q := q) (n := n) (k2 := k2) R0 P0 hk hq3 ((E0 64 t (Or.inl ⟨by decide, by decide⟩)).trans H.1.2.1) (fun j hj => by
            rw [E0 64 j (Or.inl ⟨by decide, by decide⟩)]
            obtain ⟨a, b1, b2⟩ := i_nat (v := μ.1 64 j) (n := 4) (hA 64 j).1 (hA 64 j).2 (by decide)
            rw [b2, nI_clamp (by omega)]; exact b1) hn ((E0 50 47 (Or.inr ⟨rfl, by decide, by decide⟩)).trans hn2) ((E0 50 48 (Or.inr ⟨rfl, by decide, by decide⟩)).trans e48) hk2 ((E0 59 _ (Or.inl ⟨by decide, by decide⟩)).trans hk2b) (by rw [E0 50 46 (Or.inr ⟨rfl, by decide, by decide⟩)]; exact hA 50 46) (by
            rw [giv_60, E0 60 _ (Or.inl ⟨by decide, by decide⟩), (H.1.1 k2 hk2).1]
            by_cases e : 34 * t + k2 = 34 * t + k
            · have e : k2 = k := by omega
              rw [if_pos (by omega), e, h4]; decide
            · rw [if_neg e]; exact of_decide_eq_false (kn_m1 (by have := (H.1.1 k2 hk2).2; omega)))
          rw [← q3, show (z_ui μ1 50 0 0).1 50 47 = μ1.1 50 47 from ui_k (by decide), ← y3] at g
          exact g.cg yX (eqM_rf _)
        · have ne4 : ∀ v : Nat, v ≤ 4 → v ≠ 4 → decide (4 ≤ nI v) = false ∧ decide (nI v = 4) = false := fun v h1 h2 => by
            obtain rfl | rfl | rfl | rfl : v = 0 ∨ v = 1 ∨ v = 2 ∨ v = 3 := by omega
            all_goals decide
          have z := ne4 (w k) hwk.2 h4
          exact no (gx_hideF d (by omega) μ (nI k) t ht4 P.tx hx1 (by rw [fr_yes hk, R.hd t k ht4 hk, hwk.1]; exact z.1)) (mr_hideH d (by omega) μ t k ht4 P.tm hk hm1 (by rw [hwk.1]; exact z.2))
      · exact no (gx_hideF d (by omega) μ x t ht4 P.tx hx1 (by rw [fr_no hv]; decide)) (mr_hideK d (by omega) μ x hm1 (isK_no hv))

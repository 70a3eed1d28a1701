/-! claim answers alike -/
set_option maxRecDepth 8000
theorem kA_ex {f : Nat → Bool} : ∀ n, kA f n = true → ∃ i, i < n ∧ f i = true
  | 0, h => by cases h
  | n + 1, h => by
    have h : (kA f n || f n) = true := h
    rw [Bool.or_eq_true] at h
    rcases h with h | h
    · obtain ⟨i, h1, h2⟩ := kA_ex n h
      exact ⟨i, by omega, h2⟩
    · exact ⟨n, by omega, h⟩
theorem kb_nz {b : Nat → Bool} {k : Nat} (hk : k < 34) (h : b k = true) : ¬ kb b 34 = 0 := fun e => by
  have z := kb_bit b 34 (by omega) k hk
  rw [e, zero_b k (by omega), decide_eq_true hk, h] at z
  cases z
theorem thr_eq {m : zM} {s rm : Nat} (f : Nat → Bool) (hrm : m.1 66 s = nI rm) (h86 : rm ≤ 136) (hk : ∀ i, i < rm → ∃ k, k < 34 ∧ m.1 65 (136 * s + i) = nI k) : decide (lg_cmp (kb f 34 &&& kb (tkM m s) 34) 0 = 0) = !kA (rvF m s (kb f 34)) rm := by
  have er : ∀ i k, k < 34 → m.1 65 (136 * s + i) = nI k → rvF m s (kb f 34) i = f k := fun i k h1 h2 => by
    unfold rvF
    rw [h2]
    exact bw_kb f h1
  rw [kb_and9]
  cases e : kA (rvF m s (kb f 34)) rm with
  | true =>
    obtain ⟨i, hi, h1⟩ := kA_ex rm e
    obtain ⟨k, hk1, hk2⟩ := hk i hi
    rw [er i k hk1 hk2] at h1
    refine decide_eq_false (fun z => kb_nz (b := fun k => tkM m s k && f k) hk1 ?_ (lg_c0.mp z))
    show (tkM m s k && f k) = true
    rw [h1, Bool.and_true]
    unfold tkM
    rw [hrm, nI_clamp (by omega)]
    exact kA_hit hi (decide_eq_true hk2)
  | false =>
    refine decide_eq_true (lg_c0.mpr (kb_0 34 (fun k hk1 => ?_)))
    cases e2 : (tkM m s k && f k) with
    | false => rfl
    | true =>
      exfalso
      obtain ⟨t1, t2⟩ := z_and e2
      unfold tkM at t1
      rw [hrm, nI_clamp (by omega)] at t1
      obtain ⟨i, hi, h1⟩ := kA_ex rm t1
      have y := kA_hit (f := rvF m s (kb f 34)) hi ((er i k hk1 (of_decide_eq_true h1)).trans t2)
      rw [e] at y
      cases y
theorem wo_pS {M μj : zM} {s c : Nat} (h : WOj (pS M s c 1) μj) : WOj M (pS μj s c (-1)) := fun r k hr => by
  have z : ∀ v : Int32, v + 1 + -1 = v := fun v => by rw [Int32.add_assoc, show (1 : Int32) + -1 = 0 from by decide, Int32.add_zero]
  refine ⟨?_, (h r k hr).2⟩
  have e := fun r' k' (hr' : r' < 4 ∨ 7 < r') => (h r' k' hr').1
  by_cases e1 : r = 20 + 8 * s
  · subst e1
    by_cases e2 : k = c
    · subst e2
      rw [show (pS μj s k (-1)).1 (20 + 8 * s) k = μj.1 (20 + 8 * s) k + -1 from by unfold pS; simp (disch := omega) only [ui_s, ui_o, ui_k], e _ _ hr, show (pS M s k 1).1 (20 + 8 * s) k = M.1 (20 + 8 * s) k + 1 from by unfold pS; simp (disch := omega) only [ui_s, ui_o, ui_k]]
      exact z _
    · rw [show (pS μj s c (-1)).1 (20 + 8 * s) k = μj.1 (20 + 8 * s) k from by unfold pS; simp (disch := omega) only [ui_s, ui_o, ui_k], e _ _ hr]
      unfold pS; simp (disch := omega) only [ui_s, ui_o, ui_k]
  · by_cases e1 : r = 21 + 8 * s
    · subst e1
      by_cases e2 : k = c
      · subst e2
        rw [show (pS μj s k (-1)).1 (21 + 8 * s) k = μj.1 (21 + 8 * s) k + -1 from by unfold pS; simp (disch := omega) only [ui_s, ui_o, ui_k], e _ _ hr, show (pS M s k 1).1 (21 + 8 * s) k = M.1 (21 + 8 * s) k + 1 from by unfold pS; simp (disch := omega) only [ui_s, ui_o, ui_k]]
        exact z _
      · rw [show (pS μj s c (-1)).1 (21 + 8 * s) k = μj.1 (21 + 8 * s) k from by unfold pS; simp (disch := omega) only [ui_s, ui_o, ui_k], e _ _ hr]
        unfold pS; simp (disch := omega) only [ui_s, ui_o, ui_k]
    · by_cases e1 : r = 19 + 8 * s
      · subst e1
        by_cases e2 : k = 5
        · subst e2
          rw [show (pS μj s c (-1)).1 (19 + 8 * s) 5 = μj.1 (19 + 8 * s) 5 + -1 from by unfold pS; simp (disch := omega) only [ui_s, ui_o, ui_k], e _ _ hr, show (pS M s c 1).1 (19 + 8 * s) 5 = M.1 (19 + 8 * s) 5 + 1 from by unfold pS; simp (disch := omega) only [ui_s, ui_o, ui_k]]
          exact z _
        · rw [show (pS μj s c (-1)).1 (19 + 8 * s) k = μj.1 (19 + 8 * s) k from by unfold pS; simp (disch := omega) only [ui_s, ui_o, ui_k], e _ _ hr]
          unfold pS; simp (disch := omega) only [ui_s, ui_o, ui_k]
      · rw [show (pS μj s c (-1)).1 r k = μj.1 r k from by unfold pS; simp (disch := omega) only [ui_s, ui_o, ui_k], e _ _ hr]
        unfold pS; simp (disch := omega) only [ui_s, ui_o, ui_k]
theorem wo_EqX {M W : zM} (h : WOj M W) : EqX M W := fun r k g => h r k (by unfold gXc at g; omega)
theorem EqM_SVl {m M : zM} (h : EqM m M) : SVl m M := fun r k g => (h r k (by unfold gMc; omega)).1
theorem lg_cl {d : Nat} (hd : 700 ≤ d) (μ : zM) (s : Int32) (h : LJ μ) : z_C d mi_X7_claim [.ref 50, .int s] μ (fun _ μ' => LJ μ' ∧ EqX μ μ') := by
  by_cases hp : μ.1 50 44 = 0 ∨ μ.1 50 44 = 1
  · refine z_C_mono (bs_X7_claim_b hd [.ref 50, .int s] μ (aArg_preF ⟨⟨50, by decide, rfl⟩, ⟨_, rfl, bI_top _⟩, trivial⟩ (fun f hf => ?_)) h.1.1) (fun r μ' q => ⟨h.keep q.1 q.2.1 (by decide) (by decide), fz_EqX q.2.1 (by decide)⟩)
    rw [List.mem_singleton.mp hf]
    refine ⟨50, rfl, rfl, by decide, μ.1 50 44, rfl, ?_⟩
    rcases hp with e | e <;> rw [e] <;> exact ⟨by decide, by decide⟩
  · have hP := h.1.2.2 (fun e => hp (Or.inl e))
    have t0 := hP.2.2.2.2.1 (fun e => absurd (Or.inr e) hp)
    refine z_C_mono (bs_X7_claim_a hd [.ref 50, .int s] μ (aArg_preF ⟨⟨50, by decide, rfl⟩, ⟨_, rfl, bI_top _⟩, trivial⟩ (fun f hf => ?_)) h.1.1) (fun r μ' q => ⟨h.keep q.1 q.2.1 (by decide) (by decide), fz_EqX q.2.1 (by decide)⟩)
    rw [List.mem_singleton.mp hf]
    exact ⟨50, rfl, rfl, by decide, μ.1 50 49, rfl, t0, (h.1.1 50 49).2⟩
theorem go_in {d j' : Nat} {As' : List Value} {μ1 X : zM} {r : Option Value} {y : Int32} (h1 : LJ μ1) (km : ∀ μ1, LJ μ1 → z_C d j' As' μ1 (fun _ μ' => LJ μ' ∧ EqX μ1 μ')) (hr : r = some (.int y)) (hX : EqX X μ1) (c2 : z_C d j' As' μ1 (fun r μ' => r = some (.int y) ∧ RG X μ')) : LJ μ1 ∧ ∃ y, r = some (.int y) ∧ z_C d j' As' μ1 (fun r2 μ2 => LGm μ2 ∧ r2 = some (.int y)) := ⟨h1, y, hr, z_C_mono (zC_and d (km μ1 h1) c2) (fun r2 μ2 z => ⟨⟨z.1.1, z.2.2.cg (eqX_tr hX z.1.2) (eqM_rf _)⟩, z.2.1⟩)⟩
theorem cl_eq {x m : zM} {p t c s rm : Nat} (R : RCl x m) (P : RPh x m p t c) (hp : p ≠ 1) (hs : s < 4) (hc : c < 34) (hrm : m.1 66 s = nI rm) (hrm5 : rm ≤ 135) (f : Nat → Bool) : clC x s t c (kb f 34) = clD m s t c rm (kb f 34) := by
  unfold clC clD
  have h1 : (decide (x.1 0 7 = 2) || decide (x.1 0 7 = 3)) = true := by
    rw [P.px]
    rcases P.p3 with q | q | q
    · exact absurd q hp
    · rw [q]; decide
    · rw [q]; decide
  rw [h1, Bool.true_and, R.sy s hs, R.lg s hs, hd_kb f hc, bz_kb f hc, Bool.not_not, R.tk s hs, thr_eq f hrm (by omega) (fun i hi => R.rk s i hs (by rw [hrm, nI_clamp (by omega)]; exact hi))]
theorem lg_claim {d : Nat} (hd : 705 ≤ d) {μ : zM} (h : LGm μ) (y : Int32) : GO d mi_X6_claim mi_X7_claim [.ref 0, .int y] [.ref 50, .int y] μ := by
  obtain ⟨hJ, hR⟩ := h
  have kx : z_C d mi_X6_claim [.ref 0, .int y] μ (fun _ μ' => LJ μ' ∧ EqM μ μ') := lg_k (i := 67) (K := ak_67) rfl (by omega) (by decide) (by decide) rfl (by decide) [.ref 0, .int y] μ hJ ⟨⟨0, by decide, rfl⟩, ⟨_, rfl, bI_top _⟩, trivial⟩
  have km : ∀ μ1, LJ μ1 → z_C d mi_X7_claim [.ref 50, .int y] μ1 (fun _ μ' => LJ μ' ∧ EqX μ1 μ') := fun μ1 h1 => lg_cl (by omega) μ1 y h1
  have hA := hJ.1.1
  rcases hR.2 with ⟨p1, p2, -, -, -⟩ | ⟨p, t, c, P⟩
  · exact go_no hR kx km (gx_claimP d (by omega) μ y (by rw [p1]; decide) (by rw [p1]; decide)) (mr_claimP d (by omega) μ y (by rw [p2]; decide))
  by_cases hp : p = 1
  · exact go_no hR kx km (gx_claimP d (by omega) μ y (by rw [P.px, hp]; decide) (by rw [P.px, hp]; decide)) (mr_claimP d (by omega) μ y (by rw [P.pm, hp]; decide))
  by_cases hy : vp_in y 4
  · obtain ⟨s, hs, rfl⟩ := vp_in_of hy (by decide)
    have ht4 := P.t4
    by_cases hst : s = t
    · have e : decide (nI s = nI t) = true := decide_eq_true (by rw [hst])
      exact go_no hR kx km (gx_claimT d (by omega) μ s t hs ht4 P.tx e) (mr_claimT d (by omega) μ s t hs ht4 P.tm e)
    have R := hR.1
    have hc : c < 34 := by
      rcases P.c3 with q | ⟨_, q⟩
      · exact q
      · exact absurd q hp
    have hp0 : ¬ μ.1 50 44 = 0 := by rw [P.pm]; rcases P.p3 with q | q | q <;> (rw [q]; decide)
    have hp2 : decide (μ.1 50 44 < 2) = false := by
      rw [P.pm]
      rcases P.p3 with q | q | q
      · exact absurd q hp
      · rw [q]; decide
      · rw [q]; decide
    have G := hJ.1.2.2 hp0
    obtain ⟨W, hW⟩ := ww_of R P hA G hc
    obtain ⟨w, aw, q, sL, lL, H⟩ := hf_of R P hA G hs
    have h3 := aw_3 R P hA hp hs hst H hc
    have cx : μ.1 0 15 = nI c := P.cx.trans (if_neg (by omega))
    have cm : μ.1 50 49 = nI c := P.cm.trans (if_neg (by omega))
    obtain ⟨dl, hdl4, hdl⟩ := dealer_nI hA
    obtain ⟨f, hf4, hf47⟩ := i_nat (v := μ.1 50 47) (n := 4) (hA 50 47).1 (hA 50 47).2 (by decide)
    obtain ⟨rd, hrd2, hrd⟩ : ∃ rd, rd < 2 ∧ μ.1 50 41 = nI rd := by
      rcases R.rd with e | e
      · exact ⟨0, by decide, e⟩
      · exact ⟨1, by decide, e⟩
    obtain ⟨rm, hrm5, hrm⟩ := i_nat (v := μ.1 66 s) (n := 135) (hA 66 s).1 (hA 66 s).2 (by decide)
    obtain ⟨g, hg⟩ := (hW s hs).2.2.2
    have eC : clC μ s t c (W s) = clD μ s t c rm (W s) := by rw [hg]; exact cl_eq R P hp hs hc hrm hrm5 g
    have cc := gc_claim d (by omega) μ s t c hs ht4 P.tx hc cx (W s) (fun d hd => (hW s hs).2.2.1 μ (fun _ _ _ _ _ _ => rfl) d hd) _ (fun d hd => wx0 R P hs H hA hc h3 hf4 hf47 hdl hrd μ (WE_rf μ) hA d hd)
    have mm : ∀ μ1, LJ μ1 → EqM μ μ1 → z_C d mi_X7_claim [.ref 50, .int (nI s)] μ1 (fun r μ' => (clD μ s t c rm (W s) = false ∧ r = some (.int 0) ∧ SMj (z_ui μ1 50 0 0) μ') ∨ (clD μ s t c rm (W s) = true ∧ ∃ V, BM (ad1 w c) q c sL lL false (tM0 (μ.1 67 s) (μ.1 69 s) (122 - μ.1 50 47 - μ.1 50 46) (μ.1 50 44)) (wdM (nI dl) (nI s)) (nI rd) (deM μ s (ad1 w c) q f) (bq V) ∧ ((decide (V.1 50 13 = 0) = true ∧ r = some (.int 0) ∧ SMj (z_ui μ1 50 0 0) μ') ∨ (decide (V.1 50 13 = 0) = false ∧ r = some (.int 1) ∧ SMj (z_ui (z_ui μ1 50 0 0) 71 s 1) μ')))) := fun μ1 h1 qM => by
      have E : ∀ r k', gMc r k' → μ1.1 r k' = μ.1 r k' := fun r k' g => (qM r k' g).1
      have eD : clD μ1 s t c rm (W s) = clD μ s t c rm (W s) := by
        unfold clD
        rw [E 71 s (Or.inl ⟨by decide, by decide⟩), E 70 s (Or.inl ⟨by decide, by decide⟩), show rvF μ1 s (W s) = rvF μ s (W s) from funext fun i => by unfold rvF; rw [E 65 _ (Or.inl ⟨by decide, by decide⟩)]]
      rw [← eD]
      exact gm_claim d (by omega) μ1 h1.1.1 s t c rm hs ht4 ((E 50 45 (Or.inr ⟨rfl, by decide, by decide⟩)).trans P.tm) hc ((E 50 49 (Or.inr ⟨rfl, by decide, by decide⟩)).trans cm) (by rw [E 50 44 (Or.inr ⟨rfl, by decide, by decide⟩)]; exact hp2) ((E 66 s (Or.inl ⟨by decide, by decide⟩)).trans hrm) hrm5 (W s) (fun M hM => (hW s hs).2.1 M (fun r k g => (hM r k g).trans (E r k (Or.inl ⟨by omega, by omega⟩)))) _ (fun M hM hAM d hd => z_C_mono (wm0 hs H hA hc hf4 hf47 hdl hrd M (EqM_SVl (eqM_tr (eqM_tr qM (t0_EqM μ1 0)) (sm_EqM hM))) hAM d hd) (fun r W z => ⟨z.1, z.2.2.1, z.2.2.2⟩))
    refine z_C_mono (zC_and d kx cc) (fun r μ1 qq => ?_)
    obtain ⟨⟨q1, qM⟩, q2⟩ := qq
    have eM : EqM μ (z_ui μ1 50 0 0) := eqM_tr qM (t0_EqM μ1 0)
    have m2 := mm μ1 q1 qM
    rcases q2 with ⟨b1, b2, b3⟩ | ⟨b1, μj, hJ', b2⟩
    · refine go_in q1 km b2 (X := μ) (by rw [b3]; exact eqX_rf _) (z_C_mono m2 (fun r μ' z => ?_))
      rw [eC] at b1
      rcases z with ⟨_, z2, z3⟩ | ⟨z1, -⟩
      · exact ⟨z2, hR.cg (eqX_rf _) (eqM_tr eM (sm_EqM z3))⟩
      · rw [b1] at z1; cases z1
    · obtain ⟨j1, j2, j3, j4⟩ := hJ'
      rw [eC] at b1
      have eb : ∀ V : zM, BM (ad1 w c) q c sL lL false (tM0 (μ.1 67 s) (μ.1 69 s) (122 - μ.1 50 47 - μ.1 50 46) (μ.1 50 44)) (wdM (nI dl) (nI s)) (nI rd) (deM μ s (ad1 w c) q f) (bq V) → μj.1 4 0 = V.1 50 13 := fun V hV => (wb0 R P hs H hA hc h3 hf4 hdl4 hrd2 j4 hV).1
      rcases b2 with ⟨b3, b4, b5⟩ | ⟨b3, b4, b5⟩
      · refine go_in q1 km b4 (X := μ) (by rw [b5]; exact wo_EqX (wo_pS j2)) (z_C_mono m2 (fun r μ' z => ?_))
        rcases z with ⟨_, z2, z3⟩ | ⟨_, V, hV, z⟩
        · exact ⟨z2, hR.cg (eqX_rf _) (eqM_tr eM (sm_EqM z3))⟩
        · rcases z with ⟨_, z2, z3⟩ | ⟨z1, -, -⟩
          · exact ⟨z2, hR.cg (eqX_rf _) (eqM_tr eM (sm_EqM z3))⟩
          · rw [← eb V hV, b3] at z1; cases z1
      · refine go_in q1 km b4 (X := z_ui μ (18 + 8 * s) 9 1) (by
          rw [b5]
          have y := wo_EqX (wo_pS j2)
          exact fun r k g => ⟨by
            by_cases e : r = 18 + 8 * s ∧ k = 9
            · obtain ⟨rfl, rfl⟩ := e; rw [ui_s, ui_s]
            · by_cases e1 : r = 18 + 8 * s
              · rw [ui_k (by omega), ui_k (by omega)]; exact (y r k g).1
              · rw [ui_o e1, ui_o e1]; exact (y r k g).1, (y r k g).2⟩) (z_C_mono m2 (fun r μ' z => ?_))
        rcases z with ⟨z1, -, -⟩ | ⟨_, V, hV, z⟩
        · rw [b1] at z1; cases z1
        · rcases z with ⟨z1, -, -⟩ | ⟨_, z2, z3⟩
          · rw [← eb V hV, b3] at z1; cases z1
          · refine ⟨z2, RG.cg (eqX_rf _) (sm_EqM z3) ⟨rc_said (R.cg (eqX_rf _) eM) hs, Or.inr ⟨p, t, c, rp_said (P.cg (eqX_rf _) eM) hp hs hst⟩⟩⟩
  · exact go_no hR kx km (gx_claimS d (by omega) μ y (isS_x hy)) (mr_claimS d (by omega) μ y (isS_no hy))

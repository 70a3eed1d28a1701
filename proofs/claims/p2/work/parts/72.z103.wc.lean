/-! win answers alike -/
set_option maxRecDepth 8000
/-- the told FORMS of a drawn tile -/
def toX (x m : zM) (s : Nat) : Int64 := tX true (m.1 67 s) (m.1 69 s) (122 - m.1 50 47 - m.1 50 46) (m.1 50 58) 1 ||| t2X (!decide (m.1 50 56 = 0)) (decide (m.1 66 s ≤ 0)) (decide (nI s = m.1 50 40))
theorem toX_eq {x m : zM} {t c : Nat} (P : RPh x m 1 t c) (hc : c < 34) (hA : a_H m) : toX x m t &&& tlm = tM1 (m.1 67 t) (m.1 69 t) (122 - m.1 50 47 - m.1 50 46) (m.1 50 58) (decide (m.1 68 t = 1)) (decide (nI t = m.1 50 40)) (!decide (m.1 50 56 = 0)) := by
  refine tX_1 _ _ _ _ _ _ _ _ (fun h => ?_) (fun h1 h2 => ?_)
  · have z : ¬ m.1 50 56 = 0 := of_decide_eq_false (not_t h)
    have y := P.dr z t P.t4
    rw [if_pos ⟨rfl, rfl⟩] at y
    obtain ⟨rm, a, b⟩ := i_nat (v := m.1 66 t) (n := 135) (hA 66 t).1 (hA 66 t).2 (by decide)
    rw [y, b, nI_s1, show decide (nI (rm + 1) = 1) = decide (rm + 1 = 1) from by
      by_cases e : rm + 1 = 1
      · rw [decide_eq_true e, e]; decide
      · rw [decide_eq_false e]; exact decide_eq_false (fun q => e ((nI_eq (a := rm + 1) (b := 1) (by omega) (by decide)).mp q)), show decide (nI rm ≤ 0) = decide (rm ≤ 0) from nI_le2 (b := 0) (by omega) (by decide)]
    by_cases e : rm = 0
    · rw [decide_eq_true (show rm + 1 = 1 by omega), decide_eq_true (show rm ≤ 0 by omega)]
    · rw [decide_eq_false (by omega), decide_eq_false (by omega)]
  · have z : m.1 50 56 = 0 := of_decide_eq_true (not_f h1)
    exact decide_eq_false (P.d2 z rfl (of_decide_eq_true h2).symm hc)
theorem wx1 {x m : zM} {c t : Nat} {w aw : Nat → Nat} {q : Nat} {sL lL : Nat → Nat} (R : RCl x m) (P : RPh x m 1 t c) (H : HF x m t w aw q sL lL) (hA : a_H m) (hAx : a_H x) (hc : c < 34) {f dl rd : Nat} (hf : f ≤ 4) (hf47 : m.1 50 47 = nI f) (hdl : m.1 50 40 = nI dl) (hrd : m.1 50 41 = nI rd) : ∀ d, 10 ≤ d → z_C d mi_X6_weighHand [.ref 0, .int (nI t), .int 1] x (fun r μ' => ∃ μj, (μj.1 0 15 = nI c ∧ WOj x μj ∧ a_H μj ∧ BX w aw q c sL lL true (toX x m t) (wiN t dl rd) (deM m t w q f) (bqJ μj)) ∧ μ' = μj ∧ r = some (.int (μj.1 4 0))) := fun d hd => by
  have hs := P.t4
  have c15 : x.1 0 15 = nI c := P.cx.trans (if_neg (by omega))
  refine gc_weigh1 d hd x t c hs hc c15 (tX true (m.1 67 t) (m.1 69 t) (122 - m.1 50 47 - m.1 50 46) (m.1 50 58) 1) (t2X (!decide (m.1 50 56 = 0)) (decide (m.1 66 t ≤ 0)) (decide (nI t = m.1 50 40))) (deM m t w q f) ((nI t - nI dl) &&& 3) (by rw [R.dl, hdl]) (fun d hd => ?_) (fun d hd => ?_) (fun d hd => ?_) (fun μj => μj.1 0 15 = nI c ∧ WOj x μj ∧ a_H μj ∧ BX w aw q c sL lL true (toX x m t) (wiN t dl rd) (deM m t w q f) (bqJ μj)) (fun μj z => z.1) (fun d hd => ?_)
  · have z := tX_c d hd x t hs true
    rw [R.be t hs, R.ao t hs, left_x R P rfl rfl rfl, P.bf rfl hc, P.px] at z
    exact z
  · have z := gc_firstDraw d hd x t hs true
    rw [cond_true, P.br, R.ds t hs, R.dl, show decide (nB (decide (m.1 50 56 = 0)) = 0) = !decide (m.1 50 56 = 0) from by cases decide (m.1 50 56 = 0) <;> decide] at z
    exact z
  · have z := gc_dear d hd x t hs (!decide (x.1 (18 + 8 * t) 5 = 0)) f hf (by rw [R.sd, P.is]) (by rw [P.fo]; exact hf47)
    rw [deF_cg (B := dAs m t w (Wm m) q) (f + 1) (fun p h1 h2 => (dear_p H (fun _ => rfl) (fun _ => rfl) hA (R.wl p (by omega))).1), bt_not R hs] at z
    rw [bt_not R hs]
    exact z
  · have z := jd_x (c := c) H hs hAx (fun i hi => ⟨by rw [R.so t i hs (by have := H.1.2.2.1; omega)]; exact (H.1.2.2.2 i hi).1, by rw [R.lo t i hs (by have := H.1.2.2.1; omega)]; exact (H.1.2.2.2 i hi).2.2.1⟩) true (toX x m t) (wiN t dl rd) (deM m t w q f) d hd
    rw [R.rn, hrd]
    exact z_C_mono z (fun r μ' y => ⟨y.1, (y.2.1 0 15 (Or.inl (by decide))).1.trans c15, y.2⟩)
theorem wmD1 {x m : zM} {s c : Nat} {w aw : Nat → Nat} {q : Nat} {sL lL : Nat → Nat} (hs : s < 4) (H : HF x m s w aw q sL lL) (hA : a_H m) (hc : c < 34) {f dl rd : Nat} (hf : f ≤ 4) (hf47 : m.1 50 47 = nI f) (hdl : m.1 50 40 = nI dl) (hrd : m.1 50 41 = nI rd) : ∀ M, SVl m M → a_H M → ∀ d, 699 ≤ d → z_C d mi_X7_value [.ref 50, .int (nI s), .int (nI c), .int 1] M (fun r W => r = none ∧ a_H W ∧ SMj M W ∧ (¬ W.1 50 13 = 0 → W.1 50 18 = 1) ∧ BM w q c sL lL true (tM1 (m.1 67 s) (m.1 69 s) (122 - m.1 50 47 - m.1 50 46) (m.1 50 58) (decide (m.1 68 s = 1)) (decide (nI s = m.1 50 40)) (!decide (m.1 50 56 = 0))) (wdM (nI dl) (nI s)) (nI rd) (deM m s w q f) (bq W)) := fun M hM hAM d hd => by
  have e5 : ∀ k, (k = 40 ∨ k = 41 ∨ k = 44 ∨ k = 46 ∨ k = 47 ∨ k = 56 ∨ k = 58) → M.1 50 k = m.1 50 k := fun k h => hM 50 k (by omega)
  have e6 : ∀ r k, (r = 59 ∨ r = 60 ∨ r = 62 ∨ r = 63 ∨ r = 64 ∨ r = 67 ∨ r = 68 ∨ r = 69) → M.1 r k = m.1 r k := fun r k h => hM r k (by omega)
  have eW : ∀ p, Wm M p = Wm m p := fun p => by unfold Wm; rw [e6 59 p (by omega)]
  have z := gm_value1 d (by omega) M hAM s c hs hc w q sL lL (H.1.se (fun r k g => e6 r k (by omega))) f hf ((e5 47 (by omega)).trans hf47) (Wm M) (fun p _ _ => Wm_e hAM p)
  refine z_C_mono z (fun r W y => ⟨y.1, y.2.1, y.2.2.1, y.2.2.2.1, ?_⟩)
  obtain ⟨κ, k1, k2⟩ := y.2.2.2.2
  refine ⟨κ, ?_, k2⟩
  have ed : dAs M s w (Wm M) q = dAs m s w (Wm m) q := by
    funext p
    unfold dAs
    rw [eW p, show (fun i => M.1 62 (4 * s + i)) = (fun i => m.1 62 (4 * s + i)) from funext fun i => e6 62 _ (by omega), show (fun i => M.1 63 (4 * s + i)) = (fun i => m.1 63 (4 * s + i)) from funext fun i => e6 63 _ (by omega)]
  rw [ed, e6 67 s (by omega), e6 69 s (by omega), e6 68 s (by omega), e5 58 (by omega), e5 56 (by omega), e5 41 (by omega), hrd] at k1
  unfold tM1 deM
  rw [← e5 47 (by omega), ← e5 46 (by omega), ← e5 40 (by omega), ← hdl, ← e5 40 (by omega)]
  exact k1
theorem wb1 {x m : zM} {t c : Nat} {w aw : Nat → Nat} {q : Nat} {sL lL : Nat → Nat} (R : RCl x m) (P : RPh x m 1 t c) (H : HF x m t w aw q sL lL) (hA : a_H m) (hc : c < 34) {f dl rd : Nat} (hf : f ≤ 4) (hdl4 : dl < 4) (hrd2 : rd < 2) {v b : Q4} (hX : BX w aw q c sL lL true (toX x m t) (wiN t dl rd) (deM m t w q f) v) (hM : BM w q c sL lL true (tM1 (m.1 67 t) (m.1 69 t) (122 - m.1 50 47 - m.1 50 46) (m.1 50 58) (decide (m.1 68 t = 1)) (decide (nI t = m.1 50 40)) (!decide (m.1 50 56 = 0))) (wdM (nI dl) (nI t)) (nI rd) (deM m t w q f) b) : v.1 = b.1 ∧ v.2.1 = b.2.1 ∧ v.2.2.2 = b.2.2.2 := by
  have hw : 0 < w c := by
    rcases Nat.eq_zero_or_pos (w c) with e | e
    · exfalso
      have z := P.dt rfl hc
      rw [(H.1.1 c hc).1, e] at z
      exact z rfl
    · exact e
  exact wo_eq H hc hw (toX_eq P hc hA) (wi_3 t P.t4 dl hdl4 rd hrd2).1 (wi_3 t P.t4 dl hdl4 rd hrd2).2 (de_63 H (fun _ => rfl) (fun _ => rfl) hA R.wl hf) hX hM
theorem lg_win0_1 {d : Nat} (hd : 705 ≤ d) {μ : zM} (hJ : LJ μ) (hR : RG μ μ) {c dl : Nat} (P : RPh μ μ 1 0 c) (hc : c < 34) (hdl4 : dl < 4) (hdl : μ.1 50 40 = nI dl) (heq : dl = 0) (kx : z_C d mi_X6_win [.ref 0] μ (fun _ μ' => LJ μ' ∧ EqM μ μ')) (km : ∀ μ1, LJ μ1 → z_C d mi_X7_win [.ref 50] μ1 (fun _ μ' => LJ μ' ∧ EqX μ1 μ')) : GO d mi_X6_win mi_X7_win [.ref 0] [.ref 50] μ := by
  have hA := hJ.1.1
  have R := hR.1
  have hp1 : μ.1 50 44 = 1 := P.pm
  have G := hJ.1.2.2 (by rw [hp1]; decide)
  obtain ⟨w, aw, q, sL, lL, H⟩ := hf_of R P hA G P.t4
  have cx : μ.1 0 15 = nI c := P.cx.trans (if_neg (by omega))
  have cm : μ.1 50 49 = nI c := P.cm.trans (if_neg (by omega))
  obtain ⟨f, hf4, hf47⟩ := i_nat (v := μ.1 50 47) (n := 4) (hA 50 47).1 (hA 50 47).2 (by decide)
  obtain ⟨rd, hrd2, hrd⟩ : ∃ rd, rd < 2 ∧ μ.1 50 41 = nI rd := by
    rcases R.rd with e | e
    · exact ⟨0, by decide, e⟩
    · exact ⟨1, by decide, e⟩
  have cc := gc_win1 d (by omega) μ 0 dl ((dl + 1) % 4) c 1 2 3 (by decide) P.tx hdl4 rfl hc cx (by decide) (by decide) (by decide) (by decide) (by decide) (by decide) heq.symm (fun μj => μj.1 0 15 = nI c ∧ WOj μ μj ∧ a_H μj ∧ BX w aw q c sL lL true (toX μ μ 0) (wiN 0 dl rd) (deM μ 0 w q f) (bqJ μj)) (fun m z => ⟨(z.2.1 0 8 (Or.inl (by decide))).1.trans P.tx, (z.2.1 0 9 (Or.inl (by decide))).1.trans (R.dl.trans hdl), (z.2.1 0 6 (Or.inl (by decide))).1.trans (R.wc.trans P.w0)⟩) (wx1 R P H hA hA hc hf4 hf47 hdl hrd)
  have mm : ∀ μ1, LJ μ1 → EqM μ μ1 → z_C d mi_X7_win [.ref 50] μ1 (fun r μ' => ∃ V, BM w q c sL lL true (tM1 (μ.1 67 0) (μ.1 69 0) (122 - μ.1 50 47 - μ.1 50 46) (μ.1 50 58) (decide (μ.1 68 0 = 1)) (decide (nI 0 = μ.1 50 40)) (!decide (μ.1 50 56 = 0))) (wdM (nI dl) (nI 0)) (nI rd) (deM μ 0 w q f) (bq V) ∧ ((decide (V.1 50 13 = 0) = true ∧ r = some (.int 0) ∧ SMj (z_ui μ1 50 0 0) μ') ∨ (decide (V.1 50 13 = 0) = false ∧ r = some (.int 1) ∧ SMj (wM0_1 μ1 V dl ((dl + 1) % 4) c) μ'))) := fun μ1 h1 qM => by
    have E : ∀ r k', gMc r k' → μ1.1 r k' = μ.1 r k' := fun r k' g => (qM r k' g).1
    exact gm_win0_1 d (by omega) μ1 h1.1.1 dl ((dl + 1) % 4) c ((E 50 45 (Or.inr ⟨rfl, by decide, by decide⟩)).trans P.tm) ((E 50 40 (Or.inr ⟨rfl, by decide, by decide⟩)).trans hdl) hdl4 rfl heq hc ((E 50 49 (Or.inr ⟨rfl, by decide, by decide⟩)).trans cm) (by rw [E 50 44 (Or.inr ⟨rfl, by decide, by decide⟩), hp1]; decide) (by rw [E 50 57 (Or.inr ⟨rfl, by decide, by decide⟩), P.jc rfl, if_neg (by omega)]; decide) _ (fun d hd => wmD1 P.t4 H hA hc hf4 hf47 hdl hrd _ (EqM_SVl (eqM_tr qM (t0_EqM μ1 0))) (a_H_ui h1.1.1 (bI_top _)) d hd)
  refine z_C_mono (zC_and d kx cc) (fun r μ1 qq => ?_)
  obtain ⟨⟨q1, qM⟩, q2⟩ := qq
  have eM : EqM μ (z_ui μ1 50 0 0) := eqM_tr qM (t0_EqM μ1 0)
  have m2 := mm μ1 q1 qM
  rcases q2 with ⟨b1, -, -⟩ | ⟨-, μj, ⟨j1, j2, j3, j4⟩, b2⟩
  · rw [P.px] at b1; exact absurd b1 (by decide)
  · have eb := fun (V : zM) hV => wb1 (b := bq V) R P H hA hc hf4 hdl4 hrd2 j4 hV
    rcases b2 with ⟨b3, b4, b5⟩ | ⟨b3, b4, b5⟩
    · refine go_in q1 km b4 (X := μ) (by rw [b5]; exact wo_EqX j2) (z_C_mono m2 (fun r μ' z => ?_))
      obtain ⟨V, hV, z⟩ := z
      have e0 : μj.1 4 0 = V.1 50 13 := (eb V hV).1
      rcases z with ⟨_, z2, z3⟩ | ⟨z1, -, -⟩
      · exact ⟨z2, hR.cg (eqX_rf _) (eqM_tr eM (sm_EqM z3))⟩
      · rw [← e0, b3] at z1; cases z1
    · refine go_in q1 km b4 (X := wn1 μj 0 dl ((dl + 1) % 4) 1 2 3) (by rw [b5]; exact eqX_rf _) (z_C_mono m2 (fun r μ' z => ?_))
      obtain ⟨V, hV, z⟩ := z
      have e0 : μj.1 4 0 = V.1 50 13 := (eb V hV).1
      rcases z with ⟨z1, -, -⟩ | ⟨_, z2, z3⟩
      · rw [← e0, b3] at z1; cases z1
      · refine ⟨z2, RG.cg (eqX_rf _) (sm_EqM z3) ?_⟩
        have P' := P.cg (wo_EqX j2) qM
        exact rg_win0_1 (R.cg (wo_EqX j2) qM) P'.fo (P'.tx.trans P'.tm.symm) ((qM 50 40 (Or.inr ⟨rfl, by decide, by decide⟩)).1.trans hdl) hdl4 rfl e0 (eb V hV).2.1 (eb V hV).2.2 j1
theorem lg_win0_0 {d : Nat} (hd : 705 ≤ d) {μ : zM} (hJ : LJ μ) (hR : RG μ μ) {c dl : Nat} (P : RPh μ μ 1 0 c) (hc : c < 34) (hdl4 : dl < 4) (hdl : μ.1 50 40 = nI dl) (heq : dl ≠ 0) (kx : z_C d mi_X6_win [.ref 0] μ (fun _ μ' => LJ μ' ∧ EqM μ μ')) (km : ∀ μ1, LJ μ1 → z_C d mi_X7_win [.ref 50] μ1 (fun _ μ' => LJ μ' ∧ EqX μ1 μ')) : GO d mi_X6_win mi_X7_win [.ref 0] [.ref 50] μ := by
  have hA := hJ.1.1
  have R := hR.1
  have hp1 : μ.1 50 44 = 1 := P.pm
  have G := hJ.1.2.2 (by rw [hp1]; decide)
  obtain ⟨w, aw, q, sL, lL, H⟩ := hf_of R P hA G P.t4
  have cx : μ.1 0 15 = nI c := P.cx.trans (if_neg (by omega))
  have cm : μ.1 50 49 = nI c := P.cm.trans (if_neg (by omega))
  obtain ⟨f, hf4, hf47⟩ := i_nat (v := μ.1 50 47) (n := 4) (hA 50 47).1 (hA 50 47).2 (by decide)
  obtain ⟨rd, hrd2, hrd⟩ : ∃ rd, rd < 2 ∧ μ.1 50 41 = nI rd := by
    rcases R.rd with e | e
    · exact ⟨0, by decide, e⟩
    · exact ⟨1, by decide, e⟩
  have cc := gc_win0 d (by omega) μ 0 dl ((dl + 1) % 4) c 1 2 3 (by decide) P.tx hdl4 rfl hc cx (by decide) (by decide) (by decide) (by decide) (by decide) (by decide) (fun e => heq e.symm) (fun μj => μj.1 0 15 = nI c ∧ WOj μ μj ∧ a_H μj ∧ BX w aw q c sL lL true (toX μ μ 0) (wiN 0 dl rd) (deM μ 0 w q f) (bqJ μj)) (fun m z => ⟨(z.2.1 0 8 (Or.inl (by decide))).1.trans P.tx, (z.2.1 0 9 (Or.inl (by decide))).1.trans (R.dl.trans hdl), (z.2.1 0 6 (Or.inl (by decide))).1.trans (R.wc.trans P.w0)⟩) (wx1 R P H hA hA hc hf4 hf47 hdl hrd)
  have mm : ∀ μ1, LJ μ1 → EqM μ μ1 → z_C d mi_X7_win [.ref 50] μ1 (fun r μ' => ∃ V, BM w q c sL lL true (tM1 (μ.1 67 0) (μ.1 69 0) (122 - μ.1 50 47 - μ.1 50 46) (μ.1 50 58) (decide (μ.1 68 0 = 1)) (decide (nI 0 = μ.1 50 40)) (!decide (μ.1 50 56 = 0))) (wdM (nI dl) (nI 0)) (nI rd) (deM μ 0 w q f) (bq V) ∧ ((decide (V.1 50 13 = 0) = true ∧ r = some (.int 0) ∧ SMj (z_ui μ1 50 0 0) μ') ∨ (decide (V.1 50 13 = 0) = false ∧ r = some (.int 1) ∧ SMj (wM0_0 μ1 V dl ((dl + 1) % 4) c) μ'))) := fun μ1 h1 qM => by
    have E : ∀ r k', gMc r k' → μ1.1 r k' = μ.1 r k' := fun r k' g => (qM r k' g).1
    exact gm_win0_0 d (by omega) μ1 h1.1.1 dl ((dl + 1) % 4) c ((E 50 45 (Or.inr ⟨rfl, by decide, by decide⟩)).trans P.tm) ((E 50 40 (Or.inr ⟨rfl, by decide, by decide⟩)).trans hdl) hdl4 rfl heq hc ((E 50 49 (Or.inr ⟨rfl, by decide, by decide⟩)).trans cm) (by rw [E 50 44 (Or.inr ⟨rfl, by decide, by decide⟩), hp1]; decide) (by rw [E 50 57 (Or.inr ⟨rfl, by decide, by decide⟩), P.jc rfl, if_neg (by omega)]; decide) _ (fun d hd => wmD1 P.t4 H hA hc hf4 hf47 hdl hrd _ (EqM_SVl (eqM_tr qM (t0_EqM μ1 0))) (a_H_ui h1.1.1 (bI_top _)) d hd)
  refine z_C_mono (zC_and d kx cc) (fun r μ1 qq => ?_)
  obtain ⟨⟨q1, qM⟩, q2⟩ := qq
  have eM : EqM μ (z_ui μ1 50 0 0) := eqM_tr qM (t0_EqM μ1 0)
  have m2 := mm μ1 q1 qM
  rcases q2 with ⟨b1, -, -⟩ | ⟨-, μj, ⟨j1, j2, j3, j4⟩, b2⟩
  · rw [P.px] at b1; exact absurd b1 (by decide)
  · have eb := fun (V : zM) hV => wb1 (b := bq V) R P H hA hc hf4 hdl4 hrd2 j4 hV
    rcases b2 with ⟨b3, b4, b5⟩ | ⟨b3, b4, b5⟩
    · refine go_in q1 km b4 (X := μ) (by rw [b5]; exact wo_EqX j2) (z_C_mono m2 (fun r μ' z => ?_))
      obtain ⟨V, hV, z⟩ := z
      have e0 : μj.1 4 0 = V.1 50 13 := (eb V hV).1
      rcases z with ⟨_, z2, z3⟩ | ⟨z1, -, -⟩
      · exact ⟨z2, hR.cg (eqX_rf _) (eqM_tr eM (sm_EqM z3))⟩
      · rw [← e0, b3] at z1; cases z1
    · refine go_in q1 km b4 (X := wn0 μj 0 dl ((dl + 1) % 4) 1 2 3) (by rw [b5]; exact eqX_rf _) (z_C_mono m2 (fun r μ' z => ?_))
      obtain ⟨V, hV, z⟩ := z
      have e0 : μj.1 4 0 = V.1 50 13 := (eb V hV).1
      rcases z with ⟨z1, -, -⟩ | ⟨_, z2, z3⟩
      · rw [← e0, b3] at z1; cases z1
      · refine ⟨z2, RG.cg (eqX_rf _) (sm_EqM z3) ?_⟩
        have P' := P.cg (wo_EqX j2) qM
        exact rg_win0_0 (R.cg (wo_EqX j2) qM) P'.fo (P'.tx.trans P'.tm.symm) ((qM 50 40 (Or.inr ⟨rfl, by decide, by decide⟩)).1.trans hdl) hdl4 rfl e0 (eb V hV).2.1 (eb V hV).2.2 j1
theorem lg_win1_1 {d : Nat} (hd : 705 ≤ d) {μ : zM} (hJ : LJ μ) (hR : RG μ μ) {c dl : Nat} (P : RPh μ μ 1 1 c) (hc : c < 34) (hdl4 : dl < 4) (hdl : μ.1 50 40 = nI dl) (heq : dl = 1) (kx : z_C d mi_X6_win [.ref 0] μ (fun _ μ' => LJ μ' ∧ EqM μ μ')) (km : ∀ μ1, LJ μ1 → z_C d mi_X7_win [.ref 50] μ1 (fun _ μ' => LJ μ' ∧ EqX μ1 μ')) : GO d mi_X6_win mi_X7_win [.ref 0] [.ref 50] μ := by
  have hA := hJ.1.1
  have R := hR.1
  have hp1 : μ.1 50 44 = 1 := P.pm
  have G := hJ.1.2.2 (by rw [hp1]; decide)
  obtain ⟨w, aw, q, sL, lL, H⟩ := hf_of R P hA G P.t4
  have cx : μ.1 0 15 = nI c := P.cx.trans (if_neg (by omega))
  have cm : μ.1 50 49 = nI c := P.cm.trans (if_neg (by omega))
  obtain ⟨f, hf4, hf47⟩ := i_nat (v := μ.1 50 47) (n := 4) (hA 50 47).1 (hA 50 47).2 (by decide)
  obtain ⟨rd, hrd2, hrd⟩ : ∃ rd, rd < 2 ∧ μ.1 50 41 = nI rd := by
    rcases R.rd with e | e
    · exact ⟨0, by decide, e⟩
    · exact ⟨1, by decide, e⟩
  have cc := gc_win1 d (by omega) μ 1 dl ((dl + 1) % 4) c 2 3 0 (by decide) P.tx hdl4 rfl hc cx (by decide) (by decide) (by decide) (by decide) (by decide) (by decide) heq.symm (fun μj => μj.1 0 15 = nI c ∧ WOj μ μj ∧ a_H μj ∧ BX w aw q c sL lL true (toX μ μ 1) (wiN 1 dl rd) (deM μ 1 w q f) (bqJ μj)) (fun m z => ⟨(z.2.1 0 8 (Or.inl (by decide))).1.trans P.tx, (z.2.1 0 9 (Or.inl (by decide))).1.trans (R.dl.trans hdl), (z.2.1 0 6 (Or.inl (by decide))).1.trans (R.wc.trans P.w0)⟩) (wx1 R P H hA hA hc hf4 hf47 hdl hrd)
  have mm : ∀ μ1, LJ μ1 → EqM μ μ1 → z_C d mi_X7_win [.ref 50] μ1 (fun r μ' => ∃ V, BM w q c sL lL true (tM1 (μ.1 67 1) (μ.1 69 1) (122 - μ.1 50 47 - μ.1 50 46) (μ.1 50 58) (decide (μ.1 68 1 = 1)) (decide (nI 1 = μ.1 50 40)) (!decide (μ.1 50 56 = 0))) (wdM (nI dl) (nI 1)) (nI rd) (deM μ 1 w q f) (bq V) ∧ ((decide (V.1 50 13 = 0) = true ∧ r = some (.int 0) ∧ SMj (z_ui μ1 50 0 0) μ') ∨ (decide (V.1 50 13 = 0) = false ∧ r = some (.int 1) ∧ SMj (wM1_1 μ1 V dl ((dl + 1) % 4) c) μ'))) := fun μ1 h1 qM => by
    have E : ∀ r k', gMc r k' → μ1.1 r k' = μ.1 r k' := fun r k' g => (qM r k' g).1
    exact gm_win1_1 d (by omega) μ1 h1.1.1 dl ((dl + 1) % 4) c ((E 50 45 (Or.inr ⟨rfl, by decide, by decide⟩)).trans P.tm) ((E 50 40 (Or.inr ⟨rfl, by decide, by decide⟩)).trans hdl) hdl4 rfl heq hc ((E 50 49 (Or.inr ⟨rfl, by decide, by decide⟩)).trans cm) (by rw [E 50 44 (Or.inr ⟨rfl, by decide, by decide⟩), hp1]; decide) (by rw [E 50 57 (Or.inr ⟨rfl, by decide, by decide⟩), P.jc rfl, if_neg (by omega)]; decide) _ (fun d hd => wmD1 P.t4 H hA hc hf4 hf47 hdl hrd _ (EqM_SVl (eqM_tr qM (t0_EqM μ1 0))) (a_H_ui h1.1.1 (bI_top _)) d hd)
  refine z_C_mono (zC_and d kx cc) (fun r μ1 qq => ?_)
  obtain ⟨⟨q1, qM⟩, q2⟩ := qq
  have eM : EqM μ (z_ui μ1 50 0 0) := eqM_tr qM (t0_EqM μ1 0)
  have m2 := mm μ1 q1 qM
  rcases q2 with ⟨b1, -, -⟩ | ⟨-, μj, ⟨j1, j2, j3, j4⟩, b2⟩
  · rw [P.px] at b1; exact absurd b1 (by decide)
  · have eb := fun (V : zM) hV => wb1 (b := bq V) R P H hA hc hf4 hdl4 hrd2 j4 hV
    rcases b2 with ⟨b3, b4, b5⟩ | ⟨b3, b4, b5⟩
    · refine go_in q1 km b4 (X := μ) (by rw [b5]; exact wo_EqX j2) (z_C_mono m2 (fun r μ' z => ?_))
      obtain ⟨V, hV, z⟩ := z
      have e0 : μj.1 4 0 = V.1 50 13 := (eb V hV).1
      rcases z with ⟨_, z2, z3⟩ | ⟨z1, -, -⟩
      · exact ⟨z2, hR.cg (eqX_rf _) (eqM_tr eM (sm_EqM z3))⟩
      · rw [← e0, b3] at z1; cases z1
    · refine go_in q1 km b4 (X := wn1 μj 1 dl ((dl + 1) % 4) 2 3 0) (by rw [b5]; exact eqX_rf _) (z_C_mono m2 (fun r μ' z => ?_))
      obtain ⟨V, hV, z⟩ := z
      have e0 : μj.1 4 0 = V.1 50 13 := (eb V hV).1
      rcases z with ⟨z1, -, -⟩ | ⟨_, z2, z3⟩
      · rw [← e0, b3] at z1; cases z1
      · refine ⟨z2, RG.cg (eqX_rf _) (sm_EqM z3) ?_⟩
        have P' := P.cg (wo_EqX j2) qM
        exact rg_win1_1 (R.cg (wo_EqX j2) qM) P'.fo (P'.tx.trans P'.tm.symm) ((qM 50 40 (Or.inr ⟨rfl, by decide, by decide⟩)).1.trans hdl) hdl4 rfl e0 (eb V hV).2.1 (eb V hV).2.2 j1
theorem lg_win1_0 {d : Nat} (hd : 705 ≤ d) {μ : zM} (hJ : LJ μ) (hR : RG μ μ) {c dl : Nat} (P : RPh μ μ 1 1 c) (hc : c < 34) (hdl4 : dl < 4) (hdl : μ.1 50 40 = nI dl) (heq : dl ≠ 1) (kx : z_C d mi_X6_win [.ref 0] μ (fun _ μ' => LJ μ' ∧ EqM μ μ')) (km : ∀ μ1, LJ μ1 → z_C d mi_X7_win [.ref 50] μ1 (fun _ μ' => LJ μ' ∧ EqX μ1 μ')) : GO d mi_X6_win mi_X7_win [.ref 0] [.ref 50] μ := by
  have hA := hJ.1.1
  have R := hR.1
  have hp1 : μ.1 50 44 = 1 := P.pm
  have G := hJ.1.2.2 (by rw [hp1]; decide)
  obtain ⟨w, aw, q, sL, lL, H⟩ := hf_of R P hA G P.t4
  have cx : μ.1 0 15 = nI c := P.cx.trans (if_neg (by omega))
  have cm : μ.1 50 49 = nI c := P.cm.trans (if_neg (by omega))
  obtain ⟨f, hf4, hf47⟩ := i_nat (v := μ.1 50 47) (n := 4) (hA 50 47).1 (hA 50 47).2 (by decide)
  obtain ⟨rd, hrd2, hrd⟩ : ∃ rd, rd < 2 ∧ μ.1 50 41 = nI rd := by
    rcases R.rd with e | e
    · exact ⟨0, by decide, e⟩
    · exact ⟨1, by decide, e⟩
  have cc := gc_win0 d (by omega) μ 1 dl ((dl + 1) % 4) c 2 3 0 (by decide) P.tx hdl4 rfl hc cx (by decide) (by decide) (by decide) (by decide) (by decide) (by decide) (fun e => heq e.symm) (fun μj => μj.1 0 15 = nI c ∧ WOj μ μj ∧ a_H μj ∧ BX w aw q c sL lL true (toX μ μ 1) (wiN 1 dl rd) (deM μ 1 w q f) (bqJ μj)) (fun m z => ⟨(z.2.1 0 8 (Or.inl (by decide))).1.trans P.tx, (z.2.1 0 9 (Or.inl (by decide))).1.trans (R.dl.trans hdl), (z.2.1 0 6 (Or.inl (by decide))).1.trans (R.wc.trans P.w0)⟩) (wx1 R P H hA hA hc hf4 hf47 hdl hrd)
  have mm : ∀ μ1, LJ μ1 → EqM μ μ1 → z_C d mi_X7_win [.ref 50] μ1 (fun r μ' => ∃ V, BM w q c sL lL true (tM1 (μ.1 67 1) (μ.1 69 1) (122 - μ.1 50 47 - μ.1 50 46) (μ.1 50 58) (decide (μ.1 68 1 = 1)) (decide (nI 1 = μ.1 50 40)) (!decide (μ.1 50 56 = 0))) (wdM (nI dl) (nI 1)) (nI rd) (deM μ 1 w q f) (bq V) ∧ ((decide (V.1 50 13 = 0) = true ∧ r = some (.int 0) ∧ SMj (z_ui μ1 50 0 0) μ') ∨ (decide (V.1 50 13 = 0) = false ∧ r = some (.int 1) ∧ SMj (wM1_0 μ1 V dl ((dl + 1) % 4) c) μ'))) := fun μ1 h1 qM => by
    have E : ∀ r k', gMc r k' → μ1.1 r k' = μ.1 r k' := fun r k' g => (qM r k' g).1
    exact gm_win1_0 d (by omega) μ1 h1.1.1 dl ((dl + 1) % 4) c ((E 50 45 (Or.inr ⟨rfl, by decide, by decide⟩)).trans P.tm) ((E 50 40 (Or.inr ⟨rfl, by decide, by decide⟩)).trans hdl) hdl4 rfl heq hc ((E 50 49 (Or.inr ⟨rfl, by decide, by decide⟩)).trans cm) (by rw [E 50 44 (Or.inr ⟨rfl, by decide, by decide⟩), hp1]; decide) (by rw [E 50 57 (Or.inr ⟨rfl, by decide, by decide⟩), P.jc rfl, if_neg (by omega)]; decide) _ (fun d hd => wmD1 P.t4 H hA hc hf4 hf47 hdl hrd _ (EqM_SVl (eqM_tr qM (t0_EqM μ1 0))) (a_H_ui h1.1.1 (bI_top _)) d hd)
  refine z_C_mono (zC_and d kx cc) (fun r μ1 qq => ?_)
  obtain ⟨⟨q1, qM⟩, q2⟩ := qq
  have eM : EqM μ (z_ui μ1 50 0 0) := eqM_tr qM (t0_EqM μ1 0)
  have m2 := mm μ1 q1 qM
  rcases q2 with ⟨b1, -, -⟩ | ⟨-, μj, ⟨j1, j2, j3, j4⟩, b2⟩
  · rw [P.px] at b1; exact absurd b1 (by decide)
  · have eb := fun (V : zM) hV => wb1 (b := bq V) R P H hA hc hf4 hdl4 hrd2 j4 hV
    rcases b2 with ⟨b3, b4, b5⟩ | ⟨b3, b4, b5⟩
    · refine go_in q1 km b4 (X := μ) (by rw [b5]; exact wo_EqX j2) (z_C_mono m2 (fun r μ' z => ?_))
      obtain ⟨V, hV, z⟩ := z
      have e0 : μj.1 4 0 = V.1 50 13 := (eb V hV).1
      rcases z with ⟨_, z2, z3⟩ | ⟨z1, -, -⟩
      · exact ⟨z2, hR.cg (eqX_rf _) (eqM_tr eM (sm_EqM z3))⟩
      · rw [← e0, b3] at z1; cases z1
    · refine go_in q1 km b4 (X := wn0 μj 1 dl ((dl + 1) % 4) 2 3 0) (by rw [b5]; exact eqX_rf _) (z_C_mono m2 (fun r μ' z => ?_))
      obtain ⟨V, hV, z⟩ := z
      have e0 : μj.1 4 0 = V.1 50 13 := (eb V hV).1
      rcases z with ⟨z1, -, -⟩ | ⟨_, z2, z3⟩
      · rw [← e0, b3] at z1; cases z1
      · refine ⟨z2, RG.cg (eqX_rf _) (sm_EqM z3) ?_⟩
        have P' := P.cg (wo_EqX j2) qM
        exact rg_win1_0 (R.cg (wo_EqX j2) qM) P'.fo (P'.tx.trans P'.tm.symm) ((qM 50 40 (Or.inr ⟨rfl, by decide, by decide⟩)).1.trans hdl) hdl4 rfl e0 (eb V hV).2.1 (eb V hV).2.2 j1
theorem lg_win2_1 {d : Nat} (hd : 705 ≤ d) {μ : zM} (hJ : LJ μ) (hR : RG μ μ) {c dl : Nat} (P : RPh μ μ 1 2 c) (hc : c < 34) (hdl4 : dl < 4) (hdl : μ.1 50 40 = nI dl) (heq : dl = 2) (kx : z_C d mi_X6_win [.ref 0] μ (fun _ μ' => LJ μ' ∧ EqM μ μ')) (km : ∀ μ1, LJ μ1 → z_C d mi_X7_win [.ref 50] μ1 (fun _ μ' => LJ μ' ∧ EqX μ1 μ')) : GO d mi_X6_win mi_X7_win [.ref 0] [.ref 50] μ := by
  have hA := hJ.1.1
  have R := hR.1
  have hp1 : μ.1 50 44 = 1 := P.pm
  have G := hJ.1.2.2 (by rw [hp1]; decide)
  obtain ⟨w, aw, q, sL, lL, H⟩ := hf_of R P hA G P.t4
  have cx : μ.1 0 15 = nI c := P.cx.trans (if_neg (by omega))
  have cm : μ.1 50 49 = nI c := P.cm.trans (if_neg (by omega))
  obtain ⟨f, hf4, hf47⟩ := i_nat (v := μ.1 50 47) (n := 4) (hA 50 47).1 (hA 50 47).2 (by decide)
  obtain ⟨rd, hrd2, hrd⟩ : ∃ rd, rd < 2 ∧ μ.1 50 41 = nI rd := by
    rcases R.rd with e | e
    · exact ⟨0, by decide, e⟩
    · exact ⟨1, by decide, e⟩
  have cc := gc_win1 d (by omega) μ 2 dl ((dl + 1) % 4) c 3 0 1 (by decide) P.tx hdl4 rfl hc cx (by decide) (by decide) (by decide) (by decide) (by decide) (by decide) heq.symm (fun μj => μj.1 0 15 = nI c ∧ WOj μ μj ∧ a_H μj ∧ BX w aw q c sL lL true (toX μ μ 2) (wiN 2 dl rd) (deM μ 2 w q f) (bqJ μj)) (fun m z => ⟨(z.2.1 0 8 (Or.inl (by decide))).1.trans P.tx, (z.2.1 0 9 (Or.inl (by decide))).1.trans (R.dl.trans hdl), (z.2.1 0 6 (Or.inl (by decide))).1.trans (R.wc.trans P.w0)⟩) (wx1 R P H hA hA hc hf4 hf47 hdl hrd)
  have mm : ∀ μ1, LJ μ1 → EqM μ μ1 → z_C d mi_X7_win [.ref 50] μ1 (fun r μ' => ∃ V, BM w q c sL lL true (tM1 (μ.1 67 2) (μ.1 69 2) (122 - μ.1 50 47 - μ.1 50 46) (μ.1 50 58) (decide (μ.1 68 2 = 1)) (decide (nI 2 = μ.1 50 40)) (!decide (μ.1 50 56 = 0))) (wdM (nI dl) (nI 2)) (nI rd) (deM μ 2 w q f) (bq V) ∧ ((decide (V.1 50 13 = 0) = true ∧ r = some (.int 0) ∧ SMj (z_ui μ1 50 0 0) μ') ∨ (decide (V.1 50 13 = 0) = false ∧ r = some (.int 1) ∧ SMj (wM2_1 μ1 V dl ((dl + 1) % 4) c) μ'))) := fun μ1 h1 qM => by
    have E : ∀ r k', gMc r k' → μ1.1 r k' = μ.1 r k' := fun r k' g => (qM r k' g).1
    exact gm_win2_1 d (by omega) μ1 h1.1.1 dl ((dl + 1) % 4) c ((E 50 45 (Or.inr ⟨rfl, by decide, by decide⟩)).trans P.tm) ((E 50 40 (Or.inr ⟨rfl, by decide, by decide⟩)).trans hdl) hdl4 rfl heq hc ((E 50 49 (Or.inr ⟨rfl, by decide, by decide⟩)).trans cm) (by rw [E 50 44 (Or.inr ⟨rfl, by decide, by decide⟩), hp1]; decide) (by rw [E 50 57 (Or.inr ⟨rfl, by decide, by decide⟩), P.jc rfl, if_neg (by omega)]; decide) _ (fun d hd => wmD1 P.t4 H hA hc hf4 hf47 hdl hrd _ (EqM_SVl (eqM_tr qM (t0_EqM μ1 0))) (a_H_ui h1.1.1 (bI_top _)) d hd)
  refine z_C_mono (zC_and d kx cc) (fun r μ1 qq => ?_)
  obtain ⟨⟨q1, qM⟩, q2⟩ := qq
  have eM : EqM μ (z_ui μ1 50 0 0) := eqM_tr qM (t0_EqM μ1 0)
  have m2 := mm μ1 q1 qM
  rcases q2 with ⟨b1, -, -⟩ | ⟨-, μj, ⟨j1, j2, j3, j4⟩, b2⟩
  · rw [P.px] at b1; exact absurd b1 (by decide)
  · have eb := fun (V : zM) hV => wb1 (b := bq V) R P H hA hc hf4 hdl4 hrd2 j4 hV
    rcases b2 with ⟨b3, b4, b5⟩ | ⟨b3, b4, b5⟩
    · refine go_in q1 km b4 (X := μ) (by rw [b5]; exact wo_EqX j2) (z_C_mono m2 (fun r μ' z => ?_))
      obtain ⟨V, hV, z⟩ := z
      have e0 : μj.1 4 0 = V.1 50 13 := (eb V hV).1
      rcases z with ⟨_, z2, z3⟩ | ⟨z1, -, -⟩
      · exact ⟨z2, hR.cg (eqX_rf _) (eqM_tr eM (sm_EqM z3))⟩
      · rw [← e0, b3] at z1; cases z1
    · refine go_in q1 km b4 (X := wn1 μj 2 dl ((dl + 1) % 4) 3 0 1) (by rw [b5]; exact eqX_rf _) (z_C_mono m2 (fun r μ' z => ?_))
      obtain ⟨V, hV, z⟩ := z
      have e0 : μj.1 4 0 = V.1 50 13 := (eb V hV).1
      rcases z with ⟨z1, -, -⟩ | ⟨_, z2, z3⟩
      · rw [← e0, b3] at z1; cases z1
      · refine ⟨z2, RG.cg (eqX_rf _) (sm_EqM z3) ?_⟩
        have P' := P.cg (wo_EqX j2) qM
        exact rg_win2_1 (R.cg (wo_EqX j2) qM) P'.fo (P'.tx.trans P'.tm.symm) ((qM 50 40 (Or.inr ⟨rfl, by decide, by decide⟩)).1.trans hdl) hdl4 rfl e0 (eb V hV).2.1 (eb V hV).2.2 j1
theorem lg_win2_0 {d : Nat} (hd : 705 ≤ d) {μ : zM} (hJ : LJ μ) (hR : RG μ μ) {c dl : Nat} (P : RPh μ μ 1 2 c) (hc : c < 34) (hdl4 : dl < 4) (hdl : μ.1 50 40 = nI dl) (heq : dl ≠ 2) (kx : z_C d mi_X6_win [.ref 0] μ (fun _ μ' => LJ μ' ∧ EqM μ μ')) (km : ∀ μ1, LJ μ1 → z_C d mi_X7_win [.ref 50] μ1 (fun _ μ' => LJ μ' ∧ EqX μ1 μ')) : GO d mi_X6_win mi_X7_win [.ref 0] [.ref 50] μ := by
  have hA := hJ.1.1
  have R := hR.1
  have hp1 : μ.1 50 44 = 1 := P.pm
  have G := hJ.1.2.2 (by rw [hp1]; decide)
  obtain ⟨w, aw, q, sL, lL, H⟩ := hf_of R P hA G P.t4
  have cx : μ.1 0 15 = nI c := P.cx.trans (if_neg (by omega))
  have cm : μ.1 50 49 = nI c := P.cm.trans (if_neg (by omega))
  obtain ⟨f, hf4, hf47⟩ := i_nat (v := μ.1 50 47) (n := 4) (hA 50 47).1 (hA 50 47).2 (by decide)
  obtain ⟨rd, hrd2, hrd⟩ : ∃ rd, rd < 2 ∧ μ.1 50 41 = nI rd := by
    rcases R.rd with e | e
    · exact ⟨0, by decide, e⟩
    · exact ⟨1, by decide, e⟩
  have cc := gc_win0 d (by omega) μ 2 dl ((dl + 1) % 4) c 3 0 1 (by decide) P.tx hdl4 rfl hc cx (by decide) (by decide) (by decide) (by decide) (by decide) (by decide) (fun e => heq e.symm) (fun μj => μj.1 0 15 = nI c ∧ WOj μ μj ∧ a_H μj ∧ BX w aw q c sL lL true (toX μ μ 2) (wiN 2 dl rd) (deM μ 2 w q f) (bqJ μj)) (fun m z => ⟨(z.2.1 0 8 (Or.inl (by decide))).1.trans P.tx, (z.2.1 0 9 (Or.inl (by decide))).1.trans (R.dl.trans hdl), (z.2.1 0 6 (Or.inl (by decide))).1.trans (R.wc.trans P.w0)⟩) (wx1 R P H hA hA hc hf4 hf47 hdl hrd)
  have mm : ∀ μ1, LJ μ1 → EqM μ μ1 → z_C d mi_X7_win [.ref 50] μ1 (fun r μ' => ∃ V, BM w q c sL lL true (tM1 (μ.1 67 2) (μ.1 69 2) (122 - μ.1 50 47 - μ.1 50 46) (μ.1 50 58) (decide (μ.1 68 2 = 1)) (decide (nI 2 = μ.1 50 40)) (!decide (μ.1 50 56 = 0))) (wdM (nI dl) (nI 2)) (nI rd) (deM μ 2 w q f) (bq V) ∧ ((decide (V.1 50 13 = 0) = true ∧ r = some (.int 0) ∧ SMj (z_ui μ1 50 0 0) μ') ∨ (decide (V.1 50 13 = 0) = false ∧ r = some (.int 1) ∧ SMj (wM2_0 μ1 V dl ((dl + 1) % 4) c) μ'))) := fun μ1 h1 qM => by
    have E : ∀ r k', gMc r k' → μ1.1 r k' = μ.1 r k' := fun r k' g => (qM r k' g).1
    exact gm_win2_0 d (by omega) μ1 h1.1.1 dl ((dl + 1) % 4) c ((E 50 45 (Or.inr ⟨rfl, by decide, by decide⟩)).trans P.tm) ((E 50 40 (Or.inr ⟨rfl, by decide, by decide⟩)).trans hdl) hdl4 rfl heq hc ((E 50 49 (Or.inr ⟨rfl, by decide, by decide⟩)).trans cm) (by rw [E 50 44 (Or.inr ⟨rfl, by decide, by decide⟩), hp1]; decide) (by rw [E 50 57 (Or.inr ⟨rfl, by decide, by decide⟩), P.jc rfl, if_neg (by omega)]; decide) _ (fun d hd => wmD1 P.t4 H hA hc hf4 hf47 hdl hrd _ (EqM_SVl (eqM_tr qM (t0_EqM μ1 0))) (a_H_ui h1.1.1 (bI_top _)) d hd)
  refine z_C_mono (zC_and d kx cc) (fun r μ1 qq => ?_)
  obtain ⟨⟨q1, qM⟩, q2⟩ := qq
  have eM : EqM μ (z_ui μ1 50 0 0) := eqM_tr qM (t0_EqM μ1 0)
  have m2 := mm μ1 q1 qM
  rcases q2 with ⟨b1, -, -⟩ | ⟨-, μj, ⟨j1, j2, j3, j4⟩, b2⟩
  · rw [P.px] at b1; exact absurd b1 (by decide)
  · have eb := fun (V : zM) hV => wb1 (b := bq V) R P H hA hc hf4 hdl4 hrd2 j4 hV
    rcases b2 with ⟨b3, b4, b5⟩ | ⟨b3, b4, b5⟩
    · refine go_in q1 km b4 (X := μ) (by rw [b5]; exact wo_EqX j2) (z_C_mono m2 (fun r μ' z => ?_))
      obtain ⟨V, hV, z⟩ := z
      have e0 : μj.1 4 0 = V.1 50 13 := (eb V hV).1
      rcases z with ⟨_, z2, z3⟩ | ⟨z1, -, -⟩
      · exact ⟨z2, hR.cg (eqX_rf _) (eqM_tr eM (sm_EqM z3))⟩
      · rw [← e0, b3] at z1; cases z1
    · refine go_in q1 km b4 (X := wn0 μj 2 dl ((dl + 1) % 4) 3 0 1) (by rw [b5]; exact eqX_rf _) (z_C_mono m2 (fun r μ' z => ?_))
      obtain ⟨V, hV, z⟩ := z
      have e0 : μj.1 4 0 = V.1 50 13 := (eb V hV).1
      rcases z with ⟨z1, -, -⟩ | ⟨_, z2, z3⟩
      · rw [← e0, b3] at z1; cases z1
      · refine ⟨z2, RG.cg (eqX_rf _) (sm_EqM z3) ?_⟩
        have P' := P.cg (wo_EqX j2) qM
        exact rg_win2_0 (R.cg (wo_EqX j2) qM) P'.fo (P'.tx.trans P'.tm.symm) ((qM 50 40 (Or.inr ⟨rfl, by decide, by decide⟩)).1.trans hdl) hdl4 rfl e0 (eb V hV).2.1 (eb V hV).2.2 j1
theorem lg_win3_1 {d : Nat} (hd : 705 ≤ d) {μ : zM} (hJ : LJ μ) (hR : RG μ μ) {c dl : Nat} (P : RPh μ μ 1 3 c) (hc : c < 34) (hdl4 : dl < 4) (hdl : μ.1 50 40 = nI dl) (heq : dl = 3) (kx : z_C d mi_X6_win [.ref 0] μ (fun _ μ' => LJ μ' ∧ EqM μ μ')) (km : ∀ μ1, LJ μ1 → z_C d mi_X7_win [.ref 50] μ1 (fun _ μ' => LJ μ' ∧ EqX μ1 μ')) : GO d mi_X6_win mi_X7_win [.ref 0] [.ref 50] μ := by
  have hA := hJ.1.1
  have R := hR.1
  have hp1 : μ.1 50 44 = 1 := P.pm
  have G := hJ.1.2.2 (by rw [hp1]; decide)
  obtain ⟨w, aw, q, sL, lL, H⟩ := hf_of R P hA G P.t4
  have cx : μ.1 0 15 = nI c := P.cx.trans (if_neg (by omega))
  have cm : μ.1 50 49 = nI c := P.cm.trans (if_neg (by omega))
  obtain ⟨f, hf4, hf47⟩ := i_nat (v := μ.1 50 47) (n := 4) (hA 50 47).1 (hA 50 47).2 (by decide)
  obtain ⟨rd, hrd2, hrd⟩ : ∃ rd, rd < 2 ∧ μ.1 50 41 = nI rd := by
    rcases R.rd with e | e
    · exact ⟨0, by decide, e⟩
    · exact ⟨1, by decide, e⟩
  have cc := gc_win1 d (by omega) μ 3 dl ((dl + 1) % 4) c 0 1 2 (by decide) P.tx hdl4 rfl hc cx (by decide) (by decide) (by decide) (by decide) (by decide) (by decide) heq.symm (fun μj => μj.1 0 15 = nI c ∧ WOj μ μj ∧ a_H μj ∧ BX w aw q c sL lL true (toX μ μ 3) (wiN 3 dl rd) (deM μ 3 w q f) (bqJ μj)) (fun m z => ⟨(z.2.1 0 8 (Or.inl (by decide))).1.trans P.tx, (z.2.1 0 9 (Or.inl (by decide))).1.trans (R.dl.trans hdl), (z.2.1 0 6 (Or.inl (by decide))).1.trans (R.wc.trans P.w0)⟩) (wx1 R P H hA hA hc hf4 hf47 hdl hrd)
  have mm : ∀ μ1, LJ μ1 → EqM μ μ1 → z_C d mi_X7_win [.ref 50] μ1 (fun r μ' => ∃ V, BM w q c sL lL true (tM1 (μ.1 67 3) (μ.1 69 3) (122 - μ.1 50 47 - μ.1 50 46) (μ.1 50 58) (decide (μ.1 68 3 = 1)) (decide (nI 3 = μ.1 50 40)) (!decide (μ.1 50 56 = 0))) (wdM (nI dl) (nI 3)) (nI rd) (deM μ 3 w q f) (bq V) ∧ ((decide (V.1 50 13 = 0) = true ∧ r = some (.int 0) ∧ SMj (z_ui μ1 50 0 0) μ') ∨ (decide (V.1 50 13 = 0) = false ∧ r = some (.int 1) ∧ SMj (wM3_1 μ1 V dl ((dl + 1) % 4) c) μ'))) := fun μ1 h1 qM => by
    have E : ∀ r k', gMc r k' → μ1.1 r k' = μ.1 r k' := fun r k' g => (qM r k' g).1
    exact gm_win3_1 d (by omega) μ1 h1.1.1 dl ((dl + 1) % 4) c ((E 50 45 (Or.inr ⟨rfl, by decide, by decide⟩)).trans P.tm) ((E 50 40 (Or.inr ⟨rfl, by decide, by decide⟩)).trans hdl) hdl4 rfl heq hc ((E 50 49 (Or.inr ⟨rfl, by decide, by decide⟩)).trans cm) (by rw [E 50 44 (Or.inr ⟨rfl, by decide, by decide⟩), hp1]; decide) (by rw [E 50 57 (Or.inr ⟨rfl, by decide, by decide⟩), P.jc rfl, if_neg (by omega)]; decide) _ (fun d hd => wmD1 P.t4 H hA hc hf4 hf47 hdl hrd _ (EqM_SVl (eqM_tr qM (t0_EqM μ1 0))) (a_H_ui h1.1.1 (bI_top _)) d hd)
  refine z_C_mono (zC_and d kx cc) (fun r μ1 qq => ?_)
  obtain ⟨⟨q1, qM⟩, q2⟩ := qq
  have eM : EqM μ (z_ui μ1 50 0 0) := eqM_tr qM (t0_EqM μ1 0)
  have m2 := mm μ1 q1 qM
  rcases q2 with ⟨b1, -, -⟩ | ⟨-, μj, ⟨j1, j2, j3, j4⟩, b2⟩
  · rw [P.px] at b1; exact absurd b1 (by decide)
  · have eb := fun (V : zM) hV => wb1 (b := bq V) R P H hA hc hf4 hdl4 hrd2 j4 hV
    rcases b2 with ⟨b3, b4, b5⟩ | ⟨b3, b4, b5⟩
    · refine go_in q1 km b4 (X := μ) (by rw [b5]; exact wo_EqX j2) (z_C_mono m2 (fun r μ' z => ?_))
      obtain ⟨V, hV, z⟩ := z
      have e0 : μj.1 4 0 = V.1 50 13 := (eb V hV).1
      rcases z with ⟨_, z2, z3⟩ | ⟨z1, -, -⟩
      · exact ⟨z2, hR.cg (eqX_rf _) (eqM_tr eM (sm_EqM z3))⟩
      · rw [← e0, b3] at z1; cases z1
    · refine go_in q1 km b4 (X := wn1 μj 3 dl ((dl + 1) % 4) 0 1 2) (by rw [b5]; exact eqX_rf _) (z_C_mono m2 (fun r μ' z => ?_))
      obtain ⟨V, hV, z⟩ := z
      have e0 : μj.1 4 0 = V.1 50 13 := (eb V hV).1
      rcases z with ⟨z1, -, -⟩ | ⟨_, z2, z3⟩
      · rw [← e0, b3] at z1; cases z1
      · refine ⟨z2, RG.cg (eqX_rf _) (sm_EqM z3) ?_⟩
        have P' := P.cg (wo_EqX j2) qM
        exact rg_win3_1 (R.cg (wo_EqX j2) qM) P'.fo (P'.tx.trans P'.tm.symm) ((qM 50 40 (Or.inr ⟨rfl, by decide, by decide⟩)).1.trans hdl) hdl4 rfl e0 (eb V hV).2.1 (eb V hV).2.2 j1
theorem lg_win3_0 {d : Nat} (hd : 705 ≤ d) {μ : zM} (hJ : LJ μ) (hR : RG μ μ) {c dl : Nat} (P : RPh μ μ 1 3 c) (hc : c < 34) (hdl4 : dl < 4) (hdl : μ.1 50 40 = nI dl) (heq : dl ≠ 3) (kx : z_C d mi_X6_win [.ref 0] μ (fun _ μ' => LJ μ' ∧ EqM μ μ')) (km : ∀ μ1, LJ μ1 → z_C d mi_X7_win [.ref 50] μ1 (fun _ μ' => LJ μ' ∧ EqX μ1 μ')) : GO d mi_X6_win mi_X7_win [.ref 0] [.ref 50] μ := by
  have hA := hJ.1.1
  have R := hR.1
  have hp1 : μ.1 50 44 = 1 := P.pm
  have G := hJ.1.2.2 (by rw [hp1]; decide)
  obtain ⟨w, aw, q, sL, lL, H⟩ := hf_of R P hA G P.t4
  have cx : μ.1 0 15 = nI c := P.cx.trans (if_neg (by omega))
  have cm : μ.1 50 49 = nI c := P.cm.trans (if_neg (by omega))
  obtain ⟨f, hf4, hf47⟩ := i_nat (v := μ.1 50 47) (n := 4) (hA 50 47).1 (hA 50 47).2 (by decide)
  obtain ⟨rd, hrd2, hrd⟩ : ∃ rd, rd < 2 ∧ μ.1 50 41 = nI rd := by
    rcases R.rd with e | e
    · exact ⟨0, by decide, e⟩
    · exact ⟨1, by decide, e⟩
  have cc := gc_win0 d (by omega) μ 3 dl ((dl + 1) % 4) c 0 1 2 (by decide) P.tx hdl4 rfl hc cx (by decide) (by decide) (by decide) (by decide) (by decide) (by decide) (fun e => heq e.symm) (fun μj => μj.1 0 15 = nI c ∧ WOj μ μj ∧ a_H μj ∧ BX w aw q c sL lL true (toX μ μ 3) (wiN 3 dl rd) (deM μ 3 w q f) (bqJ μj)) (fun m z => ⟨(z.2.1 0 8 (Or.inl (by decide))).1.trans P.tx, (z.2.1 0 9 (Or.inl (by decide))).1.trans (R.dl.trans hdl), (z.2.1 0 6 (Or.inl (by decide))).1.trans (R.wc.trans P.w0)⟩) (wx1 R P H hA hA hc hf4 hf47 hdl hrd)
  have mm : ∀ μ1, LJ μ1 → EqM μ μ1 → z_C d mi_X7_win [.ref 50] μ1 (fun r μ' => ∃ V, BM w q c sL lL true (tM1 (μ.1 67 3) (μ.1 69 3) (122 - μ.1 50 47 - μ.1 50 46) (μ.1 50 58) (decide (μ.1 68 3 = 1)) (decide (nI 3 = μ.1 50 40)) (!decide (μ.1 50 56 = 0))) (wdM (nI dl) (nI 3)) (nI rd) (deM μ 3 w q f) (bq V) ∧ ((decide (V.1 50 13 = 0) = true ∧ r = some (.int 0) ∧ SMj (z_ui μ1 50 0 0) μ') ∨ (decide (V.1 50 13 = 0) = false ∧ r = some (.int 1) ∧ SMj (wM3_0 μ1 V dl ((dl + 1) % 4) c) μ'))) := fun μ1 h1 qM => by
    have E : ∀ r k', gMc r k' → μ1.1 r k' = μ.1 r k' := fun r k' g => (qM r k' g).1
    exact gm_win3_0 d (by omega) μ1 h1.1.1 dl ((dl + 1) % 4) c ((E 50 45 (Or.inr ⟨rfl, by decide, by decide⟩)).trans P.tm) ((E 50 40 (Or.inr ⟨rfl, by decide, by decide⟩)).trans hdl) hdl4 rfl heq hc ((E 50 49 (Or.inr ⟨rfl, by decide, by decide⟩)).trans cm) (by rw [E 50 44 (Or.inr ⟨rfl, by decide, by decide⟩), hp1]; decide) (by rw [E 50 57 (Or.inr ⟨rfl, by decide, by decide⟩), P.jc rfl, if_neg (by omega)]; decide) _ (fun d hd => wmD1 P.t4 H hA hc hf4 hf47 hdl hrd _ (EqM_SVl (eqM_tr qM (t0_EqM μ1 0))) (a_H_ui h1.1.1 (bI_top _)) d hd)
  refine z_C_mono (zC_and d kx cc) (fun r μ1 qq => ?_)
  obtain ⟨⟨q1, qM⟩, q2⟩ := qq
  have eM : EqM μ (z_ui μ1 50 0 0) := eqM_tr qM (t0_EqM μ1 0)
  have m2 := mm μ1 q1 qM
  rcases q2 with ⟨b1, -, -⟩ | ⟨-, μj, ⟨j1, j2, j3, j4⟩, b2⟩
  · rw [P.px] at b1; exact absurd b1 (by decide)
  · have eb := fun (V : zM) hV => wb1 (b := bq V) R P H hA hc hf4 hdl4 hrd2 j4 hV
    rcases b2 with ⟨b3, b4, b5⟩ | ⟨b3, b4, b5⟩
    · refine go_in q1 km b4 (X := μ) (by rw [b5]; exact wo_EqX j2) (z_C_mono m2 (fun r μ' z => ?_))
      obtain ⟨V, hV, z⟩ := z
      have e0 : μj.1 4 0 = V.1 50 13 := (eb V hV).1
      rcases z with ⟨_, z2, z3⟩ | ⟨z1, -, -⟩
      · exact ⟨z2, hR.cg (eqX_rf _) (eqM_tr eM (sm_EqM z3))⟩
      · rw [← e0, b3] at z1; cases z1
    · refine go_in q1 km b4 (X := wn0 μj 3 dl ((dl + 1) % 4) 0 1 2) (by rw [b5]; exact eqX_rf _) (z_C_mono m2 (fun r μ' z => ?_))
      obtain ⟨V, hV, z⟩ := z
      have e0 : μj.1 4 0 = V.1 50 13 := (eb V hV).1
      rcases z with ⟨z1, -, -⟩ | ⟨_, z2, z3⟩
      · rw [← e0, b3] at z1; cases z1
      · refine ⟨z2, RG.cg (eqX_rf _) (sm_EqM z3) ?_⟩
        have P' := P.cg (wo_EqX j2) qM
        exact rg_win3_0 (R.cg (wo_EqX j2) qM) P'.fo (P'.tx.trans P'.tm.symm) ((qM 50 40 (Or.inr ⟨rfl, by decide, by decide⟩)).1.trans hdl) hdl4 rfl e0 (eb V hV).2.1 (eb V hV).2.2 j1
theorem lg_win {d : Nat} (hd : 705 ≤ d) {μ : zM} (h : LGm μ) : GO d mi_X6_win mi_X7_win [.ref 0] [.ref 50] μ := by
  obtain ⟨hJ, hR⟩ := h
  have kx : z_C d mi_X6_win [.ref 0] μ (fun _ μ' => LJ μ' ∧ EqM μ μ') := lg_k (i := 66) (K := ak_66) rfl (by omega) (by decide) (by decide) rfl (by decide) [.ref 0] μ hJ ⟨⟨0, by decide, rfl⟩, trivial⟩
  have km : ∀ μ1, LJ μ1 → z_C d mi_X7_win [.ref 50] μ1 (fun _ μ' => LJ μ' ∧ EqX μ1 μ') := fun μ1 h => lg_e h (fc_X7_win d (by omega) μ1 h.1.1 h.1.2.1 (fun h1 h2 => (h.1.2.2 (by rw [h1]; decide)).2.2.2.2.1 (fun _ => h2)))
  have hA := hJ.1.1
  rcases hR.2 with ⟨p1, p2, -, -, -⟩ | ⟨p, t, c, P⟩
  · exact go_no hR kx km (gx_winP d (by omega) μ (by rw [p1]; decide)) (mr_winP d (by omega) μ (by rw [p2]; decide))
  by_cases hp : p = 1
  · subst hp
    rcases P.c3 with hc | ⟨hc, _⟩
    · obtain ⟨dl, hdl4, hdl⟩ := dealer_nI hA
      obtain rfl | rfl | rfl | rfl := t_four P.t4
      · by_cases he : dl = 0
        · exact lg_win0_1 hd hJ hR P hc hdl4 hdl he kx km
        · exact lg_win0_0 hd hJ hR P hc hdl4 hdl he kx km
      · by_cases he : dl = 1
        · exact lg_win1_1 hd hJ hR P hc hdl4 hdl he kx km
        · exact lg_win1_0 hd hJ hR P hc hdl4 hdl he kx km
      · by_cases he : dl = 2
        · exact lg_win2_1 hd hJ hR P hc hdl4 hdl he kx km
        · exact lg_win2_0 hd hJ hR P hc hdl4 hdl he kx km
      · by_cases he : dl = 3
        · exact lg_win3_1 hd hJ hR P hc hdl4 hdl he kx km
        · exact lg_win3_0 hd hJ hR P hc hdl4 hdl he kx km
    · exact go_no hR kx km (gx_winT d (by omega) μ (by rw [P.px]; decide) (by rw [P.cx, if_pos hc]; decide)) (mr_winT d (by omega) μ (by rw [P.pm]; decide) (by rw [P.jc rfl, if_pos hc]; decide))
  · have e : ∀ v : Int32, v = nI p → decide (v = 1) = false := fun v hv => by
      rcases P.p3 with q | q | q
      · exact absurd q hp
      · rw [hv, q]; decide
      · rw [hv, q]; decide
    exact go_no hR kx km (gx_winP d (by omega) μ (e _ P.px)) (mr_winP d (by omega) μ (e _ P.pm))

/-! add answers alike -/
set_option maxRecDepth 8000
theorem cn_and {α : Type} (a b : Bool) (y t : α) : (bif a then (bif b then y else t) else t) = (bif (a && b) then y else t) := by cases a <;> cases b <;> rfl
def xdF (μ : zM) (t k i : Nat) : Bool := decide (μ.1 (22 + 8 * t) i = 1) && decide (μ.1 (23 + 8 * t) i = nI k)
theorem first_or (f : Nat → Bool) : ∀ q, (∃ i, i < q ∧ f i = true ∧ ∀ j, j < i → f j = false) ∨ ∀ j, j < q → f j = false
  | 0 => Or.inr (fun j h => absurd h (by omega))
  | q + 1 => by
    rcases first_or f q with ⟨i, h1, h2, h3⟩ | h
    · exact Or.inl ⟨i, by omega, h2, h3⟩
    · cases e : f q with
      | true => exact Or.inl ⟨q, by omega, e, h⟩
      | false => exact Or.inr (fun j hj => by
          by_cases e2 : j = q
          · rw [e2]; exact e
          · exact h j (by omega))
theorem at_yes {μ : zM} {t k q i : Nat} (ht : t < 4) (hk : k < 34) (hq : q ≤ 4) (e4 : μ.1 (19 + 8 * t) 4 = nI q) (hf : decide (fr μ (20 + 8 * t) (nI k) = 0) = false) (hi : i < q) (hfi : xdF μ t k i = true) (hfj : ∀ j, j < i → xdF μ t k j = false) : ∀ d, 3 ≤ d → z_C d mi_X3_addToThree [.ref (19 + 8 * t), .int (nI k)] μ (fun r μ' => r = some (.int (nB true)) ∧ μ' = z_ui (z_ui (z_ui μ (22 + 8 * t) i 2) (20 + 8 * t) k ((μ.1 (20 + 8 * t) k) - 1)) (19 + 8 * t) 5 ((μ.1 (19 + 8 * t) 5) - 1)) := by
  intro d hd
  have z := gc_addToThree d hd μ t ht k hk
  unfold aTm at z
  simp only [cn_and] at z
  have L0 : decide (nI q ≤ (0 : Int32)) = decide (q ≤ 0) := nI_le2 (b := 0) (by omega) (by decide)
  have L1 : decide (nI q ≤ (1 : Int32)) = decide (q ≤ 1) := nI_le2 (b := 1) (by omega) (by decide)
  have L2 : decide (nI q ≤ (2 : Int32)) = decide (q ≤ 2) := nI_le2 (b := 2) (by omega) (by decide)
  have L3 : decide (nI q ≤ (3 : Int32)) = decide (q ≤ 3) := nI_le2 (b := 3) (by omega) (by decide)
  rw [hf, e4, L0, L1, L2, L3] at z
  unfold xdF at hfi hfj
  obtain rfl | rfl | rfl | rfl : i = 0 ∨ i = 1 ∨ i = 2 ∨ i = 3 := by omega
  · rw [decide_eq_false (show ¬ q ≤ 0 by omega), hfi] at z
    simp only [cond_true, cond_false] at z
    exact z
  · rw [decide_eq_false (show ¬ q ≤ 0 by omega), hfj 0 (by omega), decide_eq_false (show ¬ q ≤ 1 by omega), hfi] at z
    simp only [cond_true, cond_false] at z
    exact z
  · rw [decide_eq_false (show ¬ q ≤ 0 by omega), hfj 0 (by omega), decide_eq_false (show ¬ q ≤ 1 by omega), hfj 1 (by omega), decide_eq_false (show ¬ q ≤ 2 by omega), hfi] at z
    simp only [cond_true, cond_false] at z
    exact z
  · rw [decide_eq_false (show ¬ q ≤ 0 by omega), hfj 0 (by omega), decide_eq_false (show ¬ q ≤ 1 by omega), hfj 1 (by omega), decide_eq_false (show ¬ q ≤ 2 by omega), hfj 2 (by omega), decide_eq_false (show ¬ q ≤ 3 by omega), hfi] at z
    simp only [cond_true, cond_false] at z
    exact z
theorem at_none {μ : zM} {t k q : Nat} (ht : t < 4) (hk : k < 34) (hq : q ≤ 4) (e4 : μ.1 (19 + 8 * t) 4 = nI q) (hf : decide (fr μ (20 + 8 * t) (nI k) = 0) = false) (hfj : ∀ j, j < q → xdF μ t k j = false) : ∀ d, 3 ≤ d → z_C d mi_X3_addToThree [.ref (19 + 8 * t), .int (nI k)] μ (fun r μ' => r = some (.int (nB false)) ∧ μ' = μ) := by
  intro d hd
  have z := gc_addToThree d hd μ t ht k hk
  unfold aTm at z
  simp only [cn_and] at z
  have L0 : decide (nI q ≤ (0 : Int32)) = decide (q ≤ 0) := nI_le2 (b := 0) (by omega) (by decide)
  have L1 : decide (nI q ≤ (1 : Int32)) = decide (q ≤ 1) := nI_le2 (b := 1) (by omega) (by decide)
  have L2 : decide (nI q ≤ (2 : Int32)) = decide (q ≤ 2) := nI_le2 (b := 2) (by omega) (by decide)
  have L3 : decide (nI q ≤ (3 : Int32)) = decide (q ≤ 3) := nI_le2 (b := 3) (by omega) (by decide)
  rw [hf, e4, L0, L1, L2, L3] at z
  unfold xdF at hfj
  obtain rfl | rfl | rfl | rfl | rfl : q = 0 ∨ q = 1 ∨ q = 2 ∨ q = 3 ∨ q = 4 := by omega
  · rw [decide_eq_true (show 0 ≤ 0 by omega)] at z
    simp only [cond_true, cond_false] at z
    exact z
  · rw [decide_eq_false (show ¬ 1 ≤ 0 by omega), hfj 0 (by omega), decide_eq_true (show 1 ≤ 1 by omega)] at z
    simp only [cond_true, cond_false] at z
    exact z
  · rw [decide_eq_false (show ¬ 2 ≤ 0 by omega), hfj 0 (by omega), decide_eq_false (show ¬ 2 ≤ 1 by omega), hfj 1 (by omega), decide_eq_true (show 2 ≤ 2 by omega)] at z
    simp only [cond_true, cond_false] at z
    exact z
  · rw [decide_eq_false (show ¬ 3 ≤ 0 by omega), hfj 0 (by omega), decide_eq_false (show ¬ 3 ≤ 1 by omega), hfj 1 (by omega), decide_eq_false (show ¬ 3 ≤ 2 by omega), hfj 2 (by omega), decide_eq_true (show 3 ≤ 3 by omega)] at z
    simp only [cond_true, cond_false] at z
    exact z
  · rw [decide_eq_false (show ¬ 4 ≤ 0 by omega), hfj 0 (by omega), decide_eq_false (show ¬ 4 ≤ 1 by omega), hfj 1 (by omega), decide_eq_false (show ¬ 4 ≤ 2 by omega), hfj 2 (by omega), decide_eq_false (show ¬ 4 ≤ 3 by omega), hfj 3 (by omega)] at z
    simp only [cond_true, cond_false] at z
    exact z
theorem xd_eq {x m : zM} (R : RCl x m) {t k i : Nat} (ht : t < 4) (hi : i < 4) : xdF x t k i = adF m t k i := by
  unfold xdF adF
  rw [R.so t i ht hi, R.lo t i ht hi]
theorem lg_add {d : Nat} (hd : 705 ≤ d) {μ : zM} (h : LGm μ) (x : Int32) : GO d mi_X6_add mi_X7_add [.ref 0, .int x] [.ref 50, .int x] μ := by
  obtain ⟨hJ, hR⟩ := h
  have kx : z_C d mi_X6_add [.ref 0, .int x] μ (fun _ μ' => LJ μ' ∧ EqM μ μ') := lg_k (i := 65) (K := ak_65) rfl (by omega) (by decide) (by decide) rfl (by decide) [.ref 0, .int x] μ hJ ⟨⟨0, by decide, rfl⟩, ⟨_, rfl, bI_top _⟩, trivial⟩
  have km : ∀ μ1, LJ μ1 → z_C d mi_X7_add [.ref 50, .int x] μ1 (fun _ μ' => LJ μ' ∧ EqX μ1 μ') := fun μ1 h1 => lg_g h1 (fc_X7_add d (by omega) μ1 x h1.1)
  have hA := hJ.1.1
  rcases hR.2 with ⟨p1, p2, p3, p4, p5⟩ | ⟨p, t, c, P⟩
  · obtain ⟨t, ht4, ht⟩ := turn_nI hA
    have e1 : xMM μ t = false := by unfold xMM; rw [p1]; rfl
    have e2 : mMM μ t = false := by unfold mMM; rw [p2]; rfl
    exact go_no hR kx km (gx_add d (by omega) μ x (xk_mm ht4 (p5.trans ht) e1)) (mr_add d (by omega) μ x (mk_mm ht4 ht e2))
  · have R := hR.1
    have ht4 := P.t4
    have eq := mm_eq R P
    cases hm : mMM μ t with
    | false => exact go_no hR kx km (gx_add d (by omega) μ x (xk_mm ht4 P.tx (eq.trans hm))) (mr_add d (by omega) μ x (mk_mm ht4 P.tm hm))
    | true =>
      have hx1 := xk_mm ht4 P.tx (eq.trans hm)
      have hm1 := mk_mm ht4 P.tm hm
      by_cases hv : vp_in x 34
      · obtain ⟨k, hk, rfl⟩ := vp_in_of hv (by decide)
        have hp0 : ¬ μ.1 50 44 = 0 := by rw [P.pm]; rcases P.p3 with q | q | q <;> (rw [q]; decide)
        have G := hJ.1.2.2 hp0
        obtain ⟨w, aw, q, sL, lL, H⟩ := hf_of R P hA G ht4
        have hwk := H.1.1 k hk
        have fx : fr μ (20 + 8 * t) (nI k) = nI (w k) := by rw [fr_yes hk, R.hd t k ht4 hk]; exact hwk.1
        have hp1 : p = 1 := by
          have z := hm
          unfold mMM at z
          have z := (z_and z).1
          have z := of_decide_eq_true z
          rw [P.pm] at z
          rcases P.p3 with q | q | q
          · exact q
          · rw [q] at z; exact absurd z (by decide)
          · rw [q] at z; exact absurd z (by decide)
        subst hp1
        have hq4 := H.1.2.2.1
        have z0 : decide (nI (w k) = 0) = decide (w k = 0) := nI_dec (a := w k) (b := 0) (by have := hwk.2; omega) (by decide)
        rcases first_or (adF μ t k) q with ⟨i, hi, hfi, hfj⟩ | hfj
        · have mm : ∀ μ1, EqM μ μ1 → z_C d mi_X7_add [.ref 50, .int (nI k)] μ1 (fun r μ' => ((true && !decide (μ1.1 60 (34 * t + k) = 0)) = true ∧ r = some (.int 1) ∧ μ' = adM (z_ui μ1 50 0 0) t k i) ∨ ((true && !decide (μ1.1 60 (34 * t + k) = 0)) = false ∧ r = some (.int 0) ∧ μ' = z_ui μ1 50 0 0)) := fun μ1 qM => by
            have E : ∀ r k', gMc r k' → μ1.1 r k' = μ.1 r k' := fun r k' g => (qM r k' g).1
            have aE : ∀ j, adF μ1 t k j = adF μ t k j := fun j => by unfold adF; rw [E 62 _ (Or.inl ⟨by decide, by decide⟩), E 63 _ (Or.inl ⟨by decide, by decide⟩)]
            exact gm_addF d (by omega) μ1 t ht4 ((E 50 45 (Or.inr ⟨rfl, by decide, by decide⟩)).trans P.tm) k q i hk hq4 ((E 64 t (Or.inl ⟨by decide, by decide⟩)).trans H.1.2.1) true (mk_mm ht4 ((E 50 45 (Or.inr ⟨rfl, by decide, by decide⟩)).trans P.tm) ((mMM_e qM).trans hm)) hi ((aE i).trans hfi) (fun j hj => (aE j).trans (hfj j hj))
          by_cases hw0 : w k = 0
          · have fz : decide (nI (w k) = 0) = true := z0.trans (decide_eq_true hw0)
            refine go_no hR kx km (gx_addF d (by omega) μ (nI k) t ht4 P.tx hx1 (fun d hd => z_C_mono (gx_atZ d hd μ t ht4 (nI k) (by rw [fx]; exact fz)) (fun r m z => ⟨z.2, z.1⟩))) (z_C_mono (mm μ (eqM_rf _)) (fun r μ' z => ?_))
            rcases z with ⟨z1, -, -⟩ | ⟨-, z2, z3⟩
            · rw [hwk.1, fz] at z1; cases z1
            · exact ⟨z2, z3⟩
          · have fz : decide (nI (w k) = 0) = false := z0.trans (decide_eq_false hw0)
            have cc := gc_add d (by omega) μ t ht4 P.tx k hk true hx1 true _ (at_yes ht4 hk hq4 H.2.2.2.1 (by rw [fx]; exact fz) hi ((xd_eq R ht4 (by omega)).trans hfi) (fun j hj => (xd_eq R ht4 (by omega)).trans (hfj j hj)))
            simp only [cond_true, cond_false] at cc
            refine go_yes (X := adX μ t k i) (y := 1) kx km (z_C_mono cc (fun r μ' z => ⟨z.1, by rw [z.2]; exact eqX_rf _⟩)) (fun μ1 h1 qM => z_C_mono (mm μ1 qM) (fun r μ' z => ?_))
            have eM : EqM μ (z_ui μ1 50 0 0) := eqM_tr qM (t0_EqM μ1 0)
            rcases z with ⟨-, z2, z3⟩ | ⟨z1, -, -⟩
            · refine ⟨z2, ?_⟩
              rw [z3]
              have R' := R.cg (eqX_rf _) eM
              have P' := P.cg (eqX_rf _) eM
              obtain ⟨f1, f2⟩ := z_and hfi
              refine ⟨rc_added R' ht4 hk hq4 hi ((eM 64 t (Or.inl ⟨by decide, by decide⟩)).1.trans H.1.2.1) ((eM 62 _ (Or.inl ⟨by decide, by decide⟩)).1.trans (of_decide_eq_true f1)) ((eM 63 _ (Or.inl ⟨by decide, by decide⟩)).1.trans (of_decide_eq_true f2)) (fun j hj => by rw [(eM 64 j (Or.inl ⟨by decide, by decide⟩)).1]; exact m4_of hA j hj), Or.inr ⟨3, t, k, rp_added P' hk (by omega) ?_ (all_ne H hk (by omega))⟩⟩
              rw [(eM 50 56 (Or.inr ⟨rfl, by decide, by decide⟩)).1]
              by_cases e : μ.1 50 56 = 0
              · exact e
              · exfalso
                have y := P.us e t ht4
                rw [H.1.2.1] at y
                have := (nI_eq (a := q) (b := 0) (by omega) (by decide)).mp y
                omega
            · exfalso
              rw [(qM 60 _ (Or.inl ⟨by decide, by decide⟩)).1, hwk.1, fz] at z1
              cases z1
        · have m2 := gm_addN d (by omega) μ t ht4 P.tm k q hk hq4 H.1.2.1 true hm1 hfj
          by_cases hw0 : w k = 0
          · have fz : decide (nI (w k) = 0) = true := z0.trans (decide_eq_true hw0)
            exact go_no hR kx km (gx_addF d (by omega) μ (nI k) t ht4 P.tx hx1 (fun d hd => z_C_mono (gx_atZ d hd μ t ht4 (nI k) (by rw [fx]; exact fz)) (fun r m z => ⟨z.2, z.1⟩))) m2
          · have fz : decide (nI (w k) = 0) = false := z0.trans (decide_eq_false hw0)
            exact go_no hR kx km (gx_addF d (by omega) μ (nI k) t ht4 P.tx hx1 (fun d hd => z_C_mono (at_none ht4 hk hq4 H.2.2.2.1 (by rw [fx]; exact fz) (fun j hj => (xd_eq R ht4 (by omega)).trans (hfj j hj)) d hd) (fun r m z => ⟨z.2, z.1⟩))) m2
      · exact go_no hR kx km (gx_addF d (by omega) μ x t ht4 P.tx hx1 (fun d hd => z_C_mono (gx_atZ d hd μ t ht4 x (by rw [fr_no hv]; decide)) (fun r m z => ⟨z.2, z.1⟩))) (mr_addK d (by omega) μ x hm1 (isK_no hv))

/-! laid, forms answer alike -/
set_option maxRecDepth 8000
theorem x_nat {x : Int32} {q : Nat} (hq : q ≤ 100) (h0 : decide (x < 0) = false) (h1 : decide (nI q ≤ x) = false) : ∃ i, i < q ∧ x = nI i := by
  have a : ¬ x.toInt < (0 : Int32).toInt := fun z => of_decide_eq_false h0 (Int32.lt_iff_toInt_lt.mpr z)
  have b : ¬ (nI q).toInt ≤ x.toInt := fun z => of_decide_eq_false h1 (Int32.le_iff_toInt_le.mpr z)
  rw [show (0 : Int32).toInt = 0 from by decide] at a
  rw [nI_toInt (by omega)] at b
  obtain ⟨i, hi, e⟩ := i_nat (v := x) (n := q) (by omega) (by omega) (by omega)
  refine ⟨i, ?_, e⟩
  rw [e, nI_toInt (by omega)] at b
  omega
theorem lg_laid {d : Nat} (hd : 705 ≤ d) {μ : zM} (h : LGm μ) (y x wh : Int32) : GO d mi_X6_laid mi_X7_laid [.ref 0, .int y, .int x, .int wh] [.ref 50, .int y, .int x, .int wh] μ := by
  have kq : z_C d mi_X7_laid [.ref 50, .int y, .int x, .int wh] μ (fun _ μ' => LJ μ') := z_C_mono (lj_k (i := 127) (K := ak_127) rfl (by omega) (by decide +kernel) (by decide +kernel) rfl [.ref 50, .int y, .int x, .int wh] μ h.1 ⟨⟨50, by decide, rfl⟩, ⟨_, rfl, bI_top _⟩, ⟨_, rfl, bI_top _⟩, ⟨_, rfl, bI_top _⟩, trivial⟩) (fun _ _ q => q.1)
  have R := h.2.1
  have hA := h.1.1.1
  by_cases hy : vp_in y 4
  · obtain ⟨s, hs, rfl⟩ := vp_in_of hy (by decide)
    obtain ⟨q, hq4, e64⟩ := i_nat (v := μ.1 64 s) (n := 4) (hA 64 s).1 (hA 64 s).2 (by decide)
    have z := gq_laid d (by omega) μ s hs x wh
    rw [R.lm s hs, e64] at z
    cases hx : decide (x < 0) with
    | true =>
      rw [hx] at z
      simp only [cond_true] at z
      exact q_go h z kq (gm_laidN d (by omega) μ s q hs hq4 e64 x wh hx)
    | false =>
      rw [hx] at z
      simp only [cond_false] at z
      cases hg : decide (nI q ≤ x) with
      | true =>
        rw [hg] at z
        simp only [cond_true] at z
        exact q_go h z kq (gm_laidG d (by omega) μ s q hs hq4 e64 x wh hx hg)
      | false =>
        obtain ⟨i, hi, e⟩ := x_nat (by omega) hx hg
        subst e
        have i4 : decide (nI i < 4) = true := (nI_lt2 (b := 4) (by omega) (by decide)).trans (decide_eq_true (by omega))
        rw [hg, i4, nI_clamp (by omega), R.so s i hs (by omega), R.lo s i hs (by omega)] at z
        simp only [cond_true, cond_false] at z
        by_cases w0 : wh = 0
        · subst w0
          rw [show decide ((0 : Int32) = 0) = true from by decide] at z
          simp only [cond_true] at z
          exact q_go h z kq (gm_laid0 d (by omega) μ s q hs hq4 e64 i hi)
        · rw [decide_eq_false w0] at z
          simp only [cond_false] at z
          by_cases w1 : wh = 1
          · subst w1
            rw [show decide ((1 : Int32) = 1) = true from by decide] at z
            simp only [cond_true] at z
            exact q_go h z kq (gm_laid1 d (by omega) μ s q hs hq4 e64 i hi)
          · rw [decide_eq_false w1] at z
            simp only [cond_false] at z
            cases hw : decide (wh < 0) with
            | true => exact q_go h z kq (gm_laidW d (by omega) μ s q hs hq4 e64 i hi wh hw)
            | false =>
              refine q_go h z kq (gm_laidV d (by omega) μ s q hs hq4 e64 i hi wh hw (decide_eq_false (fun c => ?_)))
              have a : ¬ wh.toInt < (0 : Int32).toInt := fun z => of_decide_eq_false hw (Int32.lt_iff_toInt_lt.mpr z)
              have b : wh.toInt ≤ (1 : Int32).toInt := Int32.le_iff_toInt_le.mp c
              rw [show (0 : Int32).toInt = 0 from by decide] at a
              rw [show (1 : Int32).toInt = 1 from by decide] at b
              obtain ⟨j, hj, e⟩ := i_nat (v := wh) (n := 1) (by omega) (by omega) (by decide)
              obtain e2 | e2 : j = 0 ∨ j = 1 := by omega
              · rw [e2] at e; exact w0 e
              · rw [e2] at e; exact w1 e
  · exact q_go h (gq_laid0 d (by omega) μ y x wh (sI_no hy)) kq (gm_laidS d (by omega) μ y x wh (isS_no hy))
noncomputable abbrev GOL (d j j' : Nat) (As As' : List Value) (μ : zM) : Prop := z_C d j As μ (fun r μ1 => LJ μ1 ∧ ∃ y : Int64, r = some (.long y) ∧ z_C d j' As' μ1 (fun r2 μ2 => LGm μ2 ∧ r2 = some (.long y)))
theorem q_goL {d j j' : Nat} {As As' : List Value} {μ : zM} (h : LGm μ) {v : Int64} (c1 : z_C d j As μ (fun r μ' => r = some (.long v) ∧ μ' = μ)) (kq : z_C d j' As' μ (fun _ μ' => LJ μ')) (c2 : z_C d j' As' μ (fun r μ' => r = some (.long v) ∧ μ' = z_ui μ 50 0 0)) : GOL d j j' As As' μ := z_C_mono c1 (fun r μ1 q => by
  obtain ⟨q1, rfl⟩ := q
  exact ⟨h.1, v, q1, z_C_mono (zC_and d kq c2) (fun r2 μ2 z => ⟨lg_no h.2 z.2.2 z.1, z.2.1⟩)⟩)
theorem isW_x {μ : zM} {x : Int32} {b : Bool} (h : (!(decide (x < 0)) && (!(decide ((μ.1 0 6) ≤ x)) && (!(decide (4 ≤ x))))) = b) : ∀ d, 2 ≤ d → z_C d mi_X6_isWin [.ref 0, .int x] μ (zR μ (.int (nB b))) := fun d hd => by
  rw [← h]; exact gc_isWin d hd μ x
theorem lg_forms {d : Nat} (hd : 705 ≤ d) {μ : zM} (h : LGm μ) (x : Int32) : GOL d mi_X6_forms mi_X7_forms [.ref 0, .int x] [.ref 50, .int x] μ := by
  have kq : z_C d mi_X7_forms [.ref 50, .int x] μ (fun _ μ' => LJ μ') := z_C_mono (lj_k (i := 132) (K := ak_132) rfl (by omega) (by decide +kernel) (by decide +kernel) rfl [.ref 50, .int x] μ h.1 ⟨⟨50, by decide, rfl⟩, ⟨_, rfl, bI_top _⟩, trivial⟩) (fun _ _ q => q.1)
  have R := h.2.1
  have hA := h.1.1.1
  obtain ⟨n, hn3, e53⟩ := i_nat (v := μ.1 50 53) (n := 3) (hA 50 53).1 (hA 50 53).2 (by decide)
  cases hx : decide (x < 0) with
  | true => exact q_goL h (gq_formsN d (by omega) μ x (isW_x (b := false) (by rw [hx]; rfl))) kq (gm_formsN d (by omega) μ x hx)
  | false =>
    cases hg : decide (nI n ≤ x) with
    | true =>
      refine q_goL h (gq_formsN d (by omega) μ x (isW_x (b := false) (by rw [R.wc, e53, hx, hg]; rfl))) kq (gm_formsG d (by omega) μ x hx ?_)
      rw [e53]
      refine decide_eq_false (fun c => ?_)
      have a := Int32.lt_iff_toInt_lt.mp c
      have b := Int32.le_iff_toInt_le.mp (of_decide_eq_true hg)
      omega
    | false =>
      obtain ⟨i, hi, e⟩ := x_nat (by omega) hx hg
      subst e
      have i4 : decide (4 ≤ nI i) = false := (nI_le2 (a := 4) (by decide) (by omega)).trans (decide_eq_false (by omega))
      have z := gq_formsI d (by omega) μ i (by omega) (isW_x (b := true) (by rw [R.wc, e53, hx, hg, i4]; rfl))
      rw [R.wf i (by omega)] at z
      exact q_goL h z kq (gm_formsI d (by omega) μ i n hi (by omega) e53)

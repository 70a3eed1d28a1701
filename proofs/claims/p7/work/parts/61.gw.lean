/-! a win by the tile drawn -/
theorem z_ald {xs : Nat × (Nat → Int32)} {np oc nL pc r : Nat} {i : Fin 4} {lv : zL} {st : List Value} {μ : zM} (h : z_lk lv i = some (.ref r)) : z_step xs np oc nL (.aload_n i) (pc, lv, st, μ) = some (pc + 1, lv, .ref r :: st, μ) := by
  have e : z_lv nL (.aload_n i) lv st = some (lv, .ref r :: st) := by
    show (match z_lk lv i with | some (.ref x) => some (lv, Value.ref x :: st) | _ => none) = _
    rw [h]
  show (match z_lv nL (.aload_n i) lv st with | some (lv', st') => some (pc + 1, lv', st', μ) | none => _) = _
  rw [e]
/-- the reckoning; all that the end of a hand may change -/
abbrev md_V : List (Nat × Nat) := [(50, 0), (50, 4), (50, 7), (50, 8), (50, 9), (50, 10), (50, 11), (50, 12), (50, 13), (50, 14), (50, 15), (50, 16), (50, 17), (50, 18), (50, 21), (50, 22), (50, 23), (50, 24), (50, 25), (51, 9999), (52, 9999), (53, 9999), (54, 9999), (55, 9999), (56, 9999), (57, 9999), (58, 9999)]
abbrev md_E : List (Nat × Nat) := [(50, 0), (50, 4), (50, 7), (50, 8), (50, 9), (50, 10), (50, 11), (50, 12), (50, 13), (50, 14), (50, 15), (50, 16), (50, 17), (50, 18), (50, 21), (50, 22), (50, 23), (50, 24), (50, 25), (51, 9999), (52, 9999), (53, 9999), (54, 9999), (55, 9999), (56, 9999), (57, 9999), (58, 9999), (50, 40), (50, 41), (50, 42), (50, 43), (50, 44), (50, 49), (50, 52), (50, 53), (50, 54), (50, 59), (61, 9999), (70, 9999), (72, 9999), (73, 9999), (79, 9999)]
def GST (μ μ1 : zM) : Prop := a_H μ1 ∧ GW μ1 ∧ a_Fz md_E μ μ1
def zPE (μ : zM) (r : Option Value) (μ' : zM) : Prop := (∃ x, r = some (.int x)) ∧ GST μ μ' ∧ (μ'.1 50 44 = 0 ∨ a_Fz md_V μ μ')
theorem GST.to {μ μ1 μ2 : zM} {md : List (Nat × Nat)} (h : GST μ μ1) (h1 : a_H μ2) (h2 : GW μ2) (h3 : a_Fz md μ1 μ2) (hm : a_mds md md_E = true) : GST μ μ2 := ⟨h1, h2, a_Fz_tr hm h.2.2 h3⟩
theorem seat_nI {μ : zM} (h : a_H μ) : ∃ a, a < 4 ∧ μ.1 50 45 = nI a := by
  obtain ⟨a, h1, h2⟩ := vp_in_of (vp_in_bI (n := 4) (b := (0, 3)) (h 50 45) (by decide)) (by decide)
  exact ⟨a, h1, h2⟩
theorem zh_X7_win : zH mi_X7_win zt_X7_win 79 7 4 := hh_X7_win
theorem fc_X7_win (d : Nat) (hd : 702 ≤ d) (μ : zM) (ha : a_H μ) (hg : GW μ) (hT : μ.1 50 44 = 1 → μ.1 50 57 = 0 → 0 ≤ (μ.1 50 49).toInt) : z_C d mi_X7_win [.ref 50] μ (zPE μ) := by
  refine z_C_in (by decide) (by omega) (fun d' Z ed hc hr => ?_)
  have hH := zh_X7_win
  have h0 : a_H (z_ui μ 50 0 0) := a_H_ui ha (bI_top _)
  have g0 : GW (z_ui μ 50 0 0) := GW_ne hg (by decide)
  have f0 : ∀ md, a_md md 50 0 = true → a_Fz md μ (z_ui μ 50 0 0) := fun md hm => a_Fz_ui (a_Fz_rf _ _) hm
  have r0 : ∀ x, zPE μ (some (.int x)) (z_ui μ 50 0 0) := fun x => ⟨⟨x, rfl⟩, ⟨h0, g0, f0 _ (by decide)⟩, Or.inr (f0 _ (by decide))⟩
  obtain ⟨a, ha4, ea⟩ := seat_nI ha
  have tl : ∀ (lv : zL) (μ1 : zM), z_lk lv 0 = some (.ref 50) → GST μ μ1 → Z 0 152 lv [] μ1 := by
    intro lv μ1 hl h1
    refine zq_st hc hH (by rfl) (z_ald hl) ?_
    refine zq_call hc (z_cx_ok hH (by rfl)) (fc_X7_takesBets d' (by omega) μ1 h1.1 h1.2.1) (by decide +kernel) (fun r9 μ9 hq => ?_)
    obtain ⟨rfl, q1, q2, q3⟩ := hq
    have h2 := h1.to q1 q2 q3 (by decide)
    clear q1 q2 q3
    have en : ∀ (x y : Int32), bI 0 1 x → bI 0 1 y → Z 0 189 lv [.int y, .int x, .ref 50] μ9 := by
      intro x y hx hy
      refine zq_call hc (z_cx_ok hH (by rfl)) (fc_X7_ends d' (by omega) μ9 x y hx hy h2.1) (by decide +kernel) (fun r8 μ8 hq => ?_)
      obtain ⟨rfl, q0, q1, q3⟩ := hq
      refine z_rcs hc hH 1 (pc' := 193) (lv' := lv) (st' := [.int 1]) (μ' := μ8) (by rfl) ?_
      exact hr 0 193 _ _ _ (some (.int 1)) (by decide +kernel) (by rfl) ⟨⟨1, rfl⟩, h2.to q1 (GW_keep h2.2.1 q3 (by decide)) q3 (by decide), Or.inl q0⟩
    have t0 : bI 0 1 0 := ⟨by decide, by decide⟩
    have t1 : bI 0 1 1 := ⟨by decide, by decide⟩
    show Z 0 156 lv [] μ9
    refine zq_st hc hH (pc := 156) (by rfl) (z_ald hl) ?_
    refine zq_st hc hH (pc := 157) (by rfl) (z_ald hl) ?_
    refine z_rcs hc hH 1 (pc' := 161) (lv' := lv) (st' := [.int (μ9.1 50 45), .ref 50]) (μ' := μ9) (by rfl) ?_
    refine zq_st hc hH (pc := 161) (by rfl) (z_ald hl) ?_
    refine z_rcs hc hH 1 (pc' := 165) (lv' := lv) (st' := [.int (μ9.1 50 40), .int (μ9.1 50 45), .ref 50]) (μ' := μ9) (by rfl) ?_
    refine zq_ic hc hH (by rfl) (tg := 172) (by rfl) (fun _ => ?_) (fun _ => ?_)
    · refine z_rcs hc hH 1 (pc' := 173) (lv' := lv) (st' := [.int 0, .ref 50]) (μ' := μ9) (by rfl) ?_
      refine zq_st hc hH (pc := 173) (by rfl) (z_ald hl) ?_
      refine z_rcs hc hH 1 (pc' := 177) (lv' := lv) (st' := [.int (μ9.1 50 45), .int 0, .ref 50]) (μ' := μ9) (by rfl) ?_
      refine zq_st hc hH (pc := 177) (by rfl) (z_ald hl) ?_
      refine z_rcs hc hH 1 (pc' := 181) (lv' := lv) (st' := [.int (μ9.1 50 40), .int (μ9.1 50 45), .int 0, .ref 50]) (μ' := μ9) (by rfl) ?_
      refine zq_ic hc hH (by rfl) (tg := 188) (by rfl) (fun _ => ?_) (fun _ => ?_)
      · refine z_rcs hc hH 1 (pc' := 189) (lv' := lv) (st' := [.int 0, .int 0, .ref 50]) (μ' := μ9) (by rfl) ?_
        exact en 0 0 t0 t0
      · refine z_rcs hc hH 2 (pc' := 189) (lv' := lv) (st' := [.int 1, .int 0, .ref 50]) (μ' := μ9) (by rfl) ?_
        exact en 0 1 t0 t1
    · refine z_rcs hc hH 2 (pc' := 173) (lv' := lv) (st' := [.int 1, .ref 50]) (μ' := μ9) (by rfl) ?_
      refine zq_st hc hH (pc := 173) (by rfl) (z_ald hl) ?_
      refine z_rcs hc hH 1 (pc' := 177) (lv' := lv) (st' := [.int (μ9.1 50 45), .int 1, .ref 50]) (μ' := μ9) (by rfl) ?_
      refine zq_st hc hH (pc := 177) (by rfl) (z_ald hl) ?_
      refine z_rcs hc hH 1 (pc' := 181) (lv' := lv) (st' := [.int (μ9.1 50 40), .int (μ9.1 50 45), .int 1, .ref 50]) (μ' := μ9) (by rfl) ?_
      refine zq_ic hc hH (by rfl) (tg := 188) (by rfl) (fun _ => ?_) (fun _ => ?_)
      · refine z_rcs hc hH 1 (pc' := 189) (lv' := lv) (st' := [.int 0, .int 1, .ref 50]) (μ' := μ9) (by rfl) ?_
        exact en 1 0 t1 t0
      · refine z_rcs hc hH 2 (pc' := 189) (lv' := lv) (st' := [.int 1, .int 1, .ref 50]) (μ' := μ9) (by rfl) ?_
        exact en 1 1 t1 t1
  have lp3 : ∀ (n i : Nat), i + n = 4 → ∀ (y bs : Int32) (μ1 : zM), GST μ μ1 → Z 0 77 [(2, .int (nI i)), (3, .int y), (1, .int bs), (0, .ref 50)] [] μ1 := by
    intro n
    induction n with
    | zero =>
      intro i hi y bs μ1 hA
      have hi : i = 4 := by omega
      subst hi
      refine z_rcs hc hH 2 (pc' := 79) (lv' := [(2, .int (nI 4)), (3, .int y), (1, .int bs), (0, .ref 50)]) (st' := [.int 4, .int (nI 4)]) (μ' := μ1) (by rfl) ?_
      refine zq_ic hc hH (by rfl) (tg := 152) (by rfl) (fun _ => ?_) (fun h9 => (zb_t (ge_nIt (n := 4) (i := 4) (by decide) (by decide)) h9).elim)
      exact tl _ μ1 rfl hA
    | succ n ih =>
      intro i hi y bs μ1 hA
      refine z_rcs hc hH 2 (pc' := 79) (lv' := [(2, .int (nI i)), (3, .int y), (1, .int bs), (0, .ref 50)]) (st' := [.int 4, .int (nI i)]) (μ' := μ1) (by rfl) ?_
      refine zq_ic hc hH (by rfl) (tg := 152) (by rfl) (fun h9 => (zb_t h9 (ge_nI (n := 4) (i := i) (by omega) (by decide))).elim) (fun _ => ?_)
      refine z_rcs hc hH 3 (pc' := 87) (lv' := [(2, .int (nI i)), (3, .int y), (1, .int bs), (0, .ref 50)]) (st' := [.int (μ1.1 50 45), .int (nI i)]) (μ' := μ1) (by rfl) ?_
      refine zq_ic hc hH (by rfl) (tg := 93) (by rfl) (fun h1 => ?_) (fun h1 => ?_)
      · have h1 := cm_ne.mp h1
        refine z_rcs hc hH 4 (pc' := 101) (lv' := [(2, .int (nI i)), (3, .int y), (1, .int bs), (0, .ref 50)]) (st' := [.int (μ1.1 50 40), .int (μ1.1 50 45)]) (μ' := μ1) (by rfl) ?_
        refine zq_ic hc hH (by rfl) (tg := 112) (by rfl) (fun h2 => ?_) (fun h2 => ?_)
        · have h2 := cm_eq9.mp h2
          refine z_rcs hc hH 12 (pc' := 132) (lv' := [(3, .int 1), (2, .int (nI i)), (1, .int bs), (0, .ref 50)]) (st' := [.int (bs * 2), .int 0, .int (nI i), .ref 50]) (μ' := μ1) (by rfl) ?_
          refine zq_call hc (z_cx_ok hH (by rfl)) (bs_X7_up (by omega) [.int (bs * 2)] _ (aArg_pre ⟨⟨_, rfl, bI_top _⟩, trivial⟩ rfl) hA.1) (by decide +kernel) (fun r9 μ9 hq => ?_)
          obtain ⟨-, hz, hr9⟩ := hq
          obtain ⟨v9, rfl, x9, rfl, -⟩ := hr9
          rw [a_Fz_nil hz]
          clear hz μ9
          show Z 0 135 [(3, .int 1), (2, .int (nI i)), (1, .int bs), (0, .ref 50)] [.int x9, .int 0, .int (nI i), .ref 50] μ1
          refine z_rcs hc hH 5 (pc' := 143) (lv' := [(3, .int 1), (2, .int (nI i)), (1, .int bs), (0, .ref 50)]) (st' := [.int (x9 + (100 * (μ1.1 50 42))), .int 0, .int (nI i), .ref 50]) (μ' := μ1) (by rfl) ?_
          refine zq_call hc (z_cx_ok hH (by rfl)) (fc_X7_pays d' (by omega) μ1 i 0 _ (by omega) (by decide) hA.1 hA.2.1) (by decide +kernel) (fun r9 μ9 hq => ?_)
          obtain ⟨rfl, q1, q2, q3⟩ := hq
          have hB := hA.to q1 q2 q3 (by decide)
          show Z 0 146 [(3, .int 1), (2, .int (nI i)), (1, .int bs), (0, .ref 50)] [] μ9
          refine z_rcs hc hH 2 (pc' := 77) (lv' := [(2, .int ((nI i) + 1)), (3, .int 1), (1, .int bs), (0, .ref 50)]) (st' := []) (μ' := μ9) (by rfl) ?_
          rw [nI_1]
          exact ih (i + 1) (by omega) _ _ _ hB
        · have h2 := cn_eq.mp h2
          refine z_rcs hc hH 3 (pc' := 109) (lv' := [(2, .int (nI i)), (3, .int y), (1, .int bs), (0, .ref 50)]) (st' := [.int (μ1.1 50 40), .int (nI i)]) (μ' := μ1) (by rfl) ?_
          refine zq_ic hc hH (by rfl) (tg := 116) (by rfl) (fun h3 => ?_) (fun h3 => ?_)
          · have h3 := cm_ne.mp h3
            refine z_rcs hc hH 10 (pc' := 132) (lv' := [(3, .int 0), (2, .int (nI i)), (1, .int bs), (0, .ref 50)]) (st' := [.int (bs * 1), .int 0, .int (nI i), .ref 50]) (μ' := μ1) (by rfl) ?_
            refine zq_call hc (z_cx_ok hH (by rfl)) (bs_X7_up (by omega) [.int (bs * 1)] _ (aArg_pre ⟨⟨_, rfl, bI_top _⟩, trivial⟩ rfl) hA.1) (by decide +kernel) (fun r9 μ9 hq => ?_)
            obtain ⟨-, hz, hr9⟩ := hq
            obtain ⟨v9, rfl, x9, rfl, -⟩ := hr9
            rw [a_Fz_nil hz]
            clear hz μ9
            show Z 0 135 [(3, .int 0), (2, .int (nI i)), (1, .int bs), (0, .ref 50)] [.int x9, .int 0, .int (nI i), .ref 50] μ1
            refine z_rcs hc hH 5 (pc' := 143) (lv' := [(3, .int 0), (2, .int (nI i)), (1, .int bs), (0, .ref 50)]) (st' := [.int (x9 + (100 * (μ1.1 50 42))), .int 0, .int (nI i), .ref 50]) (μ' := μ1) (by rfl) ?_
            refine zq_call hc (z_cx_ok hH (by rfl)) (fc_X7_pays d' (by omega) μ1 i 0 _ (by omega) (by decide) hA.1 hA.2.1) (by decide +kernel) (fun r9 μ9 hq => ?_)
            obtain ⟨rfl, q1, q2, q3⟩ := hq
            have hB := hA.to q1 q2 q3 (by decide)
            show Z 0 146 [(3, .int 0), (2, .int (nI i)), (1, .int bs), (0, .ref 50)] [] μ9
            refine z_rcs hc hH 2 (pc' := 77) (lv' := [(2, .int ((nI i) + 1)), (3, .int 0), (1, .int bs), (0, .ref 50)]) (st' := []) (μ' := μ9) (by rfl) ?_
            rw [nI_1]
            exact ih (i + 1) (by omega) _ _ _ hB
          · have h3 := cn_ne.mp h3
            refine z_rcs hc hH 12 (pc' := 132) (lv' := [(3, .int 1), (2, .int (nI i)), (1, .int bs), (0, .ref 50)]) (st' := [.int (bs * 2), .int 0, .int (nI i), .ref 50]) (μ' := μ1) (by rfl) ?_
            refine zq_call hc (z_cx_ok hH (by rfl)) (bs_X7_up (by omega) [.int (bs * 2)] _ (aArg_pre ⟨⟨_, rfl, bI_top _⟩, trivial⟩ rfl) hA.1) (by decide +kernel) (fun r9 μ9 hq => ?_)
            obtain ⟨-, hz, hr9⟩ := hq
            obtain ⟨v9, rfl, x9, rfl, -⟩ := hr9
            rw [a_Fz_nil hz]
            clear hz μ9
            show Z 0 135 [(3, .int 1), (2, .int (nI i)), (1, .int bs), (0, .ref 50)] [.int x9, .int 0, .int (nI i), .ref 50] μ1
            refine z_rcs hc hH 5 (pc' := 143) (lv' := [(3, .int 1), (2, .int (nI i)), (1, .int bs), (0, .ref 50)]) (st' := [.int (x9 + (100 * (μ1.1 50 42))), .int 0, .int (nI i), .ref 50]) (μ' := μ1) (by rfl) ?_
            refine zq_call hc (z_cx_ok hH (by rfl)) (fc_X7_pays d' (by omega) μ1 i 0 _ (by omega) (by decide) hA.1 hA.2.1) (by decide +kernel) (fun r9 μ9 hq => ?_)
            obtain ⟨rfl, q1, q2, q3⟩ := hq
            have hB := hA.to q1 q2 q3 (by decide)
            show Z 0 146 [(3, .int 1), (2, .int (nI i)), (1, .int bs), (0, .ref 50)] [] μ9
            refine z_rcs hc hH 2 (pc' := 77) (lv' := [(2, .int ((nI i) + 1)), (3, .int 1), (1, .int bs), (0, .ref 50)]) (st' := []) (μ' := μ9) (by rfl) ?_
            rw [nI_1]
            exact ih (i + 1) (by omega) _ _ _ hB
      · have h1 := cn_ne.mp h1
        refine z_rcs hc hH 3 (pc' := 77) (lv' := [(2, .int ((nI i) + 1)), (3, .int y), (1, .int bs), (0, .ref 50)]) (st' := []) (μ' := μ1) (by rfl) ?_
        rw [nI_1]
        exact ih (i + 1) (by omega) _ _ _ hA
  have lp0 : ∀ (n i : Nat), i + n = 4 → ∀ (y bs : Int32) (μ1 : zM), GST μ μ1 → Z 0 77 [(2, .int (nI i)), (1, .int bs), (0, .ref 50)] [] μ1 := by
    intro n
    induction n with
    | zero =>
      intro i hi y bs μ1 hA
      have hi : i = 4 := by omega
      subst hi
      refine z_rcs hc hH 2 (pc' := 79) (lv' := [(2, .int (nI 4)), (1, .int bs), (0, .ref 50)]) (st' := [.int 4, .int (nI 4)]) (μ' := μ1) (by rfl) ?_
      refine zq_ic hc hH (by rfl) (tg := 152) (by rfl) (fun _ => ?_) (fun h9 => (zb_t (ge_nIt (n := 4) (i := 4) (by decide) (by decide)) h9).elim)
      exact tl _ μ1 rfl hA
    | succ n ih =>
      intro i hi y bs μ1 hA
      refine z_rcs hc hH 2 (pc' := 79) (lv' := [(2, .int (nI i)), (1, .int bs), (0, .ref 50)]) (st' := [.int 4, .int (nI i)]) (μ' := μ1) (by rfl) ?_
      refine zq_ic hc hH (by rfl) (tg := 152) (by rfl) (fun h9 => (zb_t h9 (ge_nI (n := 4) (i := i) (by omega) (by decide))).elim) (fun _ => ?_)
      refine z_rcs hc hH 3 (pc' := 87) (lv' := [(2, .int (nI i)), (1, .int bs), (0, .ref 50)]) (st' := [.int (μ1.1 50 45), .int (nI i)]) (μ' := μ1) (by rfl) ?_
      refine zq_ic hc hH (by rfl) (tg := 93) (by rfl) (fun h1 => ?_) (fun h1 => ?_)
      · have h1 := cm_ne.mp h1
        refine z_rcs hc hH 4 (pc' := 101) (lv' := [(2, .int (nI i)), (1, .int bs), (0, .ref 50)]) (st' := [.int (μ1.1 50 40), .int (μ1.1 50 45)]) (μ' := μ1) (by rfl) ?_
        refine zq_ic hc hH (by rfl) (tg := 112) (by rfl) (fun h2 => ?_) (fun h2 => ?_)
        · have h2 := cm_eq9.mp h2
          refine z_rcs hc hH 12 (pc' := 132) (lv' := [(3, .int 1), (2, .int (nI i)), (1, .int bs), (0, .ref 50)]) (st' := [.int (bs * 2), .int 0, .int (nI i), .ref 50]) (μ' := μ1) (by rfl) ?_
          refine zq_call hc (z_cx_ok hH (by rfl)) (bs_X7_up (by omega) [.int (bs * 2)] _ (aArg_pre ⟨⟨_, rfl, bI_top _⟩, trivial⟩ rfl) hA.1) (by decide +kernel) (fun r9 μ9 hq => ?_)
          obtain ⟨-, hz, hr9⟩ := hq
          obtain ⟨v9, rfl, x9, rfl, -⟩ := hr9
          rw [a_Fz_nil hz]
          clear hz μ9
          show Z 0 135 [(3, .int 1), (2, .int (nI i)), (1, .int bs), (0, .ref 50)] [.int x9, .int 0, .int (nI i), .ref 50] μ1
          refine z_rcs hc hH 5 (pc' := 143) (lv' := [(3, .int 1), (2, .int (nI i)), (1, .int bs), (0, .ref 50)]) (st' := [.int (x9 + (100 * (μ1.1 50 42))), .int 0, .int (nI i), .ref 50]) (μ' := μ1) (by rfl) ?_
          refine zq_call hc (z_cx_ok hH (by rfl)) (fc_X7_pays d' (by omega) μ1 i 0 _ (by omega) (by decide) hA.1 hA.2.1) (by decide +kernel) (fun r9 μ9 hq => ?_)
          obtain ⟨rfl, q1, q2, q3⟩ := hq
          have hB := hA.to q1 q2 q3 (by decide)
          show Z 0 146 [(3, .int 1), (2, .int (nI i)), (1, .int bs), (0, .ref 50)] [] μ9
          refine z_rcs hc hH 2 (pc' := 77) (lv' := [(2, .int ((nI i) + 1)), (3, .int 1), (1, .int bs), (0, .ref 50)]) (st' := []) (μ' := μ9) (by rfl) ?_
          rw [nI_1]
          exact lp3 n (i + 1) (by omega) _ _ _ hB
        · have h2 := cn_eq.mp h2
          refine z_rcs hc hH 3 (pc' := 109) (lv' := [(2, .int (nI i)), (1, .int bs), (0, .ref 50)]) (st' := [.int (μ1.1 50 40), .int (nI i)]) (μ' := μ1) (by rfl) ?_
          refine zq_ic hc hH (by rfl) (tg := 116) (by rfl) (fun h3 => ?_) (fun h3 => ?_)
          · have h3 := cm_ne.mp h3
            refine z_rcs hc hH 10 (pc' := 132) (lv' := [(3, .int 0), (2, .int (nI i)), (1, .int bs), (0, .ref 50)]) (st' := [.int (bs * 1), .int 0, .int (nI i), .ref 50]) (μ' := μ1) (by rfl) ?_
            refine zq_call hc (z_cx_ok hH (by rfl)) (bs_X7_up (by omega) [.int (bs * 1)] _ (aArg_pre ⟨⟨_, rfl, bI_top _⟩, trivial⟩ rfl) hA.1) (by decide +kernel) (fun r9 μ9 hq => ?_)
            obtain ⟨-, hz, hr9⟩ := hq
            obtain ⟨v9, rfl, x9, rfl, -⟩ := hr9
            rw [a_Fz_nil hz]
            clear hz μ9
            show Z 0 135 [(3, .int 0), (2, .int (nI i)), (1, .int bs), (0, .ref 50)] [.int x9, .int 0, .int (nI i), .ref 50] μ1
            refine z_rcs hc hH 5 (pc' := 143) (lv' := [(3, .int 0), (2, .int (nI i)), (1, .int bs), (0, .ref 50)]) (st' := [.int (x9 + (100 * (μ1.1 50 42))), .int 0, .int (nI i), .ref 50]) (μ' := μ1) (by rfl) ?_
            refine zq_call hc (z_cx_ok hH (by rfl)) (fc_X7_pays d' (by omega) μ1 i 0 _ (by omega) (by decide) hA.1 hA.2.1) (by decide +kernel) (fun r9 μ9 hq => ?_)
            obtain ⟨rfl, q1, q2, q3⟩ := hq
            have hB := hA.to q1 q2 q3 (by decide)
            show Z 0 146 [(3, .int 0), (2, .int (nI i)), (1, .int bs), (0, .ref 50)] [] μ9
            refine z_rcs hc hH 2 (pc' := 77) (lv' := [(2, .int ((nI i) + 1)), (3, .int 0), (1, .int bs), (0, .ref 50)]) (st' := []) (μ' := μ9) (by rfl) ?_
            rw [nI_1]
            exact lp3 n (i + 1) (by omega) _ _ _ hB
          · have h3 := cn_ne.mp h3
            refine z_rcs hc hH 12 (pc' := 132) (lv' := [(3, .int 1), (2, .int (nI i)), (1, .int bs), (0, .ref 50)]) (st' := [.int (bs * 2), .int 0, .int (nI i), .ref 50]) (μ' := μ1) (by rfl) ?_
            refine zq_call hc (z_cx_ok hH (by rfl)) (bs_X7_up (by omega) [.int (bs * 2)] _ (aArg_pre ⟨⟨_, rfl, bI_top _⟩, trivial⟩ rfl) hA.1) (by decide +kernel) (fun r9 μ9 hq => ?_)
            obtain ⟨-, hz, hr9⟩ := hq
            obtain ⟨v9, rfl, x9, rfl, -⟩ := hr9
            rw [a_Fz_nil hz]
            clear hz μ9
            show Z 0 135 [(3, .int 1), (2, .int (nI i)), (1, .int bs), (0, .ref 50)] [.int x9, .int 0, .int (nI i), .ref 50] μ1
            refine z_rcs hc hH 5 (pc' := 143) (lv' := [(3, .int 1), (2, .int (nI i)), (1, .int bs), (0, .ref 50)]) (st' := [.int (x9 + (100 * (μ1.1 50 42))), .int 0, .int (nI i), .ref 50]) (μ' := μ1) (by rfl) ?_
            refine zq_call hc (z_cx_ok hH (by rfl)) (fc_X7_pays d' (by omega) μ1 i 0 _ (by omega) (by decide) hA.1 hA.2.1) (by decide +kernel) (fun r9 μ9 hq => ?_)
            obtain ⟨rfl, q1, q2, q3⟩ := hq
            have hB := hA.to q1 q2 q3 (by decide)
            show Z 0 146 [(3, .int 1), (2, .int (nI i)), (1, .int bs), (0, .ref 50)] [] μ9
            refine z_rcs hc hH 2 (pc' := 77) (lv' := [(2, .int ((nI i) + 1)), (3, .int 1), (1, .int bs), (0, .ref 50)]) (st' := []) (μ' := μ9) (by rfl) ?_
            rw [nI_1]
            exact lp3 n (i + 1) (by omega) _ _ _ hB
      · have h1 := cn_ne.mp h1
        refine z_rcs hc hH 3 (pc' := 77) (lv' := [(2, .int ((nI i) + 1)), (1, .int bs), (0, .ref 50)]) (st' := []) (μ' := μ1) (by rfl) ?_
        rw [nI_1]
        exact ih (i + 1) (by omega) y _ _ hA
  refine z_rcs hc hH 6 (pc' := 10) (lv' := [(0, .ref 50)]) (st' := [.int 1, .int (μ.1 50 44)]) (μ' := z_ui μ 50 0 0) (by rfl) ?_
  refine zq_ic hc hH (by rfl) (tg := 20) (by rfl) (fun h1 => ?_) (fun h1 => ?_)
  · have h1 := cm_ne.mp h1
    refine z_rcs hc hH 1 (pc' := 21) (lv' := [(0, .ref 50)]) (st' := [.int 0]) (μ' := z_ui μ 50 0 0) (by rfl) ?_
    exact hr 0 21 _ _ _ (some (.int 0)) (by decide +kernel) (z_rx_ok hH (by rfl)) (r0 _)
  · have h1 := cn_ne.mp h1
    refine z_rcs hc hH 2 (pc' := 17) (lv' := [(0, .ref 50)]) (st' := [.int (μ.1 50 57)]) (μ' := z_ui μ 50 0 0) (by rfl) ?_
    refine zq_if hc hH (by rfl) (tg := 22) (by rfl) (fun h2 => ?_) (fun h2 => ?_)
    · have h2 := cm_eq9.mp h2
      refine z_rcs hc hH 6 (pc' := 32) (lv' := [(0, .ref 50)]) (st' := [.int 1, .int (μ.1 50 49), .int (μ.1 50 45), .ref 50]) (μ' := z_ui μ 50 0 0) (by rfl) ?_
      obtain ⟨b, hb4, eb⟩ : ∃ b, b < 34 ∧ μ.1 50 49 = nI b := by
        have q := hT h1 h2
        obtain ⟨b, h1, h2⟩ := vp_in_of (n := 34) (vp_in_bI (b := (0, 33)) (x := μ.1 50 49) ⟨q, (ha 50 49).2⟩ (by decide)) (by decide)
        exact ⟨b, h1, h2⟩
      refine zq_call hc (z_cx_ok hH (by rfl)) (a_use (i := 121) (K := ak_121) rfl (by omega) [.ref 50, .int (μ.1 50 45), .int (μ.1 50 49), .int 1] _ (aArg_pre ⟨⟨50, by decide, rfl⟩, ⟨_, rfl, ha 50 45⟩, ⟨_, rfl, ⟨hT h1 h2, (ha 50 49).2⟩⟩, ⟨1, rfl, by decide, by decide⟩, trivial⟩ rfl) h0) (by decide +kernel) (fun r9 μ9 hq => ?_)
      obtain ⟨q1, q3, rfl⟩ := hq
      have q2 : GW μ9 := GW_keep g0 q3 (by decide)
      have fV : a_Fz md_V μ μ9 := a_Fz_tr (by decide) (f0 _ (by decide)) q3
      have hS : GST μ μ9 := ⟨q1, q2, a_Fz_tr (by decide) (f0 _ (by decide)) q3⟩
      have ea9 : μ9.1 50 45 = nI a := by rw [a_Fz_at fV 50 45 (by decide), ea]
      show Z 0 35 [(0, .ref 50)] [] μ9
      refine z_rcs hc hH 2 (pc' := 39) (lv' := [(0, .ref 50)]) (st' := [.int (μ9.1 50 18)]) (μ' := μ9) (by rfl) ?_
      refine zq_if hc hH (by rfl) (tg := 49) (by rfl) (fun h3 => ?_) (fun h3 => ?_)
      · have h3 := cm_eq9.mp h3
        refine z_rcs hc hH 1 (pc' := 50) (lv' := [(0, .ref 50)]) (st' := [.int 0]) (μ' := μ9) (by rfl) ?_
        exact hr 0 50 _ _ _ (some (.int 0)) (by decide +kernel) (z_rx_ok hH (by rfl)) (⟨⟨_, rfl⟩, hS, Or.inr fV⟩)
      · have h3 := cn_eq.mp h3
        refine z_rcs hc hH 2 (pc' := 46) (lv' := [(0, .ref 50)]) (st' := [.int (μ9.1 50 13)]) (μ' := μ9) (by rfl) ?_
        refine zq_if hc hH (by rfl) (tg := 51) (by rfl) (fun h4 => ?_) (fun h4 => ?_)
        · have h4 := cm_ne.mp h4
          refine z_rcs hc hH 10 (pc' := 67) (lv' := [(0, .ref 50)]) (st' := [.int (μ9.1 50 49), .int (-1), .int (μ9.1 50 45), .int 0, .ref 50]) (μ' := z_ui μ9 50 53 1) (by rfl) ?_
          have hS2 : GST μ (z_ui μ9 50 53 1) := hS.to (md := [(50, 53)]) (a_H_ui hS.1 ⟨by decide, by decide⟩) (GW_ne hS.2.1 (by decide)) (a_Fz_ui (a_Fz_rf _ _) (by decide)) (by decide)
          rw [show (μ9.1 50 45) = nI a from ea9]
          refine zq_call hc (z_cx_ok hH (by rfl)) (fc_X7_writes d' (by omega) (z_ui μ9 50 53 1) 0 a _ _ (by decide) ha4 hS2.1 hS2.2.1) (by decide +kernel) (fun r8 μ8 hq => ?_)
          obtain ⟨rfl, q4, q5, q6⟩ := hq
          have hS3 := hS2.to q4 q5 q6 (by decide)
          show Z 0 70 [(0, .ref 50)] [] μ8
          refine z_rcs hc hH 5 (pc' := 77) (lv' := [(2, .int 0), (1, .int (μ8.1 50 13)), (0, .ref 50)]) (st' := []) (μ' := μ8) (by rfl) ?_
          exact lp0 4 0 rfl 0 _ _ hS3
        · have h4 := cn_ne.mp h4
          refine z_rcs hc hH 1 (pc' := 50) (lv' := [(0, .ref 50)]) (st' := [.int 0]) (μ' := μ9) (by rfl) ?_
          exact hr 0 50 _ _ _ (some (.int 0)) (by decide +kernel) (z_rx_ok hH (by rfl)) (⟨⟨_, rfl⟩, hS, Or.inr fV⟩)
    · have h2 := cn_eq.mp h2
      refine z_rcs hc hH 1 (pc' := 21) (lv' := [(0, .ref 50)]) (st' := [.int 0]) (μ' := z_ui μ 50 0 0) (by rfl) ?_
      exact hr 0 21 _ _ _ (some (.int 0)) (by decide +kernel) (z_rx_ok hH (by rfl)) (r0 _)

/-! nine ends, and all who say so win -/
def bk_nine : aQ := (137, [(2, (0, 0), [50], (0, 0))], [], [(50, 0)], (0, (0, 1), [], (0, 0)))
def bc_nine : List aC := [(0, [(0, (2, (0, 0), [50], (0, 0)))], [], [], [(1000, 0, 0), (0, 0, 0), (0, 0, 0), (0, 0, 0), (0, 0, 0), (0, 0, 0), (0, 0, 0)]), (95, [(0, (2, (0, 0), [50], (0, 0)))], [(0, (1, 1), [], (0, 0)), (0, (1, 1), [], (0, 0)), (2, (0, 0), [50], (0, 0))], [(0, 44, (0, (1, 1), [], (0, 0))), (0, 45, (0, (0, 3), [], (0, 0)))], [(5, 0, 0), (0, 0, 0), (0, 0, 0), (0, 0, 0), (0, 0, 0), (0, 0, 0), (0, 0, 0)]), (39, [(0, (2, (0, 0), [50], (0, 0)))], [], [(0, 44, (0, (0, 3), [], (0, 0)))], [(2, 0, 0), (0, 0, 0), (0, 0, 0), (0, 0, 0), (0, 0, 0), (0, 0, 0), (0, 0, 0)]), (45, [(0, (2, (0, 0), [50], (0, 0))), (1, ai), (2, (0, (0, 34), [], (0, 0)))], [], [(0, 44, (0, (1, 1), [], (0, 0))), (0, 45, (0, (0, 3), [], (0, 0)))], [(33, 0, 0), (34, 1, 2), (1000, 0, 0), (0, 0, 0), (0, 0, 0), (0, 0, 0), (0, 0, 0)]), (75, [(0, (2, (0, 0), [50], (0, 0))), (2, (0, (0, 33), [], (0, 0)))], [ai], [(0, 44, (0, (1, 1), [], (0, 0))), (0, 45, (0, (0, 3), [], (0, 0)))], [(33, 0, 0), (34, 1, 2), (18, 0, 0), (0, 0, 0), (0, 0, 0), (0, 0, 0), (0, 0, 0)]), (76, [(0, (2, (0, 0), [50], (0, 0))), (2, (0, (0, 33), [], (0, 0)))], [(0, (0, 1), [], (0, 0)), ai], [(0, 44, (0, (1, 1), [], (0, 0))), (0, 45, (0, (0, 3), [], (0, 0)))], [(33, 0, 0), (34, 1, 2), (17, 0, 0), (0, 0, 0), (0, 0, 0), (0, 0, 0), (0, 0, 0)])]
set_option maxRecDepth 1000000 in
theorem bg_nine : a_goodx (a_Ks.take 139) (a_Zd, a_Zs) bk_nine bc_nine [95] 2000 4 6 = true := by decide +kernel
theorem st_3 {q0 q1 q2 : aI} {st : List Value} (h : st.length = 3 ∧ ∀ (i : Nat) (q : aI) (v : Value), [q0, q1, q2][i]? = some q → st[i]? = some v → a_ok q v) : ∃ v0 v1 v2, st = [v0, v1, v2] ∧ a_ok q0 v0 ∧ a_ok q1 v1 ∧ a_ok q2 v2 := by
  obtain ⟨h1, h2⟩ := h
  match st, h1, h2 with
  | [v0, v1, v2], _, h2 => exact ⟨v0, v1, v2, rfl, h2 0 q0 v0 rfl rfl, h2 1 q1 v1 rfl rfl, h2 2 q2 v2 rfl rfl⟩
theorem zPE_0 {μ μ' : zM} {x : Int32} {md : List (Nat × Nat)} (hg : GW μ) (h1 : a_H μ') (h2 : a_Fz md μ μ') (hm : a_mds md md_V = true) (hm2 : a_mds md md_E = true) (hm3 : (md.all (fun q => !Nat.beq q.1 72)) = true) : zPE μ (some (.int x)) μ' := ⟨⟨x, rfl⟩, ⟨h1, GW_keep hg h2 hm3, a_Fz_tr hm2 (a_Fz_rf _ _) h2⟩, Or.inr (a_Fz_tr hm (a_Fz_rf _ _) h2)⟩
theorem zh_X7_nine : zH mi_X7_nine zt_X7_nine 79 7 3 := hh_X7_nine
theorem fc_X7_nine (d : Nat) (hd : 702 ≤ d) (μ : zM) (ha : a_H μ) (hg : GW μ) : z_C d mi_X7_nine [.ref 50] μ (zPE μ) := by
  refine z_C_in (by decide) (by omega) (fun d' Z ed hc hr => ?_)
  have hH := zh_X7_nine
  refine a_from (K := bk_nine) aK_all bg_nine (by omega) hc μ ?_ ?_ _ (List.mem_cons_self) _ _ _ (a_At_mk ⟨⟨_, rfl, 50, by decide, rfl⟩, trivial⟩ trivial trivial ha (a_Fz_rf _ _))
  · intro pc lv st μ' v hv h1 h2 h3
    obtain ⟨v9, rfl, x9, rfl, -⟩ := h3
    exact hr 0 pc lv st μ' _ (Nat.zero_le _) hv (zPE_0 hg h1 h2 (by decide) (by decide) (by decide))
  · intro c hc1 hc2 lv st μ1 hAt
    have e : c = bc_nine[1] := by
      have e1 : bc_nine.filter (fun c => List.any [95] (Nat.beq c.1)) = [bc_nine[1]] := by rfl
      have e2 : c ∈ bc_nine.filter (fun c => List.any [95] (Nat.beq c.1)) := List.mem_filter.mpr ⟨hc1, hc2⟩
      rw [e1] at e2
      exact List.mem_singleton.mp e2
    subst e
    obtain ⟨-, h2, -, h4, h5⟩ := hAt
    obtain ⟨v0, v1, v2, rfl, ⟨x, rfl, hx⟩, ⟨y, rfl, hy⟩, r, hr2, rfl⟩ := st_3 h2
    have hr2 : r = 50 := by simpa using hr2
    subst hr2
    show Z 0 95 lv [.int x, .int y, .ref 50] μ1
    have hS : GST μ μ1 := ⟨h4, GW_keep hg h5 (by decide), a_Fz_tr (by decide) (a_Fz_rf _ _) h5⟩
    refine zq_call hc (z_cx_ok hH (by rfl)) (fc_X7_ends d' (by omega) μ1 y x (bI_w hy ⟨by decide, by decide⟩) (bI_w hx ⟨by decide, by decide⟩) h4) (by decide +kernel) (fun r8 μ8 hq => ?_)
    obtain ⟨rfl, q0, q1, q3⟩ := hq
    refine z_rcs hc hH 1 (pc' := 99) (lv' := lv) (st' := [.int 1]) (μ' := μ8) (by rfl) ?_
    exact hr 0 99 _ _ _ (some (.int 1)) (by decide +kernel) (by rfl) ⟨⟨1, rfl⟩, hS.to q1 (GW_keep hS.2.1 q3 (by decide)) q3 (by decide), Or.inl q0⟩
theorem zh_X7_allWin : zH mi_X7_allWin zt_X7_allWin 79 7 5 := hh_X7_allWin
theorem nI_r4 : ∀ n, n < 8 → nI n - nI n / 4 * 4 = nI (n % 4) := by decide +kernel
/-- while all win -/
def AW (μ : zM) (b i : Nat) (μ1 : zM) : Prop := GST μ μ1 ∧ μ1.1 50 49 = nI b ∧ ∃ w, w < i ∧ μ1.1 50 53 = nI w
set_option maxRecDepth 100000 in
theorem fc_X7_allWin (d : Nat) (hd : 703 ≤ d) (μ : zM) (ha : a_H μ) (hg : GW μ) (hT : 0 ≤ (μ.1 50 49).toInt) : z_C d mi_X7_allWin [.ref 50] μ (fun r μ' => r = none ∧ GST μ μ' ∧ μ'.1 50 44 = 0) := by
  refine z_C_in (by decide) (by omega) (fun d' Z ed hc hr => ?_)
  have hH := zh_X7_allWin
  obtain ⟨a, ha4, ea⟩ := seat_nI ha
  obtain ⟨b, hb4, eb⟩ : ∃ b, b < 34 ∧ μ.1 50 49 = nI b := by
    obtain ⟨b, h1, h2⟩ := vp_in_of (n := 34) (vp_in_bI (b := (0, 33)) (x := μ.1 50 49) ⟨hT, (ha 50 49).2⟩ (by decide)) (by decide)
    exact ⟨b, h1, h2⟩
  have eA : ∀ μ1, GST μ μ1 → μ1.1 50 45 = nI a := fun μ1 h => by rw [a_Fz_at h.2.2 50 45 (by decide), ea]
  have lp : ∀ (n i : Nat), i + n = 4 → 1 ≤ i → ∀ (x y z : Int32) (μ1 : zM), bI 0 1 x → AW μ b i μ1 → Z 0 9 [(2, .int (nI i)), (1, .int x), (4, .int y), (3, .int z), (0, .ref 50)] [] μ1 ∧ Z 0 9 [(2, .int (nI i)), (3, .int z), (1, .int x), (4, .int y), (0, .ref 50)] [] μ1 ∧ Z 0 9 [(2, .int (nI i)), (3, .int z), (1, .int x), (0, .ref 50)] [] μ1 ∧ Z 0 9 [(2, .int (nI i)), (1, .int x), (0, .ref 50)] [] μ1 := by
    intro n
    induction n with
    | zero =>
      intro i hi hi1 x y z μ1 hx hA
      have hi : i = 4 := by omega
      subst hi
      obtain ⟨hS, -⟩ := hA
      refine ⟨?_, ?_, ?_, ?_⟩
      · skip
        refine z_rcs hc hH 2 (pc' := 11) (lv' := [(2, .int (nI 4)), (1, .int x), (4, .int y), (3, .int z), (0, .ref 50)]) (st' := [.int 4, .int (nI 4)]) (μ' := μ1) (by rfl) ?_
        refine zq_ic hc hH (by rfl) (tg := 154) (by rfl) (fun _ => ?_) (fun h9 => (zb_t (ge_nIt (n := 4) (i := 4) (by decide) (by decide)) h9).elim)
        refine z_rcs hc hH 1 (pc' := 155) (lv' := [(2, .int (nI 4)), (1, .int x), (4, .int y), (3, .int z), (0, .ref 50)]) (st' := [.ref 50]) (μ' := μ1) (by rfl) ?_
        refine zq_call hc (z_cx_ok hH (by rfl)) (fc_X7_takesBets d' (by omega) μ1 hS.1 hS.2.1) (by decide +kernel) (fun r9 μ9 hq => ?_)
        obtain ⟨rfl, q1, q2, q3⟩ := hq
        have hS2 := hS.to q1 q2 q3 (by decide)
        show Z 0 158 [(2, .int (nI 4)), (1, .int x), (4, .int y), (3, .int z), (0, .ref 50)] [] μ9
        refine z_rcs hc hH 3 (pc' := 161) (lv' := [(2, .int (nI 4)), (1, .int x), (4, .int y), (3, .int z), (0, .ref 50)]) (st' := [.int x, .int x, .ref 50]) (μ' := μ9) (by rfl) ?_
        refine zq_call hc (z_cx_ok hH (by rfl)) (fc_X7_ends d' (by omega) μ9 x x hx hx hS2.1) (by decide +kernel) (fun r8 μ8 hq => ?_)
        obtain ⟨rfl, q0, q4, q5⟩ := hq
        show Z 0 164 [(2, .int (nI 4)), (1, .int x), (4, .int y), (3, .int z), (0, .ref 50)] [] μ8
        exact hr 0 164 _ _ _ none (by decide +kernel) (by rfl) (⟨rfl, hS2.to q4 (GW_keep hS2.2.1 q5 (by decide)) q5 (by decide), q0⟩)
      · skip
        refine z_rcs hc hH 2 (pc' := 11) (lv' := [(2, .int (nI 4)), (3, .int z), (1, .int x), (4, .int y), (0, .ref 50)]) (st' := [.int 4, .int (nI 4)]) (μ' := μ1) (by rfl) ?_
        refine zq_ic hc hH (by rfl) (tg := 154) (by rfl) (fun _ => ?_) (fun h9 => (zb_t (ge_nIt (n := 4) (i := 4) (by decide) (by decide)) h9).elim)
        refine z_rcs hc hH 1 (pc' := 155) (lv' := [(2, .int (nI 4)), (3, .int z), (1, .int x), (4, .int y), (0, .ref 50)]) (st' := [.ref 50]) (μ' := μ1) (by rfl) ?_
        refine zq_call hc (z_cx_ok hH (by rfl)) (fc_X7_takesBets d' (by omega) μ1 hS.1 hS.2.1) (by decide +kernel) (fun r9 μ9 hq => ?_)
        obtain ⟨rfl, q1, q2, q3⟩ := hq
        have hS2 := hS.to q1 q2 q3 (by decide)
        show Z 0 158 [(2, .int (nI 4)), (3, .int z), (1, .int x), (4, .int y), (0, .ref 50)] [] μ9
        refine z_rcs hc hH 3 (pc' := 161) (lv' := [(2, .int (nI 4)), (3, .int z), (1, .int x), (4, .int y), (0, .ref 50)]) (st' := [.int x, .int x, .ref 50]) (μ' := μ9) (by rfl) ?_
        refine zq_call hc (z_cx_ok hH (by rfl)) (fc_X7_ends d' (by omega) μ9 x x hx hx hS2.1) (by decide +kernel) (fun r8 μ8 hq => ?_)
        obtain ⟨rfl, q0, q4, q5⟩ := hq
        show Z 0 164 [(2, .int (nI 4)), (3, .int z), (1, .int x), (4, .int y), (0, .ref 50)] [] μ8
        exact hr 0 164 _ _ _ none (by decide +kernel) (by rfl) (⟨rfl, hS2.to q4 (GW_keep hS2.2.1 q5 (by decide)) q5 (by decide), q0⟩)
      · skip
        refine z_rcs hc hH 2 (pc' := 11) (lv' := [(2, .int (nI 4)), (3, .int z), (1, .int x), (0, .ref 50)]) (st' := [.int 4, .int (nI 4)]) (μ' := μ1) (by rfl) ?_
        refine zq_ic hc hH (by rfl) (tg := 154) (by rfl) (fun _ => ?_) (fun h9 => (zb_t (ge_nIt (n := 4) (i := 4) (by decide) (by decide)) h9).elim)
        refine z_rcs hc hH 1 (pc' := 155) (lv' := [(2, .int (nI 4)), (3, .int z), (1, .int x), (0, .ref 50)]) (st' := [.ref 50]) (μ' := μ1) (by rfl) ?_
        refine zq_call hc (z_cx_ok hH (by rfl)) (fc_X7_takesBets d' (by omega) μ1 hS.1 hS.2.1) (by decide +kernel) (fun r9 μ9 hq => ?_)
        obtain ⟨rfl, q1, q2, q3⟩ := hq
        have hS2 := hS.to q1 q2 q3 (by decide)
        show Z 0 158 [(2, .int (nI 4)), (3, .int z), (1, .int x), (0, .ref 50)] [] μ9
        refine z_rcs hc hH 3 (pc' := 161) (lv' := [(2, .int (nI 4)), (3, .int z), (1, .int x), (0, .ref 50)]) (st' := [.int x, .int x, .ref 50]) (μ' := μ9) (by rfl) ?_
        refine zq_call hc (z_cx_ok hH (by rfl)) (fc_X7_ends d' (by omega) μ9 x x hx hx hS2.1) (by decide +kernel) (fun r8 μ8 hq => ?_)
        obtain ⟨rfl, q0, q4, q5⟩ := hq
        show Z 0 164 [(2, .int (nI 4)), (3, .int z), (1, .int x), (0, .ref 50)] [] μ8
        exact hr 0 164 _ _ _ none (by decide +kernel) (by rfl) (⟨rfl, hS2.to q4 (GW_keep hS2.2.1 q5 (by decide)) q5 (by decide), q0⟩)
      · skip
        refine z_rcs hc hH 2 (pc' := 11) (lv' := [(2, .int (nI 4)), (1, .int x), (0, .ref 50)]) (st' := [.int 4, .int (nI 4)]) (μ' := μ1) (by rfl) ?_
        refine zq_ic hc hH (by rfl) (tg := 154) (by rfl) (fun _ => ?_) (fun h9 => (zb_t (ge_nIt (n := 4) (i := 4) (by decide) (by decide)) h9).elim)
        refine z_rcs hc hH 1 (pc' := 155) (lv' := [(2, .int (nI 4)), (1, .int x), (0, .ref 50)]) (st' := [.ref 50]) (μ' := μ1) (by rfl) ?_
        refine zq_call hc (z_cx_ok hH (by rfl)) (fc_X7_takesBets d' (by omega) μ1 hS.1 hS.2.1) (by decide +kernel) (fun r9 μ9 hq => ?_)
        obtain ⟨rfl, q1, q2, q3⟩ := hq
        have hS2 := hS.to q1 q2 q3 (by decide)
        show Z 0 158 [(2, .int (nI 4)), (1, .int x), (0, .ref 50)] [] μ9
        refine z_rcs hc hH 3 (pc' := 161) (lv' := [(2, .int (nI 4)), (1, .int x), (0, .ref 50)]) (st' := [.int x, .int x, .ref 50]) (μ' := μ9) (by rfl) ?_
        refine zq_call hc (z_cx_ok hH (by rfl)) (fc_X7_ends d' (by omega) μ9 x x hx hx hS2.1) (by decide +kernel) (fun r8 μ8 hq => ?_)
        obtain ⟨rfl, q0, q4, q5⟩ := hq
        show Z 0 164 [(2, .int (nI 4)), (1, .int x), (0, .ref 50)] [] μ8
        exact hr 0 164 _ _ _ none (by decide +kernel) (by rfl) (⟨rfl, hS2.to q4 (GW_keep hS2.2.1 q5 (by decide)) q5 (by decide), q0⟩)
    | succ n ih =>
      intro i hi hi1 x y z μ1 hx hA
      obtain ⟨hS, eb1, w, hw, ew⟩ := hA
      have ea1 := eA μ1 hS
      have he : (a + i) % 4 < 4 := by omega
      have t0 : bI 0 1 0 := ⟨by decide, by decide⟩
      have t1 : bI 0 1 1 := ⟨by decide, by decide⟩
      have mid : ∀ (bs : Int32) (μ2 : zM), GST μ μ2 → μ2.1 50 49 = nI b → μ2.1 50 53 = nI w → Z 0 68 [(4, .int bs), (3, .int (nI ((a + i) % 4))), (2, .int (nI i)), (1, .int x), (0, .ref 50)] [] μ2 := by
        intro bs μ2 hB eb2 ew2
        have ea2 := eA μ2 hB
        refine z_rcs hc hH 9 (pc' := 84) (lv' := [(4, .int bs), (3, .int (nI ((a + i) % 4))), (2, .int (nI i)), (1, .int x), (0, .ref 50)]) (st' := [.int (μ2.1 50 40), .int (nI ((a + i) % 4)), .int bs, .int (μ2.1 50 53), .int (μ2.1 50 45), .ref 50]) (μ' := μ2) (by rfl) ?_
        refine zq_ic hc hH (by rfl) (tg := 92) (by rfl) (fun h1 => ?_) (fun h1 => ?_)
        · have h1 := cm_ne.mp h1
          refine z_rcs hc hH 2 (pc' := 94) (lv' := [(4, .int bs), (3, .int (nI ((a + i) % 4))), (2, .int (nI i)), (1, .int x), (0, .ref 50)]) (st' := [.int (bs * 4), .int (μ2.1 50 53), .int (μ2.1 50 45), .ref 50]) (μ' := μ2) (by rfl) ?_
          refine zq_call hc (z_cx_ok hH (by rfl)) (bs_X7_up (by omega) [.int (bs * 4)] _ (aArg_pre ⟨⟨_, rfl, bI_top _⟩, trivial⟩ rfl) hB.1) (by decide +kernel) (fun r9 μ9 hq => ?_)
          obtain ⟨-, hz, hr9⟩ := hq
          obtain ⟨v9, rfl, x9, rfl, -⟩ := hr9
          rw [a_Fz_nil hz]
          clear hz μ9
          show Z 0 97 [(4, .int bs), (3, .int (nI ((a + i) % 4))), (2, .int (nI i)), (1, .int x), (0, .ref 50)] [.int x9, .int (μ2.1 50 53), .int (μ2.1 50 45), .ref 50] μ2
          refine z_rcs hc hH 2 (pc' := 101) (lv' := [(4, .int bs), (3, .int (nI ((a + i) % 4))), (2, .int (nI i)), (1, .int x), (0, .ref 50)]) (st' := [.int (μ2.1 50 53), .int x9, .int (μ2.1 50 53), .int (μ2.1 50 45), .ref 50]) (μ' := μ2) (by rfl) ?_
          refine zq_if hc hH (by rfl) (tg := 115) (by rfl) (fun h2 => ?_) (fun h2 => ?_)
          · have h2 := cm_ne.mp h2
            refine z_rcs hc hH 2 (pc' := 117) (lv' := [(4, .int bs), (3, .int (nI ((a + i) % 4))), (2, .int (nI i)), (1, .int x), (0, .ref 50)]) (st' := [.int (x9 + 0), .int (μ2.1 50 53), .int (μ2.1 50 45), .ref 50]) (μ' := μ2) (by rfl) ?_
            rw [ea2, ew2]
            refine zq_call hc (z_cx_ok hH (by rfl)) (fc_X7_pays d' (by omega) μ2 a w _ ha4 (by omega) hB.1 hB.2.1) (by decide +kernel) (fun r9 μ9 hq => ?_)
            obtain ⟨rfl, q1, q2, q3⟩ := hq
            have hC := hB.to q1 q2 q3 (by decide)
            have eb3 : μ9.1 50 49 = nI b := by rw [a_Fz_at q3 50 49 (by decide), eb2]
            have ew3 : μ9.1 50 53 = nI w := by rw [a_Fz_at q3 50 53 (by decide), ew2]
            show Z 0 120 [(4, .int bs), (3, .int (nI ((a + i) % 4))), (2, .int (nI i)), (1, .int x), (0, .ref 50)] [] μ9
            refine z_rcs hc hH 1 (pc' := 121) (lv' := [(4, .int bs), (3, .int (nI ((a + i) % 4))), (2, .int (nI i)), (1, .int x), (0, .ref 50)]) (st' := [.int x]) (μ' := μ9) (by rfl) ?_
            refine zq_if hc hH (by rfl) (tg := 132) (by rfl) (fun h3 => ?_) (fun h3 => ?_)
            · have h3 := cm_ne.mp h3
              refine z_rcs hc hH 8 (pc' := 145) (lv' := [(1, .int 1), (4, .int bs), (3, .int (nI ((a + i) % 4))), (2, .int (nI i)), (0, .ref 50)]) (st' := [.int ((μ9.1 50 53) + 1), .ref 50]) (μ' := μ9) (by rfl) ?_
              rw [ew3, nI_1]
              refine z_rcs hc hH 3 (pc' := 9) (lv' := [(2, .int ((nI i) + 1)), (1, .int 1), (4, .int bs), (3, .int (nI ((a + i) % 4))), (0, .ref 50)]) (st' := []) (μ' := z_ui μ9 50 53 (nI (w + 1))) (by rfl) ?_
              rw [nI_1]
              exact (ih (i + 1) (by omega) (by omega) 1 _ _ (z_ui μ9 50 53 (nI (w + 1))) t1 ⟨hC.to (md := [(50, 53)]) (a_H_ui hC.1 (show bI 0 3 _ from bd_nI (by omega) ⟨by omega, by omega⟩)) (GW_ne hC.2.1 (by decide)) (a_Fz_ui (a_Fz_rf _ _) (by decide)) (by decide), eb3, w + 1, by omega, rfl⟩).1
            · have h3 := cn_ne.mp h3
              refine z_rcs hc hH 3 (pc' := 129) (lv' := [(4, .int bs), (3, .int (nI ((a + i) % 4))), (2, .int (nI i)), (1, .int x), (0, .ref 50)]) (st' := [.int (μ9.1 50 40), .int (nI ((a + i) % 4))]) (μ' := μ9) (by rfl) ?_
              refine zq_ic hc hH (by rfl) (tg := 136) (by rfl) (fun h4 => ?_) (fun h4 => ?_)
              · have h4 := cm_ne.mp h4
                refine z_rcs hc hH 7 (pc' := 145) (lv' := [(1, .int 0), (4, .int bs), (3, .int (nI ((a + i) % 4))), (2, .int (nI i)), (0, .ref 50)]) (st' := [.int ((μ9.1 50 53) + 1), .ref 50]) (μ' := μ9) (by rfl) ?_
                rw [ew3, nI_1]
                refine z_rcs hc hH 3 (pc' := 9) (lv' := [(2, .int ((nI i) + 1)), (1, .int 0), (4, .int bs), (3, .int (nI ((a + i) % 4))), (0, .ref 50)]) (st' := []) (μ' := z_ui μ9 50 53 (nI (w + 1))) (by rfl) ?_
                rw [nI_1]
                exact (ih (i + 1) (by omega) (by omega) 0 _ _ (z_ui μ9 50 53 (nI (w + 1))) t0 ⟨hC.to (md := [(50, 53)]) (a_H_ui hC.1 (show bI 0 3 _ from bd_nI (by omega) ⟨by omega, by omega⟩)) (GW_ne hC.2.1 (by decide)) (a_Fz_ui (a_Fz_rf _ _) (by decide)) (by decide), eb3, w + 1, by omega, rfl⟩).1
              · have h4 := cn_ne.mp h4
                refine z_rcs hc hH 8 (pc' := 145) (lv' := [(1, .int 1), (4, .int bs), (3, .int (nI ((a + i) % 4))), (2, .int (nI i)), (0, .ref 50)]) (st' := [.int ((μ9.1 50 53) + 1), .ref 50]) (μ' := μ9) (by rfl) ?_
                rw [ew3, nI_1]
                refine z_rcs hc hH 3 (pc' := 9) (lv' := [(2, .int ((nI i) + 1)), (1, .int 1), (4, .int bs), (3, .int (nI ((a + i) % 4))), (0, .ref 50)]) (st' := []) (μ' := z_ui μ9 50 53 (nI (w + 1))) (by rfl) ?_
                rw [nI_1]
                exact (ih (i + 1) (by omega) (by omega) 1 _ _ (z_ui μ9 50 53 (nI (w + 1))) t1 ⟨hC.to (md := [(50, 53)]) (a_H_ui hC.1 (show bI 0 3 _ from bd_nI (by omega) ⟨by omega, by omega⟩)) (GW_ne hC.2.1 (by decide)) (a_Fz_ui (a_Fz_rf _ _) (by decide)) (by decide), eb3, w + 1, by omega, rfl⟩).1
          · have h2 := cn_ne.mp h2
            refine z_rcs hc hH 6 (pc' := 117) (lv' := [(4, .int bs), (3, .int (nI ((a + i) % 4))), (2, .int (nI i)), (1, .int x), (0, .ref 50)]) (st' := [.int (x9 + (300 * (μ2.1 50 42))), .int (μ2.1 50 53), .int (μ2.1 50 45), .ref 50]) (μ' := μ2) (by rfl) ?_
            rw [ea2, ew2]
            refine zq_call hc (z_cx_ok hH (by rfl)) (fc_X7_pays d' (by omega) μ2 a w _ ha4 (by omega) hB.1 hB.2.1) (by decide +kernel) (fun r9 μ9 hq => ?_)
            obtain ⟨rfl, q1, q2, q3⟩ := hq
            have hC := hB.to q1 q2 q3 (by decide)
            have eb3 : μ9.1 50 49 = nI b := by rw [a_Fz_at q3 50 49 (by decide), eb2]
            have ew3 : μ9.1 50 53 = nI w := by rw [a_Fz_at q3 50 53 (by decide), ew2]
            show Z 0 120 [(4, .int bs), (3, .int (nI ((a + i) % 4))), (2, .int (nI i)), (1, .int x), (0, .ref 50)] [] μ9
            refine z_rcs hc hH 1 (pc' := 121) (lv' := [(4, .int bs), (3, .int (nI ((a + i) % 4))), (2, .int (nI i)), (1, .int x), (0, .ref 50)]) (st' := [.int x]) (μ' := μ9) (by rfl) ?_
            refine zq_if hc hH (by rfl) (tg := 132) (by rfl) (fun h5 => ?_) (fun h5 => ?_)
            · have h5 := cm_ne.mp h5
              refine z_rcs hc hH 8 (pc' := 145) (lv' := [(1, .int 1), (4, .int bs), (3, .int (nI ((a + i) % 4))), (2, .int (nI i)), (0, .ref 50)]) (st' := [.int ((μ9.1 50 53) + 1), .ref 50]) (μ' := μ9) (by rfl) ?_
              rw [ew3, nI_1]
              refine z_rcs hc hH 3 (pc' := 9) (lv' := [(2, .int ((nI i) + 1)), (1, .int 1), (4, .int bs), (3, .int (nI ((a + i) % 4))), (0, .ref 50)]) (st' := []) (μ' := z_ui μ9 50 53 (nI (w + 1))) (by rfl) ?_
              rw [nI_1]
              exact (ih (i + 1) (by omega) (by omega) 1 _ _ (z_ui μ9 50 53 (nI (w + 1))) t1 ⟨hC.to (md := [(50, 53)]) (a_H_ui hC.1 (show bI 0 3 _ from bd_nI (by omega) ⟨by omega, by omega⟩)) (GW_ne hC.2.1 (by decide)) (a_Fz_ui (a_Fz_rf _ _) (by decide)) (by decide), eb3, w + 1, by omega, rfl⟩).1
            · have h5 := cn_ne.mp h5
              refine z_rcs hc hH 3 (pc' := 129) (lv' := [(4, .int bs), (3, .int (nI ((a + i) % 4))), (2, .int (nI i)), (1, .int x), (0, .ref 50)]) (st' := [.int (μ9.1 50 40), .int (nI ((a + i) % 4))]) (μ' := μ9) (by rfl) ?_
              refine zq_ic hc hH (by rfl) (tg := 136) (by rfl) (fun h6 => ?_) (fun h6 => ?_)
              · have h6 := cm_ne.mp h6
                refine z_rcs hc hH 7 (pc' := 145) (lv' := [(1, .int 0), (4, .int bs), (3, .int (nI ((a + i) % 4))), (2, .int (nI i)), (0, .ref 50)]) (st' := [.int ((μ9.1 50 53) + 1), .ref 50]) (μ' := μ9) (by rfl) ?_
                rw [ew3, nI_1]
                refine z_rcs hc hH 3 (pc' := 9) (lv' := [(2, .int ((nI i) + 1)), (1, .int 0), (4, .int bs), (3, .int (nI ((a + i) % 4))), (0, .ref 50)]) (st' := []) (μ' := z_ui μ9 50 53 (nI (w + 1))) (by rfl) ?_
                rw [nI_1]
                exact (ih (i + 1) (by omega) (by omega) 0 _ _ (z_ui μ9 50 53 (nI (w + 1))) t0 ⟨hC.to (md := [(50, 53)]) (a_H_ui hC.1 (show bI 0 3 _ from bd_nI (by omega) ⟨by omega, by omega⟩)) (GW_ne hC.2.1 (by decide)) (a_Fz_ui (a_Fz_rf _ _) (by decide)) (by decide), eb3, w + 1, by omega, rfl⟩).1
              · have h6 := cn_ne.mp h6
                refine z_rcs hc hH 8 (pc' := 145) (lv' := [(1, .int 1), (4, .int bs), (3, .int (nI ((a + i) % 4))), (2, .int (nI i)), (0, .ref 50)]) (st' := [.int ((μ9.1 50 53) + 1), .ref 50]) (μ' := μ9) (by rfl) ?_
                rw [ew3, nI_1]
                refine z_rcs hc hH 3 (pc' := 9) (lv' := [(2, .int ((nI i) + 1)), (1, .int 1), (4, .int bs), (3, .int (nI ((a + i) % 4))), (0, .ref 50)]) (st' := []) (μ' := z_ui μ9 50 53 (nI (w + 1))) (by rfl) ?_
                rw [nI_1]
                exact (ih (i + 1) (by omega) (by omega) 1 _ _ (z_ui μ9 50 53 (nI (w + 1))) t1 ⟨hC.to (md := [(50, 53)]) (a_H_ui hC.1 (show bI 0 3 _ from bd_nI (by omega) ⟨by omega, by omega⟩)) (GW_ne hC.2.1 (by decide)) (a_Fz_ui (a_Fz_rf _ _) (by decide)) (by decide), eb3, w + 1, by omega, rfl⟩).1
        · have h1 := cn_ne.mp h1
          refine z_rcs hc hH 3 (pc' := 94) (lv' := [(4, .int bs), (3, .int (nI ((a + i) % 4))), (2, .int (nI i)), (1, .int x), (0, .ref 50)]) (st' := [.int (bs * 6), .int (μ2.1 50 53), .int (μ2.1 50 45), .ref 50]) (μ' := μ2) (by rfl) ?_
          refine zq_call hc (z_cx_ok hH (by rfl)) (bs_X7_up (by omega) [.int (bs * 6)] _ (aArg_pre ⟨⟨_, rfl, bI_top _⟩, trivial⟩ rfl) hB.1) (by decide +kernel) (fun r9 μ9 hq => ?_)
          obtain ⟨-, hz, hr9⟩ := hq
          obtain ⟨v9, rfl, x9, rfl, -⟩ := hr9
          rw [a_Fz_nil hz]
          clear hz μ9
          show Z 0 97 [(4, .int bs), (3, .int (nI ((a + i) % 4))), (2, .int (nI i)), (1, .int x), (0, .ref 50)] [.int x9, .int (μ2.1 50 53), .int (μ2.1 50 45), .ref 50] μ2
          refine z_rcs hc hH 2 (pc' := 101) (lv' := [(4, .int bs), (3, .int (nI ((a + i) % 4))), (2, .int (nI i)), (1, .int x), (0, .ref 50)]) (st' := [.int (μ2.1 50 53), .int x9, .int (μ2.1 50 53), .int (μ2.1 50 45), .ref 50]) (μ' := μ2) (by rfl) ?_
          refine zq_if hc hH (by rfl) (tg := 115) (by rfl) (fun h7 => ?_) (fun h7 => ?_)
          · have h7 := cm_ne.mp h7
            refine z_rcs hc hH 2 (pc' := 117) (lv' := [(4, .int bs), (3, .int (nI ((a + i) % 4))), (2, .int (nI i)), (1, .int x), (0, .ref 50)]) (st' := [.int (x9 + 0), .int (μ2.1 50 53), .int (μ2.1 50 45), .ref 50]) (μ' := μ2) (by rfl) ?_
            rw [ea2, ew2]
            refine zq_call hc (z_cx_ok hH (by rfl)) (fc_X7_pays d' (by omega) μ2 a w _ ha4 (by omega) hB.1 hB.2.1) (by decide +kernel) (fun r9 μ9 hq => ?_)
            obtain ⟨rfl, q1, q2, q3⟩ := hq
            have hC := hB.to q1 q2 q3 (by decide)
            have eb3 : μ9.1 50 49 = nI b := by rw [a_Fz_at q3 50 49 (by decide), eb2]
            have ew3 : μ9.1 50 53 = nI w := by rw [a_Fz_at q3 50 53 (by decide), ew2]
            show Z 0 120 [(4, .int bs), (3, .int (nI ((a + i) % 4))), (2, .int (nI i)), (1, .int x), (0, .ref 50)] [] μ9
            refine z_rcs hc hH 1 (pc' := 121) (lv' := [(4, .int bs), (3, .int (nI ((a + i) % 4))), (2, .int (nI i)), (1, .int x), (0, .ref 50)]) (st' := [.int x]) (μ' := μ9) (by rfl) ?_
            refine zq_if hc hH (by rfl) (tg := 132) (by rfl) (fun h8 => ?_) (fun h8 => ?_)
            · have h8 := cm_ne.mp h8
              refine z_rcs hc hH 8 (pc' := 145) (lv' := [(1, .int 1), (4, .int bs), (3, .int (nI ((a + i) % 4))), (2, .int (nI i)), (0, .ref 50)]) (st' := [.int ((μ9.1 50 53) + 1), .ref 50]) (μ' := μ9) (by rfl) ?_
              rw [ew3, nI_1]
              refine z_rcs hc hH 3 (pc' := 9) (lv' := [(2, .int ((nI i) + 1)), (1, .int 1), (4, .int bs), (3, .int (nI ((a + i) % 4))), (0, .ref 50)]) (st' := []) (μ' := z_ui μ9 50 53 (nI (w + 1))) (by rfl) ?_
              rw [nI_1]
              exact (ih (i + 1) (by omega) (by omega) 1 _ _ (z_ui μ9 50 53 (nI (w + 1))) t1 ⟨hC.to (md := [(50, 53)]) (a_H_ui hC.1 (show bI 0 3 _ from bd_nI (by omega) ⟨by omega, by omega⟩)) (GW_ne hC.2.1 (by decide)) (a_Fz_ui (a_Fz_rf _ _) (by decide)) (by decide), eb3, w + 1, by omega, rfl⟩).1
            · have h8 := cn_ne.mp h8
              refine z_rcs hc hH 3 (pc' := 129) (lv' := [(4, .int bs), (3, .int (nI ((a + i) % 4))), (2, .int (nI i)), (1, .int x), (0, .ref 50)]) (st' := [.int (μ9.1 50 40), .int (nI ((a + i) % 4))]) (μ' := μ9) (by rfl) ?_
              refine zq_ic hc hH (by rfl) (tg := 136) (by rfl) (fun h9 => ?_) (fun h9 => ?_)
              · have h9 := cm_ne.mp h9
                refine z_rcs hc hH 7 (pc' := 145) (lv' := [(1, .int 0), (4, .int bs), (3, .int (nI ((a + i) % 4))), (2, .int (nI i)), (0, .ref 50)]) (st' := [.int ((μ9.1 50 53) + 1), .ref 50]) (μ' := μ9) (by rfl) ?_
                rw [ew3, nI_1]
                refine z_rcs hc hH 3 (pc' := 9) (lv' := [(2, .int ((nI i) + 1)), (1, .int 0), (4, .int bs), (3, .int (nI ((a + i) % 4))), (0, .ref 50)]) (st' := []) (μ' := z_ui μ9 50 53 (nI (w + 1))) (by rfl) ?_
                rw [nI_1]
                exact (ih (i + 1) (by omega) (by omega) 0 _ _ (z_ui μ9 50 53 (nI (w + 1))) t0 ⟨hC.to (md := [(50, 53)]) (a_H_ui hC.1 (show bI 0 3 _ from bd_nI (by omega) ⟨by omega, by omega⟩)) (GW_ne hC.2.1 (by decide)) (a_Fz_ui (a_Fz_rf _ _) (by decide)) (by decide), eb3, w + 1, by omega, rfl⟩).1
              · have h9 := cn_ne.mp h9
                refine z_rcs hc hH 8 (pc' := 145) (lv' := [(1, .int 1), (4, .int bs), (3, .int (nI ((a + i) % 4))), (2, .int (nI i)), (0, .ref 50)]) (st' := [.int ((μ9.1 50 53) + 1), .ref 50]) (μ' := μ9) (by rfl) ?_
                rw [ew3, nI_1]
                refine z_rcs hc hH 3 (pc' := 9) (lv' := [(2, .int ((nI i) + 1)), (1, .int 1), (4, .int bs), (3, .int (nI ((a + i) % 4))), (0, .ref 50)]) (st' := []) (μ' := z_ui μ9 50 53 (nI (w + 1))) (by rfl) ?_
                rw [nI_1]
                exact (ih (i + 1) (by omega) (by omega) 1 _ _ (z_ui μ9 50 53 (nI (w + 1))) t1 ⟨hC.to (md := [(50, 53)]) (a_H_ui hC.1 (show bI 0 3 _ from bd_nI (by omega) ⟨by omega, by omega⟩)) (GW_ne hC.2.1 (by decide)) (a_Fz_ui (a_Fz_rf _ _) (by decide)) (by decide), eb3, w + 1, by omega, rfl⟩).1
          · have h7 := cn_ne.mp h7
            refine z_rcs hc hH 6 (pc' := 117) (lv' := [(4, .int bs), (3, .int (nI ((a + i) % 4))), (2, .int (nI i)), (1, .int x), (0, .ref 50)]) (st' := [.int (x9 + (300 * (μ2.1 50 42))), .int (μ2.1 50 53), .int (μ2.1 50 45), .ref 50]) (μ' := μ2) (by rfl) ?_
            rw [ea2, ew2]
            refine zq_call hc (z_cx_ok hH (by rfl)) (fc_X7_pays d' (by omega) μ2 a w _ ha4 (by omega) hB.1 hB.2.1) (by decide +kernel) (fun r9 μ9 hq => ?_)
            obtain ⟨rfl, q1, q2, q3⟩ := hq
            have hC := hB.to q1 q2 q3 (by decide)
            have eb3 : μ9.1 50 49 = nI b := by rw [a_Fz_at q3 50 49 (by decide), eb2]
            have ew3 : μ9.1 50 53 = nI w := by rw [a_Fz_at q3 50 53 (by decide), ew2]
            show Z 0 120 [(4, .int bs), (3, .int (nI ((a + i) % 4))), (2, .int (nI i)), (1, .int x), (0, .ref 50)] [] μ9
            refine z_rcs hc hH 1 (pc' := 121) (lv' := [(4, .int bs), (3, .int (nI ((a + i) % 4))), (2, .int (nI i)), (1, .int x), (0, .ref 50)]) (st' := [.int x]) (μ' := μ9) (by rfl) ?_
            refine zq_if hc hH (by rfl) (tg := 132) (by rfl) (fun h10 => ?_) (fun h10 => ?_)
            · have h10 := cm_ne.mp h10
              refine z_rcs hc hH 8 (pc' := 145) (lv' := [(1, .int 1), (4, .int bs), (3, .int (nI ((a + i) % 4))), (2, .int (nI i)), (0, .ref 50)]) (st' := [.int ((μ9.1 50 53) + 1), .ref 50]) (μ' := μ9) (by rfl) ?_
              rw [ew3, nI_1]
              refine z_rcs hc hH 3 (pc' := 9) (lv' := [(2, .int ((nI i) + 1)), (1, .int 1), (4, .int bs), (3, .int (nI ((a + i) % 4))), (0, .ref 50)]) (st' := []) (μ' := z_ui μ9 50 53 (nI (w + 1))) (by rfl) ?_
              rw [nI_1]
              exact (ih (i + 1) (by omega) (by omega) 1 _ _ (z_ui μ9 50 53 (nI (w + 1))) t1 ⟨hC.to (md := [(50, 53)]) (a_H_ui hC.1 (show bI 0 3 _ from bd_nI (by omega) ⟨by omega, by omega⟩)) (GW_ne hC.2.1 (by decide)) (a_Fz_ui (a_Fz_rf _ _) (by decide)) (by decide), eb3, w + 1, by omega, rfl⟩).1
            · have h10 := cn_ne.mp h10
              refine z_rcs hc hH 3 (pc' := 129) (lv' := [(4, .int bs), (3, .int (nI ((a + i) % 4))), (2, .int (nI i)), (1, .int x), (0, .ref 50)]) (st' := [.int (μ9.1 50 40), .int (nI ((a + i) % 4))]) (μ' := μ9) (by rfl) ?_
              refine zq_ic hc hH (by rfl) (tg := 136) (by rfl) (fun h11 => ?_) (fun h11 => ?_)
              · have h11 := cm_ne.mp h11
                refine z_rcs hc hH 7 (pc' := 145) (lv' := [(1, .int 0), (4, .int bs), (3, .int (nI ((a + i) % 4))), (2, .int (nI i)), (0, .ref 50)]) (st' := [.int ((μ9.1 50 53) + 1), .ref 50]) (μ' := μ9) (by rfl) ?_
                rw [ew3, nI_1]
                refine z_rcs hc hH 3 (pc' := 9) (lv' := [(2, .int ((nI i) + 1)), (1, .int 0), (4, .int bs), (3, .int (nI ((a + i) % 4))), (0, .ref 50)]) (st' := []) (μ' := z_ui μ9 50 53 (nI (w + 1))) (by rfl) ?_
                rw [nI_1]
                exact (ih (i + 1) (by omega) (by omega) 0 _ _ (z_ui μ9 50 53 (nI (w + 1))) t0 ⟨hC.to (md := [(50, 53)]) (a_H_ui hC.1 (show bI 0 3 _ from bd_nI (by omega) ⟨by omega, by omega⟩)) (GW_ne hC.2.1 (by decide)) (a_Fz_ui (a_Fz_rf _ _) (by decide)) (by decide), eb3, w + 1, by omega, rfl⟩).1
              · have h11 := cn_ne.mp h11
                refine z_rcs hc hH 8 (pc' := 145) (lv' := [(1, .int 1), (4, .int bs), (3, .int (nI ((a + i) % 4))), (2, .int (nI i)), (0, .ref 50)]) (st' := [.int ((μ9.1 50 53) + 1), .ref 50]) (μ' := μ9) (by rfl) ?_
                rw [ew3, nI_1]
                refine z_rcs hc hH 3 (pc' := 9) (lv' := [(2, .int ((nI i) + 1)), (1, .int 1), (4, .int bs), (3, .int (nI ((a + i) % 4))), (0, .ref 50)]) (st' := []) (μ' := z_ui μ9 50 53 (nI (w + 1))) (by rfl) ?_
                rw [nI_1]
                exact (ih (i + 1) (by omega) (by omega) 1 _ _ (z_ui μ9 50 53 (nI (w + 1))) t1 ⟨hC.to (md := [(50, 53)]) (a_H_ui hC.1 (show bI 0 3 _ from bd_nI (by omega) ⟨by omega, by omega⟩)) (GW_ne hC.2.1 (by decide)) (a_Fz_ui (a_Fz_rf _ _) (by decide)) (by decide), eb3, w + 1, by omega, rfl⟩).1
      refine ⟨?_, ?_, ?_, ?_⟩
      · skip
        refine z_rcs hc hH 2 (pc' := 11) (lv' := [(2, .int (nI i)), (1, .int x), (4, .int y), (3, .int z), (0, .ref 50)]) (st' := [.int 4, .int (nI i)]) (μ' := μ1) (by rfl) ?_
        refine zq_ic hc hH (by rfl) (tg := 154) (by rfl) (fun h9 => (zb_t h9 (ge_nI (n := 4) (i := i) (by omega) (by decide))).elim) (fun _ => ?_)
        refine z_rcs hc hH 6 (pc' := 22) (lv' := [(2, .int (nI i)), (1, .int x), (4, .int y), (3, .int z), (0, .ref 50)]) (st' := [.int (((μ1.1 50 45) + (nI i)) - ((μ1.1 50 45) + (nI i)) / 4 * 4)]) (μ' := μ1) (by rfl) ?_
        rw [ea1, nI_add, nI_r4 _ (by omega)]
        refine z_rcs hc hH 4 (pc' := 28) (lv' := [(3, .int (nI ((a + i) % 4))), (2, .int (nI i)), (1, .int x), (4, .int y), (0, .ref 50)]) (st' := [.int (nI ((a + i) % 4)), .ref 71]) (μ' := μ1) (by rfl) ?_
        refine zq_bald hc hH (by rfl) 4 (by decide +kernel) (vp_in_nI he (by decide)) ?_
        refine zq_if hc hH (by rfl) (tg := 35) (by rfl) (fun h1 => ?_) (fun h1 => ?_)
        · have h1 := cm_ne.mp h1
          refine z_rcs hc hH 5 (pc' := 42) (lv' := [(3, .int (nI ((a + i) % 4))), (2, .int (nI i)), (1, .int x), (4, .int y), (0, .ref 50)]) (st' := [.int 0, .int (μ1.1 50 49), .int (nI ((a + i) % 4)), .ref 50]) (μ' := μ1) (by rfl) ?_
          rw [eb1]
          refine zq_call hc (z_cx_ok hH (by rfl)) (a_use (i := 121) (K := ak_121) rfl (by omega) [.ref 50, .int (nI ((a + i) % 4)), .int (nI b), .int 0] _ (aArg_pre ⟨⟨50, by decide, rfl⟩, ⟨_, rfl, (show bI 0 3 _ from bd_nI (by omega) ⟨by omega, by omega⟩)⟩, ⟨_, rfl, (show bI 0 33 _ from bd_nI (by omega) ⟨by omega, by omega⟩)⟩, ⟨0, rfl, by decide, by decide⟩, trivial⟩ rfl) hS.1) (by decide +kernel) (fun r9 μ9 hq => ?_)
          obtain ⟨q1, q3, rfl⟩ := hq
          have hB := hS.to q1 (GW_keep hS.2.1 q3 (by decide)) q3 (by decide)
          have eb2 : μ9.1 50 49 = nI b := by rw [a_Fz_at q3 50 49 (by decide), eb1]
          have ew2 : μ9.1 50 53 = nI w := by rw [a_Fz_at q3 50 53 (by decide), ew]
          show Z 0 45 [(3, .int (nI ((a + i) % 4))), (2, .int (nI i)), (1, .int x), (4, .int y), (0, .ref 50)] [] μ9
          refine z_rcs hc hH 8 (pc' := 59) (lv' := [(3, .int (nI ((a + i) % 4))), (2, .int (nI i)), (1, .int x), (4, .int y), (0, .ref 50)]) (st' := [.int (μ9.1 50 49), .int (μ9.1 50 45), .int (nI ((a + i) % 4)), .int (μ9.1 50 53), .ref 50]) (μ' := μ9) (by rfl) ?_
          rw [ew2]
          refine zq_call hc (z_cx_ok hH (by rfl)) (fc_X7_writes d' (by omega) μ9 w ((a + i) % 4) _ _ (by omega) he hB.1 hB.2.1) (by decide +kernel) (fun r8 μ8 hq => ?_)
          obtain ⟨rfl, q4, q5, q6⟩ := hq
          have hC := hB.to q4 q5 q6 (by decide)
          show Z 0 62 [(3, .int (nI ((a + i) % 4))), (2, .int (nI i)), (1, .int x), (4, .int y), (0, .ref 50)] [] μ8
          refine z_rcs hc hH 3 (pc' := 68) (lv' := [(4, .int (μ8.1 50 13)), (3, .int (nI ((a + i) % 4))), (2, .int (nI i)), (1, .int x), (0, .ref 50)]) (st' := []) (μ' := μ8) (by rfl) ?_
          exact mid _ μ8 hC (by rw [a_Fz_at q6 50 49 (by decide), eb2]) (by rw [a_Fz_at q6 50 53 (by decide), ew2])
        · have h1 := cn_ne.mp h1
          refine z_rcs hc hH 3 (pc' := 9) (lv' := [(2, .int ((nI i) + 1)), (3, .int (nI ((a + i) % 4))), (1, .int x), (4, .int y), (0, .ref 50)]) (st' := []) (μ' := μ1) (by rfl) ?_
          rw [nI_1]
          exact (ih (i + 1) (by omega) (by omega) x _ _ _ hx ⟨hS, eb1, w, by omega, ew⟩).2.1
      · skip
        refine z_rcs hc hH 2 (pc' := 11) (lv' := [(2, .int (nI i)), (3, .int z), (1, .int x), (4, .int y), (0, .ref 50)]) (st' := [.int 4, .int (nI i)]) (μ' := μ1) (by rfl) ?_
        refine zq_ic hc hH (by rfl) (tg := 154) (by rfl) (fun h9 => (zb_t h9 (ge_nI (n := 4) (i := i) (by omega) (by decide))).elim) (fun _ => ?_)
        refine z_rcs hc hH 6 (pc' := 22) (lv' := [(2, .int (nI i)), (3, .int z), (1, .int x), (4, .int y), (0, .ref 50)]) (st' := [.int (((μ1.1 50 45) + (nI i)) - ((μ1.1 50 45) + (nI i)) / 4 * 4)]) (μ' := μ1) (by rfl) ?_
        rw [ea1, nI_add, nI_r4 _ (by omega)]
        refine z_rcs hc hH 4 (pc' := 28) (lv' := [(3, .int (nI ((a + i) % 4))), (2, .int (nI i)), (1, .int x), (4, .int y), (0, .ref 50)]) (st' := [.int (nI ((a + i) % 4)), .ref 71]) (μ' := μ1) (by rfl) ?_
        refine zq_bald hc hH (by rfl) 4 (by decide +kernel) (vp_in_nI he (by decide)) ?_
        refine zq_if hc hH (by rfl) (tg := 35) (by rfl) (fun h1 => ?_) (fun h1 => ?_)
        · have h1 := cm_ne.mp h1
          refine z_rcs hc hH 5 (pc' := 42) (lv' := [(3, .int (nI ((a + i) % 4))), (2, .int (nI i)), (1, .int x), (4, .int y), (0, .ref 50)]) (st' := [.int 0, .int (μ1.1 50 49), .int (nI ((a + i) % 4)), .ref 50]) (μ' := μ1) (by rfl) ?_
          rw [eb1]
          refine zq_call hc (z_cx_ok hH (by rfl)) (a_use (i := 121) (K := ak_121) rfl (by omega) [.ref 50, .int (nI ((a + i) % 4)), .int (nI b), .int 0] _ (aArg_pre ⟨⟨50, by decide, rfl⟩, ⟨_, rfl, (show bI 0 3 _ from bd_nI (by omega) ⟨by omega, by omega⟩)⟩, ⟨_, rfl, (show bI 0 33 _ from bd_nI (by omega) ⟨by omega, by omega⟩)⟩, ⟨0, rfl, by decide, by decide⟩, trivial⟩ rfl) hS.1) (by decide +kernel) (fun r9 μ9 hq => ?_)
          obtain ⟨q1, q3, rfl⟩ := hq
          have hB := hS.to q1 (GW_keep hS.2.1 q3 (by decide)) q3 (by decide)
          have eb2 : μ9.1 50 49 = nI b := by rw [a_Fz_at q3 50 49 (by decide), eb1]
          have ew2 : μ9.1 50 53 = nI w := by rw [a_Fz_at q3 50 53 (by decide), ew]
          show Z 0 45 [(3, .int (nI ((a + i) % 4))), (2, .int (nI i)), (1, .int x), (4, .int y), (0, .ref 50)] [] μ9
          refine z_rcs hc hH 8 (pc' := 59) (lv' := [(3, .int (nI ((a + i) % 4))), (2, .int (nI i)), (1, .int x), (4, .int y), (0, .ref 50)]) (st' := [.int (μ9.1 50 49), .int (μ9.1 50 45), .int (nI ((a + i) % 4)), .int (μ9.1 50 53), .ref 50]) (μ' := μ9) (by rfl) ?_
          rw [ew2]
          refine zq_call hc (z_cx_ok hH (by rfl)) (fc_X7_writes d' (by omega) μ9 w ((a + i) % 4) _ _ (by omega) he hB.1 hB.2.1) (by decide +kernel) (fun r8 μ8 hq => ?_)
          obtain ⟨rfl, q4, q5, q6⟩ := hq
          have hC := hB.to q4 q5 q6 (by decide)
          show Z 0 62 [(3, .int (nI ((a + i) % 4))), (2, .int (nI i)), (1, .int x), (4, .int y), (0, .ref 50)] [] μ8
          refine z_rcs hc hH 3 (pc' := 68) (lv' := [(4, .int (μ8.1 50 13)), (3, .int (nI ((a + i) % 4))), (2, .int (nI i)), (1, .int x), (0, .ref 50)]) (st' := []) (μ' := μ8) (by rfl) ?_
          exact mid _ μ8 hC (by rw [a_Fz_at q6 50 49 (by decide), eb2]) (by rw [a_Fz_at q6 50 53 (by decide), ew2])
        · have h1 := cn_ne.mp h1
          refine z_rcs hc hH 3 (pc' := 9) (lv' := [(2, .int ((nI i) + 1)), (3, .int (nI ((a + i) % 4))), (1, .int x), (4, .int y), (0, .ref 50)]) (st' := []) (μ' := μ1) (by rfl) ?_
          rw [nI_1]
          exact (ih (i + 1) (by omega) (by omega) x _ _ _ hx ⟨hS, eb1, w, by omega, ew⟩).2.1
      · skip
        refine z_rcs hc hH 2 (pc' := 11) (lv' := [(2, .int (nI i)), (3, .int z), (1, .int x), (0, .ref 50)]) (st' := [.int 4, .int (nI i)]) (μ' := μ1) (by rfl) ?_
        refine zq_ic hc hH (by rfl) (tg := 154) (by rfl) (fun h9 => (zb_t h9 (ge_nI (n := 4) (i := i) (by omega) (by decide))).elim) (fun _ => ?_)
        refine z_rcs hc hH 6 (pc' := 22) (lv' := [(2, .int (nI i)), (3, .int z), (1, .int x), (0, .ref 50)]) (st' := [.int (((μ1.1 50 45) + (nI i)) - ((μ1.1 50 45) + (nI i)) / 4 * 4)]) (μ' := μ1) (by rfl) ?_
        rw [ea1, nI_add, nI_r4 _ (by omega)]
        refine z_rcs hc hH 4 (pc' := 28) (lv' := [(3, .int (nI ((a + i) % 4))), (2, .int (nI i)), (1, .int x), (0, .ref 50)]) (st' := [.int (nI ((a + i) % 4)), .ref 71]) (μ' := μ1) (by rfl) ?_
        refine zq_bald hc hH (by rfl) 4 (by decide +kernel) (vp_in_nI he (by decide)) ?_
        refine zq_if hc hH (by rfl) (tg := 35) (by rfl) (fun h1 => ?_) (fun h1 => ?_)
        · have h1 := cm_ne.mp h1
          refine z_rcs hc hH 5 (pc' := 42) (lv' := [(3, .int (nI ((a + i) % 4))), (2, .int (nI i)), (1, .int x), (0, .ref 50)]) (st' := [.int 0, .int (μ1.1 50 49), .int (nI ((a + i) % 4)), .ref 50]) (μ' := μ1) (by rfl) ?_
          rw [eb1]
          refine zq_call hc (z_cx_ok hH (by rfl)) (a_use (i := 121) (K := ak_121) rfl (by omega) [.ref 50, .int (nI ((a + i) % 4)), .int (nI b), .int 0] _ (aArg_pre ⟨⟨50, by decide, rfl⟩, ⟨_, rfl, (show bI 0 3 _ from bd_nI (by omega) ⟨by omega, by omega⟩)⟩, ⟨_, rfl, (show bI 0 33 _ from bd_nI (by omega) ⟨by omega, by omega⟩)⟩, ⟨0, rfl, by decide, by decide⟩, trivial⟩ rfl) hS.1) (by decide +kernel) (fun r9 μ9 hq => ?_)
          obtain ⟨q1, q3, rfl⟩ := hq
          have hB := hS.to q1 (GW_keep hS.2.1 q3 (by decide)) q3 (by decide)
          have eb2 : μ9.1 50 49 = nI b := by rw [a_Fz_at q3 50 49 (by decide), eb1]
          have ew2 : μ9.1 50 53 = nI w := by rw [a_Fz_at q3 50 53 (by decide), ew]
          show Z 0 45 [(3, .int (nI ((a + i) % 4))), (2, .int (nI i)), (1, .int x), (0, .ref 50)] [] μ9
          refine z_rcs hc hH 8 (pc' := 59) (lv' := [(3, .int (nI ((a + i) % 4))), (2, .int (nI i)), (1, .int x), (0, .ref 50)]) (st' := [.int (μ9.1 50 49), .int (μ9.1 50 45), .int (nI ((a + i) % 4)), .int (μ9.1 50 53), .ref 50]) (μ' := μ9) (by rfl) ?_
          rw [ew2]
          refine zq_call hc (z_cx_ok hH (by rfl)) (fc_X7_writes d' (by omega) μ9 w ((a + i) % 4) _ _ (by omega) he hB.1 hB.2.1) (by decide +kernel) (fun r8 μ8 hq => ?_)
          obtain ⟨rfl, q4, q5, q6⟩ := hq
          have hC := hB.to q4 q5 q6 (by decide)
          show Z 0 62 [(3, .int (nI ((a + i) % 4))), (2, .int (nI i)), (1, .int x), (0, .ref 50)] [] μ8
          refine z_rcs hc hH 3 (pc' := 68) (lv' := [(4, .int (μ8.1 50 13)), (3, .int (nI ((a + i) % 4))), (2, .int (nI i)), (1, .int x), (0, .ref 50)]) (st' := []) (μ' := μ8) (by rfl) ?_
          exact mid _ μ8 hC (by rw [a_Fz_at q6 50 49 (by decide), eb2]) (by rw [a_Fz_at q6 50 53 (by decide), ew2])
        · have h1 := cn_ne.mp h1
          refine z_rcs hc hH 3 (pc' := 9) (lv' := [(2, .int ((nI i) + 1)), (3, .int (nI ((a + i) % 4))), (1, .int x), (0, .ref 50)]) (st' := []) (μ' := μ1) (by rfl) ?_
          rw [nI_1]
          exact (ih (i + 1) (by omega) (by omega) x y _ _ hx ⟨hS, eb1, w, by omega, ew⟩).2.2.1
      · skip
        refine z_rcs hc hH 2 (pc' := 11) (lv' := [(2, .int (nI i)), (1, .int x), (0, .ref 50)]) (st' := [.int 4, .int (nI i)]) (μ' := μ1) (by rfl) ?_
        refine zq_ic hc hH (by rfl) (tg := 154) (by rfl) (fun h9 => (zb_t h9 (ge_nI (n := 4) (i := i) (by omega) (by decide))).elim) (fun _ => ?_)
        refine z_rcs hc hH 6 (pc' := 22) (lv' := [(2, .int (nI i)), (1, .int x), (0, .ref 50)]) (st' := [.int (((μ1.1 50 45) + (nI i)) - ((μ1.1 50 45) + (nI i)) / 4 * 4)]) (μ' := μ1) (by rfl) ?_
        rw [ea1, nI_add, nI_r4 _ (by omega)]
        refine z_rcs hc hH 4 (pc' := 28) (lv' := [(3, .int (nI ((a + i) % 4))), (2, .int (nI i)), (1, .int x), (0, .ref 50)]) (st' := [.int (nI ((a + i) % 4)), .ref 71]) (μ' := μ1) (by rfl) ?_
        refine zq_bald hc hH (by rfl) 4 (by decide +kernel) (vp_in_nI he (by decide)) ?_
        refine zq_if hc hH (by rfl) (tg := 35) (by rfl) (fun h1 => ?_) (fun h1 => ?_)
        · have h1 := cm_ne.mp h1
          refine z_rcs hc hH 5 (pc' := 42) (lv' := [(3, .int (nI ((a + i) % 4))), (2, .int (nI i)), (1, .int x), (0, .ref 50)]) (st' := [.int 0, .int (μ1.1 50 49), .int (nI ((a + i) % 4)), .ref 50]) (μ' := μ1) (by rfl) ?_
          rw [eb1]
          refine zq_call hc (z_cx_ok hH (by rfl)) (a_use (i := 121) (K := ak_121) rfl (by omega) [.ref 50, .int (nI ((a + i) % 4)), .int (nI b), .int 0] _ (aArg_pre ⟨⟨50, by decide, rfl⟩, ⟨_, rfl, (show bI 0 3 _ from bd_nI (by omega) ⟨by omega, by omega⟩)⟩, ⟨_, rfl, (show bI 0 33 _ from bd_nI (by omega) ⟨by omega, by omega⟩)⟩, ⟨0, rfl, by decide, by decide⟩, trivial⟩ rfl) hS.1) (by decide +kernel) (fun r9 μ9 hq => ?_)
          obtain ⟨q1, q3, rfl⟩ := hq
          have hB := hS.to q1 (GW_keep hS.2.1 q3 (by decide)) q3 (by decide)
          have eb2 : μ9.1 50 49 = nI b := by rw [a_Fz_at q3 50 49 (by decide), eb1]
          have ew2 : μ9.1 50 53 = nI w := by rw [a_Fz_at q3 50 53 (by decide), ew]
          show Z 0 45 [(3, .int (nI ((a + i) % 4))), (2, .int (nI i)), (1, .int x), (0, .ref 50)] [] μ9
          refine z_rcs hc hH 8 (pc' := 59) (lv' := [(3, .int (nI ((a + i) % 4))), (2, .int (nI i)), (1, .int x), (0, .ref 50)]) (st' := [.int (μ9.1 50 49), .int (μ9.1 50 45), .int (nI ((a + i) % 4)), .int (μ9.1 50 53), .ref 50]) (μ' := μ9) (by rfl) ?_
          rw [ew2]
          refine zq_call hc (z_cx_ok hH (by rfl)) (fc_X7_writes d' (by omega) μ9 w ((a + i) % 4) _ _ (by omega) he hB.1 hB.2.1) (by decide +kernel) (fun r8 μ8 hq => ?_)
          obtain ⟨rfl, q4, q5, q6⟩ := hq
          have hC := hB.to q4 q5 q6 (by decide)
          show Z 0 62 [(3, .int (nI ((a + i) % 4))), (2, .int (nI i)), (1, .int x), (0, .ref 50)] [] μ8
          refine z_rcs hc hH 3 (pc' := 68) (lv' := [(4, .int (μ8.1 50 13)), (3, .int (nI ((a + i) % 4))), (2, .int (nI i)), (1, .int x), (0, .ref 50)]) (st' := []) (μ' := μ8) (by rfl) ?_
          exact mid _ μ8 hC (by rw [a_Fz_at q6 50 49 (by decide), eb2]) (by rw [a_Fz_at q6 50 53 (by decide), ew2])
        · have h1 := cn_ne.mp h1
          refine z_rcs hc hH 3 (pc' := 9) (lv' := [(2, .int ((nI i) + 1)), (3, .int (nI ((a + i) % 4))), (1, .int x), (0, .ref 50)]) (st' := []) (μ' := μ1) (by rfl) ?_
          rw [nI_1]
          exact (ih (i + 1) (by omega) (by omega) x y _ _ hx ⟨hS, eb1, w, by omega, ew⟩).2.2.1
  refine z_rcs hc hH 7 (pc' := 9) (lv' := [(2, .int 1), (1, .int 0), (0, .ref 50)]) (st' := []) (μ' := z_ui μ 50 53 0) (by rfl) ?_
  exact (lp 3 1 rfl (by decide) 0 0 0 (z_ui μ 50 53 0) ⟨by decide, by decide⟩ ⟨⟨a_H_ui ha ⟨by decide, by decide⟩, GW_ne hg (by decide), a_Fz_ui (a_Fz_rf _ _) (by decide)⟩, eb, 0, by decide, rfl⟩).2.2.2

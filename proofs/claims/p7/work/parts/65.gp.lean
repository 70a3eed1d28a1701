/-! pass keeps the game -/
abbrev md_G : List (Nat × Nat) := [(50, 0), (50, 1), (50, 2), (50, 3), (50, 4), (50, 5), (50, 6), (50, 7), (50, 8), (50, 9), (50, 10), (50, 11), (50, 12), (50, 13), (50, 14), (50, 15), (50, 16), (50, 17), (50, 18), (50, 19), (50, 20), (50, 21), (50, 22), (50, 23), (50, 24), (50, 25), (50, 26), (50, 27), (50, 28), (50, 29), (50, 30), (50, 31), (50, 32), (50, 33), (50, 34), (50, 35), (50, 36), (50, 37), (50, 38), (50, 39), (50, 40), (50, 41), (50, 42), (50, 43), (50, 44), (50, 45), (50, 46), (50, 47), (50, 48), (50, 49), (50, 50), (50, 51), (50, 52), (50, 53), (50, 54), (50, 55), (50, 56), (50, 57), (50, 58), (50, 59), (50, 60), (50, 61), (50, 62), (50, 63), (50, 64), (50, 65), (50, 67), (51, 9999), (52, 9999), (53, 9999), (54, 9999), (55, 9999), (56, 9999), (57, 9999), (58, 9999), (59, 9999), (60, 9999), (61, 9999), (62, 9999), (63, 9999), (64, 9999), (65, 9999), (66, 9999), (67, 9999), (68, 9999), (69, 9999), (70, 9999), (71, 9999), (72, 9999), (73, 9999), (77, 9999), (79, 9999)]
theorem left0 {x y : Int32} (hx : 0 ≤ x.toInt ∧ x.toInt ≤ 122) (hy : 0 ≤ y.toInt ∧ y.toInt ≤ 4) (h : x.toInt + y.toInt = 122) : 122 - y - x = 0 := by
  have b : bI (122 - y.toInt) (122 - y.toInt) (122 - y) := bI_sub (a := 122) (b := 122) (c := y.toInt) (d := y.toInt) rfl ⟨by decide, by decide⟩ ⟨Int.le_refl _, Int.le_refl _⟩ ⟨by omega, by omega, by omega, by omega⟩
  have c : bI (122 - y.toInt - x.toInt) (122 - y.toInt - x.toInt) (122 - y - x) := bI_sub (c := x.toInt) (d := x.toInt) rfl b ⟨Int.le_refl _, Int.le_refl _⟩ ⟨by omega, by omega, by omega, by omega⟩
  refine Int32.toInt_inj.mp ?_
  have := c.1
  have := c.2
  show _ = (0 : Int)
  omega
def zPG (μ : zM) (r : Option Value) (μ' : zM) : Prop := (∃ x, r = some (.int x)) ∧ GI μ' ∧ a_Fz md_G μ μ'
theorem GH.lim {μ : zM} {l l' : Nat → Int} (h : GH μ l) (hl : ∀ s, s < 4 → l s ≤ l' s) : GH μ l' := ⟨h.1, fun s hs4 => Int.le_trans (h.2 s hs4) (hl s hs4)⟩
theorem GP.flat {μ : zM} (h : GP μ) (hp : ¬ μ.1 50 44 = 1) : GH μ (fun _ => 13) := h.1.lim (fun s _ => by unfold glim; rw [if_neg (fun q => hp q.1)]; exact Int.le_refl _)
theorem mI_nn {μ : zM} (h : a_H μ) (s : Nat) : 0 ≤ mI μ s := (h 64 s).1
theorem ph2 {x : Int32} (h : (2 : Int32) ≤ x) : ¬ x = 0 ∧ ¬ x = 1 := ⟨fun e => by rw [e] at h; exact absurd h (by decide), fun e => by rw [e] at h; exact absurd h (by decide)⟩
theorem GP_drawn {μ1 μ' : zM} {a c : Nat} (ha : a < 4) (hc : c < 34) (hz : a_Fz md_draws μ1 μ') (hH : a_H μ1) (h1 : GH μ1 (fun _ => 13)) (e44 : μ'.1 50 44 = 1) (e45 : μ'.1 50 45 = nI a) (e49 : μ'.1 50 49 = nI c) (e60 : ∀ j, μ'.1 60 j = (z_giv μ1 a c 1).1 60 j) (h46 : (μ'.1 50 46).toInt + (μ1.1 50 47).toInt ≤ 122) (h48 : μ'.1 50 48 = μ1.1 50 47) (hR : sR μ1 + 53 ≤ (μ'.1 50 46).toInt + (μ'.1 50 48).toInt + sM μ1) : GP μ' := by
  have c47 : μ'.1 50 47 = μ1.1 50 47 := a_Fz_at hz 50 47 (by decide)
  have r64 : ∀ k, μ'.1 64 k = μ1.1 64 k := fun k => a_Fz_at hz 64 k (a_md_row (by decide))
  have r66 : ∀ k, μ'.1 66 k = μ1.1 66 k := fun k => a_Fz_at hz 66 k (a_md_row (by decide))
  have em : ∀ s, mI μ' s = mI μ1 s := fun s => by unfold mI; rw [r64]
  have eM : sM μ' = sM μ1 := by unfold sM; simp only [em]
  have eR : sR μ' = sR μ1 := by unfold sR rI; simp only [r66]
  have e : ∀ j, μ'.1 60 j = if j = 34 * a + c then μ1.1 60 j + 1 else μ1.1 60 j := fun j => by
    rw [e60]; unfold z_giv; rw [z_ui_rd]
    by_cases q : j = 34 * a + c
    · rw [if_pos ⟨rfl, q⟩, if_pos q, q]
    · rw [if_neg (fun z => q z.2), if_neg q]
  have hr := HR_of h1 (fun _ _ => by decide) (fun s _ => mI_nn hH s) ha hc (n := 1) (by decide) e
  have hr : HR μ1 μ' a c 1 := hr
  have n0 := h1.1 (34 * a + c) (by omega)
  have n1 := h1.2 a ha
  refine ⟨h1.upd hr ha hc (by omega) (fun s _ _ => em s) ?_ (fun s _ _ => ?_), by rw [c47]; exact h46, by rw [h48, c47], fun q => ?_, fun _ => ?_, ?_⟩
  · rw [em]
    unfold glim
    rw [if_pos ⟨e44, e45⟩]
    have n1 : hs μ1 a + 3 * mI μ1 a ≤ 13 := n1
    omega
  · unfold glim
    split <;> decide
  · rw [e44] at q
    exact absurd q (by decide)
  · rw [e49, nI_toInt (by omega)]
    omega
  · rw [if_pos e44, eR, eM]
    omega
theorem a_nI {x : Int32} {n : Nat} (h0 : 0 ≤ x.toInt) (h1 : x.toInt < n) (hn : n < 2 ^ 31) : ∃ t, t < n ∧ x = nI t := by
  obtain ⟨t, t1, t2⟩ := vp_in_of (n := n) (vp_in_iff.mpr ⟨h0, h1⟩) hn
  exact ⟨t, t1, t2⟩
theorem GI.put {μ : zM} (h : GI μ) : GI (z_ui μ 50 0 0) := ⟨a_H_ui h.1 (bI_top _), GW_ne h.2.1 (by decide), fun q => (h.2.2 q).keep (md := [(50, 0)]) (a_Fz_ui (a_Fz_rf _ _) (by decide)) (by decide)⟩
theorem fG0 (μ : zM) : a_Fz md_G μ (z_ui μ 50 0 0) := a_Fz_ui (a_Fz_rf _ _) (by decide)
theorem zh_X7_pass : zH mi_X7_pass zt_X7_pass 79 7 2 := hh_X7_pass
set_option maxRecDepth 100000 in
theorem fc_X7_pass (d : Nat) (hd : 704 ≤ d) (μ : zM) (hi : GI μ) : z_C d mi_X7_pass [.ref 50] μ (zPG μ) := by
  refine z_C_in (by decide) (by omega) (fun d' Z ed hc hr => ?_)
  have hH := zh_X7_pass
  have h0 := hi.put
  obtain ⟨a, ha4, ea⟩ := seat_nI hi.1
  refine z_rcs hc hH 6 (pc' := 10) (lv' := [(0, .ref 50)]) (st' := [.int 2, .int (μ.1 50 44)]) (μ' := z_ui μ 50 0 0) (by rfl) ?_
  refine zq_ic hc hH (by rfl) (tg := 15) (by rfl) (fun h1 => ?_) (fun h1 => ?_)
  · have h1 := cm_ge.mp h1
    refine z_rcs hc hH 1 (pc' := 16) (lv' := [(0, .ref 50)]) (st' := [.ref 50]) (μ' := z_ui μ 50 0 0) (by rfl) ?_
    refine zq_call hc (z_cx_ok hH (by rfl)) (bs_X7_anySays (by omega) [.ref 50] _ (aArg_pre ⟨⟨50, by decide, rfl⟩, trivial⟩ rfl) h0.1) (by decide +kernel) (fun r9 μ9 hq => ?_)
    obtain ⟨-, hz, hr9⟩ := hq
    obtain ⟨v9, rfl, x9, rfl, -⟩ := hr9
    rw [a_Fz_nil hz]
    clear hz μ9
    have hP := hi.2.2 (ph2 h1).1
    have hP0 : GP (z_ui μ 50 0 0) := h0.2.2 (ph2 h1).1
    have hn1 := (ph2 h1).2
    show Z 0 19 [(0, .ref 50)] [.int x9] (z_ui μ 50 0 0)
    refine zq_if hc hH (by rfl) (tg := 28) (by rfl) (fun h2 => ?_) (fun h2 => ?_)
    · have h2 := cm_eq9.mp h2
      refine z_rcs hc hH 3 (pc' := 33) (lv' := [(0, .ref 50)]) (st' := [.int 3, .int (μ.1 50 44)]) (μ' := z_ui μ 50 0 0) (by rfl) ?_
      refine zq_ic hc hH (by rfl) (tg := 40) (by rfl) (fun h3 => ?_) (fun h3 => ?_)
      · have h3 := cm_ne.mp h3
        refine z_rcs hc hH 3 (pc' := 43) (lv' := [(1, .int 0), (0, .ref 50)]) (st' := [.ref 50]) (μ' := z_ui μ 50 0 0) (by rfl) ?_
        refine zq_call hc (z_cx_ok hH (by rfl)) (a_use (i := 122) (K := ak_122) rfl (by omega) [.ref 50] _ (aArg_pre ⟨⟨50, by decide, rfl⟩, trivial⟩ rfl) h0.1) (by decide +kernel) (fun r9 μ9 hq => ?_)
        obtain ⟨q1, q3, rfl⟩ := hq
        have g9 := GW_keep h0.2.1 q3 (by decide)
        have hP9 := hP0.keep q3 (by decide)
        have f9 : a_Fz md_G μ μ9 := a_Fz_tr (by decide) (fG0 μ) q3
        have e44 : μ9.1 50 44 = μ.1 50 44 := by rw [a_Fz_at q3 50 44 (by decide)]; rfl
        have e45 : μ9.1 50 45 = nI a := by rw [a_Fz_at q3 50 45 (by decide)]; exact ea
        have hfl := hP9.flat (by rw [e44]; exact hn1)
        show Z 0 46 [(1, .int 0), (0, .ref 50)] [] μ9
        refine z_rcs hc hH 3 (pc' := 77) (lv' := [(1, .int 0), (0, .ref 50)]) (st' := [.ref 50]) (μ' := μ9) (by rfl) ?_
        refine zq_call hc (z_cx_ok hH (by rfl)) (fc_X7_left d' (by omega) μ9) (by decide +kernel) (fun r8 μ8 hq => ?_)
        obtain ⟨hμ8, rfl⟩ := hq
        rw [hμ8]
        clear hμ8 μ8
        show Z 0 80 [(1, .int 0), (0, .ref 50)] [.int ((122 - μ9.1 50 47) - μ9.1 50 46)] μ9
        refine zq_if hc hH (by rfl) (tg := 90) (by rfl) (fun h4 => ?_) (fun h4 => ?_)
        · have h4 := cm_ne.mp h4
          refine z_rcs hc hH 8 (pc' := 100) (lv' := [(1, .int 0), (0, .ref 50)]) (st' := [.int 0, .int (((μ9.1 50 45) + 1) - ((μ9.1 50 45) + 1) / 4 * 4), .ref 50]) (μ' := μ9) (by rfl) ?_
          rw [e45, nI_1, nI_r4 _ (by omega)]
          have h46 := hP9.2.1
          have b47 := q1 50 47
          have b46 := q1 50 46
          have b47 : 0 ≤ (μ9.1 50 47).toInt ∧ (μ9.1 50 47).toInt ≤ 4 := b47
          have b46 : 0 ≤ (μ9.1 50 46).toInt ∧ (μ9.1 50 46).toInt ≤ 122 := b46
          have hlt : (μ9.1 50 46).toInt + (μ9.1 50 47).toInt ≠ 122 := fun q => h4 (left0 b46 b47 q)
          obtain ⟨t, ht, et⟩ := a_nI (x := μ9.1 50 46) (n := 122) b46.1 (by omega) (by decide)
          refine zq_call hc (z_cx_ok hH (by rfl)) (fc_X7_draws0 d' (by omega) μ9 ((a + 1) % 4) t (by omega) ht et q1) (by decide +kernel) (fun r7 μ7 hq => ?_)
          obtain ⟨rfl, k1, k2, k3, k4, k5, k6, k7, c, hc4, k8, k9⟩ := hq
          have hG : GP μ7 := by
            have n46 := nI_toInt (n := t) (by omega)
            have n47 := nI_toInt (n := t + 1) (by omega)
            have hR := hP9.2.2.2.2.2
            rw [if_neg (by rw [e44]; exact hn1)] at hR
            rw [et, n46] at hR hlt h46
            refine GP_drawn (by omega) hc4 k2 q1 hfl k3 k4 k8 k9 ?_ (by rw [k7]; exact hP9.2.2.1) ?_
            · rw [k6, n47]; omega
            · rw [k6, n47, k7]; omega
          have hE : zPG μ (some (.int 1)) μ7 := ⟨⟨1, rfl⟩, ⟨k1, GW_keep g9 k2 (by decide), fun _ => hG⟩, a_Fz_tr (by decide) f9 k2⟩
          show Z 0 103 [(1, .int 0), (0, .ref 50)] [] μ7
          refine z_rcs hc hH 1 (pc' := 104) (lv' := [(1, .int 0), (0, .ref 50)]) (st' := [.int 1]) (μ' := μ7) (by rfl) ?_
          exact hr 0 104 _ _ _ (some (.int 1)) (by decide +kernel) (by rfl) hE
        · have h4 := cn_ne.mp h4
          refine z_rcs hc hH 1 (pc' := 84) (lv' := [(1, .int 0), (0, .ref 50)]) (st' := [.ref 50]) (μ' := μ9) (by rfl) ?_
          refine zq_call hc (z_cx_ok hH (by rfl)) (fc_X7_nobodyWins d' (by omega) μ9 q1 g9) (by decide +kernel) (fun r7 μ7 hq => ?_)
          obtain ⟨rfl, hS, e7⟩ := hq
          have hE : zPG μ (some (.int 1)) μ7 := ⟨⟨1, rfl⟩, ⟨hS.1, hS.2.1, fun q => absurd e7 q⟩, a_Fz_tr (by decide) f9 hS.2.2⟩
          show Z 1 87 [(1, .int 0), (0, .ref 50)] [] μ7
          refine z_rcs hc hH 2 (pc' := 104) (lv' := [(1, .int 0), (0, .ref 50)]) (st' := [.int 1]) (μ' := μ7) (by rfl) ?_
          exact hr 1 104 _ _ _ (some (.int 1)) (by decide +kernel) (by rfl) hE
      · have h3 := cn_ne.mp h3
        refine z_rcs hc hH 4 (pc' := 43) (lv' := [(1, .int 1), (0, .ref 50)]) (st' := [.ref 50]) (μ' := z_ui μ 50 0 0) (by rfl) ?_
        refine zq_call hc (z_cx_ok hH (by rfl)) (a_use (i := 122) (K := ak_122) rfl (by omega) [.ref 50] _ (aArg_pre ⟨⟨50, by decide, rfl⟩, trivial⟩ rfl) h0.1) (by decide +kernel) (fun r9 μ9 hq => ?_)
        obtain ⟨q1, q3, rfl⟩ := hq
        have g9 := GW_keep h0.2.1 q3 (by decide)
        have hP9 := hP0.keep q3 (by decide)
        have f9 : a_Fz md_G μ μ9 := a_Fz_tr (by decide) (fG0 μ) q3
        have e44 : μ9.1 50 44 = μ.1 50 44 := by rw [a_Fz_at q3 50 44 (by decide)]; rfl
        have e45 : μ9.1 50 45 = nI a := by rw [a_Fz_at q3 50 45 (by decide)]; exact ea
        have hfl := hP9.flat (by rw [e44]; exact hn1)
        show Z 0 46 [(1, .int 1), (0, .ref 50)] [] μ9
        refine z_rcs hc hH 7 (pc' := 57) (lv' := [(1, .int 1), (0, .ref 50)]) (st' := [.int ((μ9.1 50 47) + 1), .ref 50]) (μ' := μ9) (by rfl) ?_
        obtain ⟨hp1, hp2⟩ := hP9.2.2.2.1 (by rw [e44]; exact h3)
        obtain ⟨t, ht, et⟩ := a_nI (n := 4) (q1 50 47).1 hp2 (by decide)
        have et8 : μ9.1 50 48 = nI t := by rw [hP9.2.2.1, et]
        rw [et, nI_1]
        refine z_rcs hc hH 2 (pc' := 61) (lv' := [(1, .int 1), (0, .ref 50)]) (st' := [.ref 50]) (μ' := z_ui μ9 50 47 (nI (t + 1))) (by rfl) ?_
        have q7 : a_H (z_ui μ9 50 47 (nI (t + 1))) := a_H_ui q1 (show bI 0 4 _ from bd_nI (by omega) ⟨by omega, by omega⟩)
        refine zq_call hc (z_cx_ok hH (by rfl)) (a_use (i := 123) (K := ak_123) rfl (by omega) [.ref 50] _ (aArg_pre ⟨⟨50, by decide, rfl⟩, trivial⟩ rfl) q7) (by decide +kernel) (fun r8 μ8 hq => ?_)
        obtain ⟨q8, z8, rfl⟩ := hq
        have g8 : GW μ8 := GW_keep (GW_ne g9 (by decide)) z8 (by decide)
        have f8 : a_Fz md_G μ μ8 := a_Fz_tr (by decide) (a_Fz_ui f9 (by decide)) z8
        have r60 : ∀ j, μ8.1 60 j = μ9.1 60 j := fun j => by rw [a_Fz_at z8 60 j (a_md_row (by decide)), z_ui_rd, if_neg (by omega)]
        have r64 : ∀ j, μ8.1 64 j = μ9.1 64 j := fun j => by rw [a_Fz_at z8 64 j (a_md_row (by decide)), z_ui_rd, if_neg (by omega)]
        have r66 : ∀ j, μ8.1 66 j = μ9.1 66 j := fun j => by rw [a_Fz_at z8 66 j (a_md_row (by decide)), z_ui_rd, if_neg (by omega)]
        have c45 : μ8.1 50 45 = nI a := by rw [a_Fz_at z8 50 45 (by decide), z_ui_rd, if_neg (by omega), e45]
        have c46 : μ8.1 50 46 = μ9.1 50 46 := by rw [a_Fz_at z8 50 46 (by decide), z_ui_rd, if_neg (by omega)]
        have c47 : μ8.1 50 47 = nI (t + 1) := by rw [a_Fz_at z8 50 47 (by decide), z_ui_rd, if_pos ⟨rfl, rfl⟩]
        have c48 : μ8.1 50 48 = nI t := by rw [a_Fz_at z8 50 48 (by decide), z_ui_rd, if_neg (by omega), et8]
        show Z 0 64 [(1, .int 1), (0, .ref 50)] [] μ8
        refine z_rcs hc hH 4 (pc' := 70) (lv' := [(1, .int 1), (0, .ref 50)]) (st' := [.int 1, .int (μ8.1 50 45), .ref 50]) (μ' := μ8) (by rfl) ?_
        rw [c45]
        refine zq_call hc (z_cx_ok hH (by rfl)) (fc_X7_draws1 d' (by omega) μ8 a t ha4 ht c48 q8) (by decide +kernel) (fun r7 μ7 hq => ?_)
        obtain ⟨rfl, k1, k2, k3, k4, k5, k6, k7, c, hc4, k8, k9⟩ := hq
        have hG : GP μ7 := by
          have n46 := nI_toInt (n := t) (by omega)
          have n47 := nI_toInt (n := t + 1) (by omega)
          have hR := hP9.2.2.2.2.2
          rw [if_neg (by rw [e44]; exact hn1)] at hR
          have eM : sM μ8 = sM μ9 := by unfold sM mI; simp only [r64]
          have eR : sR μ8 = sR μ9 := by unfold sR rI; simp only [r66]
          rw [et8, n46] at hR
          rw [et, n46] at hp1
          refine GP_drawn ha4 hc4 k2 q8 (hfl.keep r60 r64) k3 k4 k8 k9 ?_ (by rw [k6, c47]) ?_
          · rw [k7, c46, c47, n47]; omega
          · rw [k7, c46, k6, n47, eM, eR]; omega
        have hE : zPG μ (some (.int 1)) μ7 := ⟨⟨1, rfl⟩, ⟨k1, GW_keep g8 k2 (by decide), fun _ => hG⟩, a_Fz_tr (by decide) f8 k2⟩
        show Z 0 73 [(1, .int 1), (0, .ref 50)] [] μ7
        refine z_rcs hc hH 2 (pc' := 104) (lv' := [(1, .int 1), (0, .ref 50)]) (st' := [.int 1]) (μ' := μ7) (by rfl) ?_
        exact hr 0 104 _ _ _ (some (.int 1)) (by decide +kernel) (by rfl) hE
    · have h2 := cn_eq.mp h2
      refine z_rcs hc hH 1 (pc' := 23) (lv' := [(0, .ref 50)]) (st' := [.ref 50]) (μ' := z_ui μ 50 0 0) (by rfl) ?_
      refine zq_call hc (z_cx_ok hH (by rfl)) (fc_X7_allWin d' (by omega) (z_ui μ 50 0 0) h0.1 h0.2.1 (hP0.2.2.2.2.1 (fun q => absurd q hn1))) (by decide +kernel) (fun r9 μ9 hq => ?_)
      obtain ⟨rfl, hS, e44⟩ := hq
      have hE : zPG μ (some (.int 1)) μ9 := ⟨⟨1, rfl⟩, ⟨hS.1, hS.2.1, fun q => absurd e44 q⟩, a_Fz_tr (by decide) (fG0 μ) hS.2.2⟩
      show Z 0 26 [(0, .ref 50)] [] μ9
      refine z_rcs hc hH 1 (pc' := 27) (lv' := [(0, .ref 50)]) (st' := [.int 1]) (μ' := μ9) (by rfl) ?_
      exact hr 0 27 _ _ _ (some (.int 1)) (by decide +kernel) (by rfl) hE
  · have h1 := cn_ge.mp h1
    refine z_rcs hc hH 1 (pc' := 14) (lv' := [(0, .ref 50)]) (st' := [.int 0]) (μ' := z_ui μ 50 0 0) (by rfl) ?_
    exact hr 0 14 _ _ _ (some (.int 0)) (by decide +kernel) (z_rx_ok hH (by rfl)) (⟨⟨0, rfl⟩, h0, fG0 μ⟩)

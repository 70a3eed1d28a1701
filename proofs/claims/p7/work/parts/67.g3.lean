/-! three -/
theorem i_22 : (-2 : Int32) + 2 = 0 := by rw [Int32.add_comm, ← Int32.sub_eq_add_neg, Int32.sub_self]
theorem giv_back (μ : zM) (a c : Nat) {n m : Int32} (h : n + m = 0) : z_giv (z_giv μ a c n) a c m = μ := by
  refine Prod.ext (funext fun r => funext fun j => ?_) rfl
  by_cases hr : r = 60
  · subst hr
    rw [giv_60, giv_60]
    by_cases e : j = 34 * a + c
    · rw [if_pos e, if_pos e, Int32.add_assoc, h, Int32.add_zero]
    · rw [if_neg e, if_neg e]
  · rw [giv_ne _ _ _ _ hr, giv_ne _ _ _ _ hr]
theorem GH_lay4 {μ μ' : zM} {lim : Nat → Int} {a c q : Nat} {n : Int32} (h : GH μ lim) (hl : ∀ s, s < 4 → lim s ≤ 14) (hH : a_H μ) (ha : a < 4) (hc : c < 34) (hq : q < 4) (e : μ.1 64 a = nI q) (hn : -4 ≤ n.toInt ∧ n.toInt ≤ 4) (h0 : 0 ≤ hI μ (34 * a + c) + n.toInt) (h13 : lim a + n.toInt + 3 ≤ 14) (ho : ∀ s, s < 4 → s ≠ a → lim s ≤ 13) (e60 : ∀ j, μ'.1 60 j = if j = 34 * a + c then μ.1 60 j + n else μ.1 60 j) (e64 : ∀ i, μ'.1 64 i = if i = a then nI (q + 1) else μ.1 64 i) : GH μ' (fun s => if s = a then 14 else 13) := by
  have hr := HR_of h hl (fun s _ => mI_nn hH s) ha hc hn e60
  have t0 := nI_toInt (n := q) (by omega)
  have t1 := nI_toInt (n := q + 1) (by omega)
  have ma : mI μ a = q := by unfold mI; rw [e, t0]
  have ma' : mI μ' a = q + 1 := by unfold mI; rw [e64, if_pos rfl, t1]; omega
  have n1 := h.2 a ha
  refine h.upd hr ha hc h0 (fun s _ hs => by unfold mI; rw [e64, if_neg hs]) ?_ (fun s h1 h2 => by rw [if_neg h2]; exact ho s h1 h2)
  rw [ma']
  rw [ma] at n1
  rw [if_pos rfl]
  omega
theorem GP_claimed {μ9 μ' : zM} {a : Nat} (hP : GP μ9) (hn : ¬ μ9.1 50 44 = 1) (gh : GH μ' (fun s => if s = a then 14 else 13)) (e44 : μ'.1 50 44 = 1) (e45 : μ'.1 50 45 = nI a) (e57 : μ'.1 50 57 = 1) (c46 : μ'.1 50 46 = μ9.1 50 46) (c47 : μ'.1 50 47 = μ9.1 50 47) (c48 : μ'.1 50 48 = μ9.1 50 48) (r66 : ∀ j, μ'.1 66 j = μ9.1 66 j) (hM : sM μ' = sM μ9 + 1) : GP μ' := by
  obtain ⟨h1, h2, h3, h4, h5, h6⟩ := hP
  rw [if_neg hn] at h6
  have eR : sR μ' = sR μ9 := by unfold sR rI; simp only [r66]
  refine ⟨gh.lim (fun s _ => ?_), by rw [c46, c47]; exact h2, by rw [c48, c47]; exact h3, fun q => ?_, fun q => ?_, ?_⟩
  · unfold glim
    by_cases e : s = a
    · rw [if_pos e, if_pos ⟨e44, by rw [e45, e]⟩]; exact Int.le_refl _
    · rw [if_neg e]; split <;> decide
  · rw [e44] at q
    exact absurd q (by decide)
  · have := q e44
    rw [e57] at this
    exact absurd this (by decide)
  · rw [if_pos e44, eR, c46, c48, hM]
    omega
theorem zh_X7_three : zH mi_X7_three zt_X7_three 79 7 3 := hh_X7_three
set_option maxRecDepth 2000 in
theorem fc_X7_three (d : Nat) (hd : 704 ≤ d) (μ : zM) (s : Int32) (hi : GI μ) : z_C d mi_X7_three [.ref 50, .int s] μ (zPG μ) := by
  refine z_C_in (by decide) (by omega) (fun d' Z ed hc hr => ?_)
  have hH := zh_X7_three
  have h0 := hi.put
  refine z_rcs hc hH 5 (pc' := 7) (lv' := [(0, .ref 50), (1, .int s)]) (st' := [.int s, .ref 50]) (μ' := z_ui μ 50 0 0) (by rfl) ?_
  refine zq_call hc (z_cx_ok hH (by rfl)) (fc_X7_mayClaim d' (by omega) (z_ui μ 50 0 0) s h0.1) (by decide +kernel) (fun r9 μ9 hq => ?_)
  obtain ⟨hμ9, hq⟩ := hq
  rw [hμ9]
  clear hμ9 μ9
  obtain ⟨rfl, y1, y3, y5, y6⟩ | rfl := hq
  · show Z 0 10 [(0, .ref 50), (1, .int s)] [.int 1] (z_ui μ 50 0 0)
    obtain ⟨a, ha4, rfl⟩ := vp_in_of y5 (by decide)
    have y1 : μ.1 50 44 = 2 := y1
    have hP := hi.2.2 (by rw [y1]; decide)
    have hP0 : GP (z_ui μ 50 0 0) := h0.2.2 (by show ¬ μ.1 50 44 = 0; rw [y1]; decide)
    have hn1 : ¬ μ.1 50 44 = 1 := by rw [y1]; decide
    obtain ⟨cc, hcc, ec⟩ := a_nI (x := μ.1 50 49) (n := 34) (hP.2.2.2.2.1 (fun q => absurd q hn1)) (by have : (μ.1 50 49).toInt ≤ 33 := (hi.1 50 49).2; omega) (by decide)
    refine z_rcs hc hH 5 (pc' := 19) (lv' := [(0, .ref 50), (1, .int (nI a))]) (st' := [.int (μ.1 50 49), .int (nI a), .ref 50]) (μ' := z_ui μ 50 0 0) (by rfl) ?_
    rw [ec]
    refine zq_call hc (z_cx_ok hH (by rfl)) (fc_X7_has_ d' (by omega) (z_ui μ 50 0 0) a cc ha4 hcc) (by decide +kernel) (fun r9 μ9 hq => ?_)
    obtain ⟨hμ9, rfl⟩ := hq
    rw [hμ9]
    clear hμ9 μ9
    show Z 0 22 [(0, .ref 50), (1, .int (nI a))] [.int (μ.1 60 (34 * a + cc))] (z_ui μ 50 0 0)
    refine z_rcs hc hH 1 (pc' := 23) (lv' := [(0, .ref 50), (1, .int (nI a))]) (st' := [.int 2, .int (μ.1 60 (34 * a + cc))]) (μ' := z_ui μ 50 0 0) (by rfl) ?_
    refine zq_ic hc hH (by rfl) (tg := 28) (by rfl) (fun h1 => ?_) (fun h1 => ?_)
    · have h1 := cm_ge.mp h1
      refine z_rcs hc hH 3 (pc' := 33) (lv' := [(0, .ref 50), (1, .int (nI a))]) (st' := [.int (μ.1 50 49), .ref 50]) (μ' := z_ui μ 50 0 0) (by rfl) ?_
      rw [ec]
      refine z_rcs hc hH 1 (pc' := 36) (lv' := [(0, .ref 50), (1, .int (nI a))]) (st' := []) (μ' := z_ui (z_ui μ 50 0 0) 50 50 (nI cc)) (by rfl) ?_
      refine z_rcs hc hH 3 (pc' := 41) (lv' := [(0, .ref 50), (1, .int (nI a))]) (st' := []) (μ' := z_ui (z_ui (z_ui μ 50 0 0) 50 50 (nI cc)) 50 51 (-1)) (by rfl) ?_
      refine z_rcs hc hH 5 (pc' := 49) (lv' := [(0, .ref 50), (1, .int (nI a))]) (st' := [.int (-2), .int (μ.1 50 49), .int (nI a), .ref 50]) (μ' := z_ui (z_ui (z_ui μ 50 0 0) 50 50 (nI cc)) 50 51 (-1)) (by rfl) ?_
      rw [ec]
      have hN : GI (z_ui (z_ui (z_ui μ 50 0 0) 50 50 (nI cc)) 50 51 (-1)) := ⟨a_H_ui (a_H_ui h0.1 (bI_top _)) (bI_top _), GW_ne (GW_ne h0.2.1 (by decide)) (by decide), fun q => (h0.2.2 q).keep (md := [(50, 50), (50, 51)]) (a_Fz_ui (a_Fz_ui (a_Fz_rf _ _) (by decide)) (by decide)) (by decide)⟩
      have fN : a_Fz md_G μ (z_ui (z_ui (z_ui μ 50 0 0) 50 50 (nI cc)) 50 51 (-1)) := a_Fz_ui (a_Fz_ui (fG0 μ) (by decide)) (by decide)
      have cN : (z_ui (z_ui (z_ui μ 50 0 0) 50 50 (nI cc)) 50 51 (-1)).1 50 49 = nI cc := ec
      have pN : (z_ui (z_ui (z_ui μ 50 0 0) 50 50 (nI cc)) 50 51 (-1)).1 50 44 = μ.1 50 44 := rfl
      have hN60 : ∀ j, (z_ui (z_ui (z_ui μ 50 0 0) 50 50 (nI cc)) 50 51 (-1)).1 60 j = μ.1 60 j := fun _ => rfl
      have hPN : GP (z_ui (z_ui (z_ui μ 50 0 0) 50 50 (nI cc)) 50 51 (-1)) := hN.2.2 (by rw [pN, y1]; decide)
      have hlN : (z_ui (z_ui (z_ui μ 50 0 0) 50 50 (nI cc)) 50 51 (-1)).1 50 46 = μ.1 50 46 ∧ (z_ui (z_ui (z_ui μ 50 0 0) 50 50 (nI cc)) 50 51 (-1)).1 50 47 = μ.1 50 47 := ⟨rfl, rfl⟩
      generalize z_ui (z_ui (z_ui μ 50 0 0) 50 50 (nI cc)) 50 51 (-1) = μn at hN fN cN pN hN60 hPN hlN ⊢
      refine zq_call hc (z_cx_ok hH (by rfl)) (fc_X7_gives d' (by omega) μn a cc (-2) ha4 hcc) (by decide +kernel) (fun r8 μ8 hq => ?_)
      obtain ⟨rfl, rfl⟩ := hq
      have hg1 : a_H (z_giv μn a cc (-2)) := a_H_ui hN.1 (bI_top _)
      have hback : z_giv (z_giv μn a cc (-2)) a cc 2 = μn := giv_back μn a cc i_22
      have cM : (z_giv μn a cc (-2)).1 50 49 = nI cc := (giv_ne μn a cc (-2) (by decide) 49).trans cN
      generalize z_giv μn a cc (-2) = μm at hg1 hback cM ⊢
      show Z 0 52 [(0, .ref 50), (1, .int (nI a))] [] μm
      refine z_rcs hc hH 2 (pc' := 54) (lv' := [(0, .ref 50), (1, .int (nI a))]) (st' := [.int (nI a), .ref 50]) (μ' := μm) (by rfl) ?_
      refine zq_call hc (z_cx_ok hH (by rfl)) (bs_X7_canDiscard (by omega) [.ref 50, .int (nI a)] _ (aArg_pre ⟨⟨50, by decide, rfl⟩, ⟨_, rfl, (show bI 0 3 _ from bd_nI (by omega) ⟨by omega, by omega⟩)⟩, trivial⟩ rfl) hg1) (by decide +kernel) (fun r8 μ8 hq => ?_)
      obtain ⟨-, hz, hr9⟩ := hq
      obtain ⟨v9, rfl, x9, rfl, -⟩ := hr9
      rw [a_Fz_nil hz]
      clear hz μ8
      show Z 0 57 [(0, .ref 50), (1, .int (nI a))] [.int x9] μm
      refine z_rcs hc hH 3 (pc' := 60) (lv' := [(2, .int x9), (0, .ref 50), (1, .int (nI a))]) (st' := [.int (nI a), .ref 50]) (μ' := μm) (by rfl) ?_
      refine z_rcs hc hH 3 (pc' := 65) (lv' := [(2, .int x9), (0, .ref 50), (1, .int (nI a))]) (st' := [.int 2, .int (μm.1 50 49), .int (nI a), .ref 50]) (μ' := μm) (by rfl) ?_
      rw [cM]
      refine zq_call hc (z_cx_ok hH (by rfl)) (fc_X7_gives d' (by omega) μm a cc 2 ha4 hcc) (by decide +kernel) (fun r8 μ8 hq => ?_)
      obtain ⟨rfl, rfl⟩ := hq
      rw [hback]
      show Z 0 68 [(2, .int x9), (0, .ref 50), (1, .int (nI a))] [] μn
      refine z_rcs hc hH 1 (pc' := 69) (lv' := [(2, .int x9), (0, .ref 50), (1, .int (nI a))]) (st' := [.int x9]) (μ' := μn) (by rfl) ?_
      refine zq_if hc hH (by rfl) (tg := 74) (by rfl) (fun h2 => ?_) (fun h2 => ?_)
      · have h2 := cm_ne.mp h2
        refine z_rcs hc hH 1 (pc' := 75) (lv' := [(2, .int x9), (0, .ref 50), (1, .int (nI a))]) (st' := [.ref 50]) (μ' := μn) (by rfl) ?_
        refine zq_call hc (z_cx_ok hH (by rfl)) (a_use (i := 122) (K := ak_122) rfl (by omega) [.ref 50] _ (aArg_pre ⟨⟨50, by decide, rfl⟩, trivial⟩ rfl) hN.1) (by decide +kernel) (fun r9 μ9 hq => ?_)
        obtain ⟨hB1, q3, rfl⟩ := hq
        have hB2 := GW_keep hN.2.1 q3 (by decide)
        have hP9 := hPN.keep q3 (by decide)
        have fB : a_Fz md_G μ μ9 := a_Fz_tr (by decide) fN q3
        have e44 : ¬ μ9.1 50 44 = 1 := by rw [a_Fz_at q3 50 44 (by decide), pN]; exact hn1
        have e49 : μ9.1 50 49 = nI cc := by rw [a_Fz_at q3 50 49 (by decide)]; exact cN
        have r60 : ∀ j, μ9.1 60 j = μ.1 60 j := fun j => by rw [a_Fz_at q3 60 j (a_md_row (by decide)), hN60]
        have hfl := hP9.flat e44
        obtain ⟨q, hq4, eq⟩ := sets_nI hB1 a
        have tq := nI_toInt (n := q) (by omega)
        have l1 := hfl.le ha4 hcc
        have l2 : hs μ9 a + 3 * mI μ9 a ≤ 13 := hfl.2 a ha4
        have l5 : mI μ9 a = q := by unfold mI; rw [eq, tq]
        show Z 0 78 [(2, .int x9), (0, .ref 50), (1, .int (nI a))] [] μ9
        refine z_rcs hc hH 5 (pc' := 86) (lv' := [(2, .int x9), (0, .ref 50), (1, .int (nI a))]) (st' := [.int (-2), .int (μ9.1 50 49), .int (nI a), .ref 50]) (μ' := μ9) (by rfl) ?_
        have l4 : 2 ≤ hI μ9 (34 * a + cc) := by
          have z := h1
          rw [Int32.le_iff_toInt_le] at z
          unfold hI; rw [r60]; exact z
        have hq : q < 4 := by omega
        rw [e49]
        refine zq_call hc (z_cx_ok hH (by rfl)) (fc_X7_gives d' (by omega) μ9 a cc (-2) ha4 hcc) (by decide +kernel) (fun r8 μ8 hq => ?_)
        obtain ⟨rfl, rfl⟩ := hq
        have hg2 : a_H (z_giv μ9 a cc (-2)) := a_H_ui hB1 (bI_top _)
        show Z 0 89 [(2, .int x9), (0, .ref 50), (1, .int (nI a))] [] (z_giv μ9 a cc (-2))
        refine z_rcs hc hH 5 (pc' := 96) (lv' := [(2, .int x9), (0, .ref 50), (1, .int (nI a))]) (st' := [.int ((z_giv μ9 a cc (-2)).1 50 49), .int 1, .int (nI a), .ref 50]) (μ' := (z_giv μ9 a cc (-2))) (by rfl) ?_
        rw [show (z_giv μ9 a cc (-2)).1 50 49 = nI cc from e49]
        refine zq_call hc (z_cx_ok hH (by rfl)) (fc_X7_claims d' (by omega) (z_giv μ9 a cc (-2)) a q 1 (nI cc) ha4 hq eq hg2) (by decide +kernel) (fun r7 μ7 hq => ?_)
        obtain ⟨rfl, k1, k2, k3, k4, k5, k6, k7⟩ := hq
        have i60 : ∀ j, μ7.1 60 j = if j = 34 * a + cc then μ9.1 60 j + (-2) else μ9.1 60 j := fun j => by rw [a_Fz_at k2 60 j (a_md_row (by decide)), giv_60]
        have i64 : ∀ i, μ7.1 64 i = if i = a then nI (q + 1) else μ9.1 64 i := fun i => by rw [k7, giv_ne _ _ _ _ (by decide)]
        have gh := GH_lay4 (μ := μ9) hfl (fun _ _ => by decide) hB1 ha4 hcc hq eq (n := -2) (by decide) (by show 0 ≤ hI μ9 (34 * a + cc) + -2; omega) (by decide) (fun _ _ _ => Int.le_refl _) i60 i64
        have hG : GP μ7 := GP_claimed hP9 e44 gh k3 k4 k6 (a_Fz_at k2 50 46 (by decide)) (a_Fz_at k2 50 47 (by decide)) (a_Fz_at k2 50 48 (by decide)) (fun j => by rw [a_Fz_at k2 66 j (a_md_row (by decide)), giv_ne _ _ _ _ (by decide)]) (sM_lay ha4 hq eq i64)
        have hE : zPG μ (some (.int 1)) μ7 := ⟨⟨1, rfl⟩, ⟨k1, GW_keep (μ := z_giv μ9 a cc (-2)) (GW_ne hB2 (by decide)) k2 (by decide), fun _ => hG⟩, a_Fz_tr (by decide) (a_Fz_ui fB (a_mda_md (by decide) _)) k2⟩
        show Z 0 99 [(2, .int x9), (0, .ref 50), (1, .int (nI a))] [] μ7
        refine z_rcs hc hH 1 (pc' := 100) (lv' := [(2, .int x9), (0, .ref 50), (1, .int (nI a))]) (st' := [.int 1]) (μ' := μ7) (by rfl) ?_
        exact hr 0 100 _ _ _ (some (.int 1)) (by decide +kernel) (by rfl) hE
      · have h2 := cn_ne.mp h2
        refine z_rcs hc hH 1 (pc' := 73) (lv' := [(2, .int x9), (0, .ref 50), (1, .int (nI a))]) (st' := [.int 0]) (μ' := μn) (by rfl) ?_
        exact hr 0 73 _ _ _ (some (.int 0)) (by decide +kernel) (z_rx_ok hH (by rfl)) (⟨⟨0, rfl⟩, hN, fN⟩)
    · have h1 := cn_ge.mp h1
      refine z_rcs hc hH 1 (pc' := 27) (lv' := [(0, .ref 50), (1, .int (nI a))]) (st' := [.int 0]) (μ' := z_ui μ 50 0 0) (by rfl) ?_
      exact hr 0 27 _ _ _ (some (.int 0)) (by decide +kernel) (z_rx_ok hH (by rfl)) (⟨⟨0, rfl⟩, h0, fG0 μ⟩)
  · show Z 0 10 [(0, .ref 50), (1, .int s)] [.int 0] (z_ui μ 50 0 0)
    refine z_rcs hc hH 2 (pc' := 27) (lv' := [(0, .ref 50), (1, .int s)]) (st' := [.int 0]) (μ' := z_ui μ 50 0 0) (by rfl) ?_
    exact hr 0 27 _ _ _ (some (.int 0)) (by decide +kernel) (z_rx_ok hH (by rfl)) (⟨⟨0, rfl⟩, h0, fG0 μ⟩)

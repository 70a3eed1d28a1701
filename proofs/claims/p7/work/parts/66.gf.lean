/-! fours -/
theorem leftp {x y : Int32} (hx : 0 ≤ x.toInt ∧ x.toInt ≤ 122) (hy : 0 ≤ y.toInt ∧ y.toInt ≤ 4) (h : ¬ 122 - y - x ≤ 0) : x.toInt + y.toInt < 122 := by
  have b : bI (122 - y.toInt) (122 - y.toInt) (122 - y) := bI_sub (a := 122) (b := 122) (c := y.toInt) (d := y.toInt) rfl ⟨by decide, by decide⟩ ⟨Int.le_refl _, Int.le_refl _⟩ ⟨by omega, by omega, by omega, by omega⟩
  have c : bI (122 - y.toInt - x.toInt) (122 - y.toInt - x.toInt) (122 - y - x) := bI_sub (c := x.toInt) (d := x.toInt) rfl b ⟨Int.le_refl _, Int.le_refl _⟩ ⟨by omega, by omega, by omega, by omega⟩
  rw [Int32.not_le, Int32.lt_iff_toInt_lt] at h
  have := c.1
  have := c.2
  have h : (0 : Int) < _ := h
  omega
theorem giv_60 (μ : zM) (a c : Nat) (n : Int32) (j : Nat) : (z_giv μ a c n).1 60 j = if j = 34 * a + c then μ.1 60 j + n else μ.1 60 j := by
  unfold z_giv
  rw [z_ui_rd]
  by_cases q : j = 34 * a + c
  · rw [if_pos ⟨rfl, q⟩, if_pos q, q]
  · rw [if_neg (fun z => q z.2), if_neg q]
theorem giv_ne (μ : zM) (a c : Nat) (n : Int32) {r : Nat} (hr : r ≠ 60) (j : Nat) : (z_giv μ a c n).1 r j = μ.1 r j := by
  unfold z_giv
  rw [z_ui_rd, if_neg (fun z => hr z.1)]
theorem lys_64 (μ : zM) (a q : Nat) (so k : Int32) (j : Nat) : (z_lys μ a q so k).1 64 j = if j = a then nI (q + 1) else μ.1 64 j := by
  unfold z_lys
  rw [z_ui_rd]
  by_cases e : j = a
  · rw [if_pos ⟨rfl, e⟩, if_pos e]
  · rw [if_neg (fun z => e z.2), if_neg e, z_ui_rd, if_neg (by omega), z_ui_rd, if_neg (by omega)]
theorem lys_ne (μ : zM) (a q : Nat) (so k : Int32) {r : Nat} (h1 : r ≠ 62) (h2 : r ≠ 63) (h3 : r ≠ 64) (j : Nat) : (z_lys μ a q so k).1 r j = μ.1 r j := by
  unfold z_lys
  rw [z_ui_rd, if_neg (fun z => h3 z.1), z_ui_rd, if_neg (fun z => h2 z.1), z_ui_rd, if_neg (fun z => h1 z.1)]
theorem sM_lay {μ μ' : zM} {a q : Nat} (ha : a < 4) (hq : q < 4) (e : μ.1 64 a = nI q) (h : ∀ i, μ'.1 64 i = if i = a then nI (q + 1) else μ.1 64 i) : sM μ' = sM μ + 1 := by
  have t0 := nI_toInt (n := q) (by omega)
  have t1 := nI_toInt (n := q + 1) (by omega)
  have ma : mI μ a = q := by unfold mI; rw [e, t0]
  have ma' : mI μ' a = q + 1 := by unfold mI; rw [h, if_pos rfl, t1]; omega
  have mo : ∀ i, i ≠ a → mI μ' i = mI μ i := fun i hi => by unfold mI; rw [h, if_neg hi]
  unfold sM
  rcases (show a = 0 ∨ a = 1 ∨ a = 2 ∨ a = 3 by omega) with rfl | rfl | rfl | rfl
  · rw [ma', ma, mo 1 (by decide), mo 2 (by decide), mo 3 (by decide)]; omega
  · rw [ma', ma, mo 0 (by decide), mo 2 (by decide), mo 3 (by decide)]; omega
  · rw [ma', ma, mo 0 (by decide), mo 1 (by decide), mo 3 (by decide)]; omega
  · rw [ma', ma, mo 0 (by decide), mo 1 (by decide), mo 2 (by decide)]; omega
/-- a SET is laid from the hand -/
theorem GH_lays {μ μ' : zM} {lim : Nat → Int} {a c q : Nat} {n : Int32} (h : GH μ lim) (hl : ∀ s, s < 4 → lim s ≤ 14) (hH : a_H μ) (ha : a < 4) (hc : c < 34) (hq : q < 4) (e : μ.1 64 a = nI q) (hn : -4 ≤ n.toInt ∧ n.toInt ≤ 4) (h0 : 0 ≤ hI μ (34 * a + c) + n.toInt) (h13 : lim a + n.toInt + 3 ≤ 13) (ho : ∀ s, s < 4 → s ≠ a → lim s ≤ 13) (e60 : ∀ j, μ'.1 60 j = if j = 34 * a + c then μ.1 60 j + n else μ.1 60 j) (e64 : ∀ i, μ'.1 64 i = if i = a then nI (q + 1) else μ.1 64 i) : GH μ' (fun _ => 13) := by
  have hr := HR_of h hl (fun s _ => mI_nn hH s) ha hc hn e60
  have t0 := nI_toInt (n := q) (by omega)
  have t1 := nI_toInt (n := q + 1) (by omega)
  have ma : mI μ a = q := by unfold mI; rw [e, t0]
  have ma' : mI μ' a = q + 1 := by unfold mI; rw [e64, if_pos rfl, t1]; omega
  have n1 := h.2 a ha
  refine h.upd hr ha hc h0 (fun s _ hs => by unfold mI; rw [e64, if_neg hs]) ?_ ho
  rw [ma']
  rw [ma] at n1
  show _ ≤ (13 : Int)
  omega
theorem sets_nI {μ : zM} (h : a_H μ) (a : Nat) : ∃ q, q ≤ 4 ∧ μ.1 64 a = nI q := by
  obtain ⟨q, h1, h2⟩ := a_nI (x := μ.1 64 a) (n := 5) (h 64 a).1 (by have : (μ.1 64 a).toInt ≤ 4 := (h 64 a).2; omega) (by decide)
  exact ⟨q, by omega, h2⟩
theorem a_H_lys {μ : zM} {a c q : Nat} {n so k : Int32} (h : a_H μ) (hq : q < 4) : a_H (z_lys (z_giv μ a c n) a q so k) := a_H_ui (a_H_ui (a_H_ui (a_H_ui h (bI_top _)) (bI_top _)) (bI_top _)) (show bI 0 4 _ from bd_nI (by omega) ⟨by omega, by omega⟩)
theorem GW_lys {μ : zM} {a c q : Nat} {n so k : Int32} (h : GW μ) : GW (z_lys (z_giv μ a c n) a q so k) := GW_ne (GW_ne (GW_ne (GW_ne h (by decide)) (by decide)) (by decide)) (by decide)
theorem fG_lys {μ0 μ : zM} {a c q : Nat} {n so k : Int32} (h : a_Fz md_G μ0 μ) : a_Fz md_G μ0 (z_lys (z_giv μ a c n) a q so k) := a_Fz_ui (a_Fz_ui (a_Fz_ui (a_Fz_ui h (a_mda_md (by decide) _)) (a_mda_md (by decide) _)) (a_mda_md (by decide) _)) (a_mda_md (by decide) _)
theorem zh_X7_hide : zH mi_X7_hide zt_X7_hide 79 7 2 := hh_X7_hide
set_option maxRecDepth 100000 in
theorem fc_X7_hide (d : Nat) (hd : 704 ≤ d) (μ : zM) (k : Int32) (hi : GI μ) : z_C d mi_X7_hide [.ref 50, .int k] μ (zPG μ) := by
  refine z_C_in (by decide) (by omega) (fun d' Z ed hc hr => ?_)
  have hH := zh_X7_hide
  have h0 := hi.put
  obtain ⟨a, ha4, ea⟩ := seat_nI hi.1
  refine z_rcs hc hH 4 (pc' := 6) (lv' := [(0, .ref 50), (1, .int k)]) (st' := [.ref 50]) (μ' := z_ui μ 50 0 0) (by rfl) ?_
  refine zq_call hc (z_cx_ok hH (by rfl)) (fc_X7_mayMake d' (by omega) (z_ui μ 50 0 0) h0.1) (by decide +kernel) (fun r9 μ9 hq => ?_)
  obtain ⟨hμ9, hq⟩ := hq
  rw [hμ9]
  clear hμ9 μ9
  obtain ⟨rfl, y1, y2, y3, y4⟩ | rfl := hq
  · show Z 0 9 [(0, .ref 50), (1, .int k)] [.int 1] (z_ui μ 50 0 0)
    refine z_rcs hc hH 2 (pc' := 13) (lv' := [(0, .ref 50), (1, .int k)]) (st' := [.int k]) (μ' := z_ui μ 50 0 0) (by rfl) ?_
    refine zq_call hc (z_cx_ok hH (by rfl)) (fc_X7_isKind d' (by omega) (z_ui μ 50 0 0) k) (by decide +kernel) (fun r9 μ9 hq => ?_)
    obtain ⟨hμ9, hq⟩ := hq
    rw [hμ9]
    clear hμ9 μ9
    obtain ⟨rfl, hk⟩ | ⟨rfl, hk⟩ := hq
    · show Z 0 16 [(0, .ref 50), (1, .int k)] [.int 1] (z_ui μ 50 0 0)
      refine z_rcs hc hH 5 (pc' := 25) (lv' := [(0, .ref 50), (1, .int k)]) (st' := [.int k, .int (μ.1 50 45), .ref 50]) (μ' := z_ui μ 50 0 0) (by rfl) ?_
      obtain ⟨cc, hcc, rfl⟩ := vp_in_of hk (by decide)
      rw [ea]
      refine zq_call hc (z_cx_ok hH (by rfl)) (fc_X7_has_ d' (by omega) (z_ui μ 50 0 0) a cc ha4 hcc) (by decide +kernel) (fun r9 μ9 hq => ?_)
      obtain ⟨hμ9, rfl⟩ := hq
      rw [hμ9]
      clear hμ9 μ9
      show Z 0 28 [(0, .ref 50), (1, .int (nI cc))] [.int (μ.1 60 (34 * a + cc))] (z_ui μ 50 0 0)
      refine z_rcs hc hH 1 (pc' := 29) (lv' := [(0, .ref 50), (1, .int (nI cc))]) (st' := [.int 4, .int (μ.1 60 (34 * a + cc))]) (μ' := z_ui μ 50 0 0) (by rfl) ?_
      refine zq_ic hc hH (by rfl) (tg := 34) (by rfl) (fun h1 => ?_) (fun h1 => ?_)
      · have h1 := cm_eq9.mp h1
        refine z_rcs hc hH 5 (pc' := 42) (lv' := [(0, .ref 50), (1, .int (nI cc))]) (st' := [.int (-4), .int (nI cc), .int (μ.1 50 45), .ref 50]) (μ' := z_ui μ 50 0 0) (by rfl) ?_
        have y1 : μ.1 50 44 = 1 := y1
        have hP := hi.2.2 (by rw [y1]; decide)
        obtain ⟨q, hq4, eq⟩ := sets_nI hi.1 a
        have tq := nI_toInt (n := q) (by omega)
        have l1 := hP.1.le ha4 hcc
        have l2 := hP.1.2 a ha4
        have l3 : glim μ a = 14 := by unfold glim; rw [if_pos ⟨y1, ea⟩]
        have lo : ∀ s, s < 4 → s ≠ a → glim μ s ≤ 13 := fun s hs4 hs => by unfold glim; rw [if_neg (fun z => hs ((nI_eq (by omega) (by omega)).mp (z.2.symm.trans ea)))]; exact Int.le_refl _
        have ll : ∀ s, s < 4 → glim μ s ≤ 14 := fun s _ => by unfold glim; split <;> decide
        have l4 : hI μ (34 * a + cc) = 4 := by unfold hI; rw [h1]; rfl
        have l5 : mI μ a = q := by unfold mI; rw [eq, tq]
        have hq : q < 4 := by omega
        rw [ea]
        refine zq_call hc (z_cx_ok hH (by rfl)) (fc_X7_gives d' (by omega) (z_ui μ 50 0 0) a cc (-4) ha4 hcc) (by decide +kernel) (fun r9 μ9 hq => ?_)
        obtain ⟨rfl, rfl⟩ := hq
        show Z 0 45 [(0, .ref 50), (1, .int (nI cc))] [] (z_giv (z_ui μ 50 0 0) a cc (-4))
        refine z_rcs hc hH 5 (pc' := 52) (lv' := [(0, .ref 50), (1, .int (nI cc))]) (st' := [.int (nI cc), .int 3, .int ((z_giv (z_ui μ 50 0 0) a cc (-4)).1 50 45), .ref 50]) (μ' := (z_giv (z_ui μ 50 0 0) a cc (-4))) (by rfl) ?_
        rw [show (z_giv (z_ui μ 50 0 0) a cc (-4)).1 50 45 = nI a from ea]
        refine zq_call hc (z_cx_ok hH (by rfl)) (fc_X7_lays d' (by omega) (z_giv (z_ui μ 50 0 0) a cc (-4)) a q 3 (nI cc) ha4 hq eq) (by decide +kernel) (fun r9 μ9 hq => ?_)
        obtain ⟨rfl, rfl⟩ := hq
        have H2 := a_H_lys (μ := z_ui μ 50 0 0) (a := a) (c := cc) (q := q) (n := -4) (so := 3) (k := nI cc) h0.1 hq
        have g2 := GW_lys (a := a) (c := cc) (q := q) (n := -4) (so := 3) (k := nI cc) h0.2.1
        have f2 := fG_lys (a := a) (c := cc) (q := q) (n := -4) (so := 3) (k := nI cc) (fG0 μ)
        have i60 : ∀ j, (z_lys (z_giv (z_ui μ 50 0 0) a cc (-4)) a q (3) (nI cc)).1 60 j = if j = 34 * a + cc then (z_ui μ 50 0 0).1 60 j + (-4) else (z_ui μ 50 0 0).1 60 j := fun j => by rw [lys_ne _ _ _ _ _ (by decide) (by decide) (by decide), giv_60]
        have i64 : ∀ j, (z_lys (z_giv (z_ui μ 50 0 0) a cc (-4)) a q (3) (nI cc)).1 64 j = if j = a then nI (q + 1) else (z_ui μ 50 0 0).1 64 j := fun j => by rw [lys_64, giv_ne _ _ _ _ (by decide)]
        have i66 : ∀ j, (z_lys (z_giv (z_ui μ 50 0 0) a cc (-4)) a q (3) (nI cc)).1 66 j = (z_ui μ 50 0 0).1 66 j := fun j => by rw [lys_ne _ _ _ _ _ (by decide) (by decide) (by decide), giv_ne _ _ _ _ (by decide)]
        have i50 : ∀ j, (z_lys (z_giv (z_ui μ 50 0 0) a cc (-4)) a q (3) (nI cc)).1 50 j = (z_ui μ 50 0 0).1 50 j := fun j => by rw [lys_ne _ _ _ _ _ (by decide) (by decide) (by decide), giv_ne _ _ _ _ (by decide)]
        generalize z_lys (z_giv (z_ui μ 50 0 0) a cc (-4)) a q (3) (nI cc) = μ2 at H2 g2 f2 i60 i64 i66 i50 ⊢
        have gh2 : GH μ2 (fun _ => 13) := GH_lays (μ := z_ui μ 50 0 0) (hP.1.keep (fun j => rfl) (fun j => rfl)) ll h0.1 ha4 hcc hq eq (by decide) (by show 0 ≤ hI μ (34 * a + cc) + -4; omega) (by rw [l3]; decide) lo i60 i64
        have hM2 := sM_lay (μ := z_ui μ 50 0 0) ha4 hq eq i64
        have hM3 : sM (z_ui μ 50 0 0) = sM μ := rfl
        have hR3 : sR μ2 = sR μ := by unfold sR rI; simp only [i66]; rfl
        have b47 : 0 ≤ (μ.1 50 47).toInt ∧ (μ.1 50 47).toInt ≤ 4 := hi.1 50 47
        have b46 : 0 ≤ (μ.1 50 46).toInt ∧ (μ.1 50 46).toInt ≤ 122 := hi.1 50 46
        have hlt := leftp b46 b47 y3
        have y4 : ¬ (4 : Int32) ≤ μ.1 50 47 := y4
        rw [Int32.not_le, Int32.lt_iff_toInt_lt] at y4
        obtain ⟨t, ht, et⟩ := a_nI (x := μ.1 50 47) (n := 4) b47.1 y4 (by decide)
        have tt := nI_toInt (n := t) (by omega)
        have e47 : μ2.1 50 47 = nI t := (i50 47).trans et
        have e48 : μ2.1 50 48 = nI t := (i50 48).trans (hP.2.2.1.trans et)
        have e45 : μ2.1 50 45 = nI a := (i50 45).trans ea
        have e46 : μ2.1 50 46 = μ.1 50 46 := i50 46
        have h46 : (μ2.1 50 46).toInt + t < 122 := by rw [e46]; rw [et, tt] at hlt; exact hlt
        have hR := hP.2.2.2.2.2
        rw [if_pos y1, hP.2.2.1, et, tt] at hR
        have hR2 : sR μ2 + 53 ≤ (μ2.1 50 46).toInt + (t + 1) + sM μ2 := by rw [e46, hR3, hM2, hM3]; omega
        show Z 0 55 [(0, .ref 50), (1, .int (nI cc))] [] μ2
        refine z_rcs hc hH 1 (pc' := 56) (lv' := [(0, .ref 50), (1, .int (nI cc))]) (st' := [.ref 50]) (μ' := μ2) (by rfl) ?_
        refine zq_call hc (z_cx_ok hH (by rfl)) (a_use (i := 123) (K := ak_123) rfl (by omega) [.ref 50] _ (aArg_pre ⟨⟨50, by decide, rfl⟩, trivial⟩ rfl) H2) (by decide +kernel) (fun r8 μ8 hq => ?_)
        obtain ⟨q8, z8, rfl⟩ := hq
        have g8 : GW μ8 := GW_keep g2 z8 (by decide)
        have f8 : a_Fz md_G μ μ8 := a_Fz_tr (by decide) f2 z8
        have r60 : ∀ j, μ8.1 60 j = μ2.1 60 j := fun j => a_Fz_at z8 60 j (a_md_row (by decide))
        have r64 : ∀ j, μ8.1 64 j = μ2.1 64 j := fun j => a_Fz_at z8 64 j (a_md_row (by decide))
        have r66 : ∀ j, μ8.1 66 j = μ2.1 66 j := fun j => a_Fz_at z8 66 j (a_md_row (by decide))
        have c45 : μ8.1 50 45 = μ2.1 50 45 := a_Fz_at z8 50 45 (by decide)
        have c46 : μ8.1 50 46 = μ2.1 50 46 := a_Fz_at z8 50 46 (by decide)
        have c47 : μ8.1 50 47 = μ2.1 50 47 := a_Fz_at z8 50 47 (by decide)
        have c48 : μ8.1 50 48 = μ2.1 50 48 := a_Fz_at z8 50 48 (by decide)
        show Z 0 59 [(0, .ref 50), (1, .int (nI cc))] [] μ8
        refine z_rcs hc hH 5 (pc' := 66) (lv' := [(0, .ref 50), (1, .int (nI cc))]) (st' := [.int ((μ8.1 50 47) + 1), .ref 50]) (μ' := μ8) (by rfl) ?_
        rw [c47, e47, nI_1]
        refine z_rcs hc hH 5 (pc' := 75) (lv' := [(0, .ref 50), (1, .int (nI cc))]) (st' := [.int 1, .int (μ8.1 50 45), .ref 50]) (μ' := z_ui μ8 50 47 (nI (t + 1))) (by rfl) ?_
        rw [c45, e45]
        have q7 : a_H (z_ui μ8 50 47 (nI (t + 1))) := a_H_ui q8 (show bI 0 4 _ from bd_nI (by omega) ⟨by omega, by omega⟩)
        refine zq_call hc (z_cx_ok hH (by rfl)) (fc_X7_draws1 d' (by omega) (z_ui μ8 50 47 (nI (t + 1))) a t ha4 ht (by rw [z_ui_rd, if_neg (by omega), c48, e48]) q7) (by decide +kernel) (fun r7 μ7 hq => ?_)
        obtain ⟨rfl, k1, k2, k3, k4, k5, k6, k7, c, hc4, k8, k9⟩ := hq
        have hG : GP μ7 := by
          have n46 := nI_toInt (n := t) (by omega)
          have n47 := nI_toInt (n := t + 1) (by omega)
          have e7 : ∀ r j, r ≠ 50 → (z_ui μ8 50 47 (nI (t + 1))).1 r j = μ8.1 r j := fun r j h => by rw [z_ui_rd, if_neg (fun z => h z.1)]
          have eM : sM (z_ui μ8 50 47 (nI (t + 1))) = sM μ2 := by unfold sM mI; simp only [e7 64 _ (by decide), r64]
          have eR : sR (z_ui μ8 50 47 (nI (t + 1))) = sR μ2 := by unfold sR rI; simp only [e7 66 _ (by decide), r66]
          refine GP_drawn ha4 hc4 k2 q7 (gh2.keep (fun j => by rw [e7 60 _ (by decide), r60]) (fun j => by rw [e7 64 _ (by decide), r64])) k3 k4 k8 k9 ?_ (by rw [k6, z_ui_rd, if_pos ⟨rfl, rfl⟩]) ?_
          · rw [k7, z_ui_rd, if_neg (by omega), c46, z_ui_rd, if_pos ⟨rfl, rfl⟩, n47]; omega
          · rw [k7, z_ui_rd, if_neg (by omega), c46, k6, n47, eM, eR]; omega
        have hE : zPG μ (some (.int 1)) μ7 := ⟨⟨1, rfl⟩, ⟨k1, GW_keep (μ := z_ui μ8 50 47 (nI (t + 1))) (GW_ne g8 (by decide)) k2 (by decide), fun _ => hG⟩, a_Fz_tr (by decide) (a_Fz_ui f8 (by decide)) k2⟩
        show Z 0 78 [(0, .ref 50), (1, .int (nI cc))] [] μ7
        refine z_rcs hc hH 1 (pc' := 79) (lv' := [(0, .ref 50), (1, .int (nI cc))]) (st' := [.int 1]) (μ' := μ7) (by rfl) ?_
        exact hr 0 79 _ _ _ (some (.int 1)) (by decide +kernel) (by rfl) hE
      · have h1 := cn_eq.mp h1
        refine z_rcs hc hH 1 (pc' := 33) (lv' := [(0, .ref 50), (1, .int (nI cc))]) (st' := [.int 0]) (μ' := z_ui μ 50 0 0) (by rfl) ?_
        exact hr 0 33 _ _ _ (some (.int 0)) (by decide +kernel) (z_rx_ok hH (by rfl)) (⟨⟨0, rfl⟩, h0, fG0 μ⟩)
    · show Z 0 16 [(0, .ref 50), (1, .int k)] [.int 0] (z_ui μ 50 0 0)
      refine z_rcs hc hH 2 (pc' := 33) (lv' := [(0, .ref 50), (1, .int k)]) (st' := [.int 0]) (μ' := z_ui μ 50 0 0) (by rfl) ?_
      exact hr 0 33 _ _ _ (some (.int 0)) (by decide +kernel) (z_rx_ok hH (by rfl)) (⟨⟨0, rfl⟩, h0, fG0 μ⟩)
  · show Z 0 9 [(0, .ref 50), (1, .int k)] [.int 0] (z_ui μ 50 0 0)
    refine z_rcs hc hH 2 (pc' := 33) (lv' := [(0, .ref 50), (1, .int k)]) (st' := [.int 0]) (μ' := z_ui μ 50 0 0) (by rfl) ?_
    exact hr 0 33 _ _ _ (some (.int 0)) (by decide +kernel) (z_rx_ok hH (by rfl)) (⟨⟨0, rfl⟩, h0, fG0 μ⟩)
theorem zh_X7_four : zH mi_X7_four zt_X7_four 79 7 2 := hh_X7_four
set_option maxRecDepth 100000 in
theorem fc_X7_four (d : Nat) (hd : 704 ≤ d) (μ : zM) (s : Int32) (hi : GI μ) : z_C d mi_X7_four [.ref 50, .int s] μ (zPG μ) := by
  refine z_C_in (by decide) (by omega) (fun d' Z ed hc hr => ?_)
  have hH := zh_X7_four
  have h0 := hi.put
  refine z_rcs hc hH 5 (pc' := 7) (lv' := [(0, .ref 50), (1, .int s)]) (st' := [.int s, .ref 50]) (μ' := z_ui μ 50 0 0) (by rfl) ?_
  refine zq_call hc (z_cx_ok hH (by rfl)) (fc_X7_mayClaim d' (by omega) (z_ui μ 50 0 0) s h0.1) (by decide +kernel) (fun r9 μ9 hq => ?_)
  obtain ⟨hμ9, hq⟩ := hq
  rw [hμ9]
  clear hμ9 μ9
  obtain ⟨rfl, y1, y3, y5, y6⟩ | rfl := hq
  · show Z 0 10 [(0, .ref 50), (1, .int s)] [.int 1] (z_ui μ 50 0 0)
    obtain ⟨a, ha4, rfl⟩ := vp_in_of y5 (by decide)
    have y1 : μ.1 50 44 = 2 := y1
    have hP := hi.2.2 (by rw [y1]; decide)
    have hP0 : GP (z_ui μ 50 0 0) := h0.2.2 (by show ¬ μ.1 50 44 = 0; rw [y1]; decide)
    have hn1 : ¬ μ.1 50 44 = 1 := by rw [y1]; decide
    obtain ⟨cc, hcc, ec⟩ := a_nI (x := μ.1 50 49) (n := 34) (hP.2.2.2.2.1 (fun q => absurd q hn1)) (by have : (μ.1 50 49).toInt ≤ 33 := (hi.1 50 49).2; omega) (by decide)
    refine z_rcs hc hH 5 (pc' := 19) (lv' := [(0, .ref 50), (1, .int (nI a))]) (st' := [.int (μ.1 50 49), .int (nI a), .ref 50]) (μ' := z_ui μ 50 0 0) (by rfl) ?_
    rw [ec]
    refine zq_call hc (z_cx_ok hH (by rfl)) (fc_X7_has_ d' (by omega) (z_ui μ 50 0 0) a cc ha4 hcc) (by decide +kernel) (fun r9 μ9 hq => ?_)
    obtain ⟨hμ9, rfl⟩ := hq
    rw [hμ9]
    clear hμ9 μ9
    show Z 0 22 [(0, .ref 50), (1, .int (nI a))] [.int (μ.1 60 (34 * a + cc))] (z_ui μ 50 0 0)
    refine z_rcs hc hH 1 (pc' := 23) (lv' := [(0, .ref 50), (1, .int (nI a))]) (st' := [.int 3, .int (μ.1 60 (34 * a + cc))]) (μ' := z_ui μ 50 0 0) (by rfl) ?_
    refine zq_ic hc hH (by rfl) (tg := 34) (by rfl) (fun h1 => ?_) (fun h1 => ?_)
    · have h1 := cm_lt.mp h1
      refine z_rcs hc hH 1 (pc' := 35) (lv' := [(0, .ref 50), (1, .int (nI a))]) (st' := [.int 0]) (μ' := z_ui μ 50 0 0) (by rfl) ?_
      exact hr 0 35 _ _ _ (some (.int 0)) (by decide +kernel) (z_rx_ok hH (by rfl)) (⟨⟨0, rfl⟩, h0, fG0 μ⟩)
    · have h1 := cn_lt.mp h1
      refine z_rcs hc hH 3 (pc' := 31) (lv' := [(0, .ref 50), (1, .int (nI a))]) (st' := [.int 4, .int (μ.1 50 47)]) (μ' := z_ui μ 50 0 0) (by rfl) ?_
      refine zq_ic hc hH (by rfl) (tg := 36) (by rfl) (fun h2 => ?_) (fun h2 => ?_)
      · have h2 := cm_ne.mp h2
        refine z_rcs hc hH 1 (pc' := 37) (lv' := [(0, .ref 50), (1, .int (nI a))]) (st' := [.ref 50]) (μ' := z_ui μ 50 0 0) (by rfl) ?_
        refine zq_call hc (z_cx_ok hH (by rfl)) (a_use (i := 122) (K := ak_122) rfl (by omega) [.ref 50] _ (aArg_pre ⟨⟨50, by decide, rfl⟩, trivial⟩ rfl) h0.1) (by decide +kernel) (fun r9 μ9 hq => ?_)
        obtain ⟨hB1, q3, rfl⟩ := hq
        have hB2 := GW_keep h0.2.1 q3 (by decide)
        have hP9 := hP0.keep q3 (by decide)
        have fB : a_Fz md_G μ μ9 := a_Fz_tr (by decide) (fG0 μ) q3
        have e44 : μ9.1 50 44 = μ.1 50 44 := by rw [a_Fz_at q3 50 44 (by decide)]; rfl
        have e46 : μ9.1 50 46 = μ.1 50 46 := by rw [a_Fz_at q3 50 46 (by decide)]; rfl
        have e47 : μ9.1 50 47 = μ.1 50 47 := by rw [a_Fz_at q3 50 47 (by decide)]; rfl
        have e49 : μ9.1 50 49 = nI cc := by rw [a_Fz_at q3 50 49 (by decide)]; exact ec
        have r60 : ∀ j, μ9.1 60 j = μ.1 60 j := fun j => by rw [a_Fz_at q3 60 j (a_md_row (by decide))]; rfl
        have hfl := hP9.flat (by rw [e44]; exact hn1)
        obtain ⟨q, hq4, eq⟩ := sets_nI hB1 a
        have tq := nI_toInt (n := q) (by omega)
        have l1 := hfl.le ha4 hcc
        have l2 : hs μ9 a + 3 * mI μ9 a ≤ 13 := hfl.2 a ha4
        have l5 : mI μ9 a = q := by unfold mI; rw [eq, tq]
        show Z 0 40 [(0, .ref 50), (1, .int (nI a))] [] μ9
        refine z_rcs hc hH 5 (pc' := 48) (lv' := [(0, .ref 50), (1, .int (nI a))]) (st' := [.int (-3), .int (μ9.1 50 49), .int (nI a), .ref 50]) (μ' := μ9) (by rfl) ?_
        have l4 : 3 ≤ hI μ9 (34 * a + cc) := by
          have z := h1
          rw [Int32.not_lt, Int32.le_iff_toInt_le] at z
          unfold hI; rw [r60]; exact z
        have hq : q < 4 := by omega
        rw [e49]
        refine zq_call hc (z_cx_ok hH (by rfl)) (fc_X7_gives d' (by omega) μ9 a cc (-3) ha4 hcc) (by decide +kernel) (fun r8 μ8 hq => ?_)
        obtain ⟨rfl, rfl⟩ := hq
        show Z 0 51 [(0, .ref 50), (1, .int (nI a))] [] (z_giv μ9 a cc (-3))
        refine z_rcs hc hH 5 (pc' := 58) (lv' := [(0, .ref 50), (1, .int (nI a))]) (st' := [.int ((z_giv μ9 a cc (-3)).1 50 49), .int 2, .int (nI a), .ref 50]) (μ' := (z_giv μ9 a cc (-3))) (by rfl) ?_
        rw [show (z_giv μ9 a cc (-3)).1 50 49 = nI cc from e49]
        refine zq_call hc (z_cx_ok hH (by rfl)) (fc_X7_lays d' (by omega) (z_giv μ9 a cc (-3)) a q 2 (nI cc) ha4 hq eq) (by decide +kernel) (fun r8 μ8 hq => ?_)
        obtain ⟨rfl, rfl⟩ := hq
        have H2 := a_H_lys (μ := μ9) (a := a) (c := cc) (q := q) (n := -3) (so := 2) (k := nI cc) hB1 hq
        have g2 := GW_lys (a := a) (c := cc) (q := q) (n := -3) (so := 2) (k := nI cc) hB2
        have f2 := fG_lys (a := a) (c := cc) (q := q) (n := -3) (so := 2) (k := nI cc) (fB)
        have i60 : ∀ j, (z_lys (z_giv (μ9) a cc (-3)) a q (2) (nI cc)).1 60 j = if j = 34 * a + cc then (μ9).1 60 j + (-3) else (μ9).1 60 j := fun j => by rw [lys_ne _ _ _ _ _ (by decide) (by decide) (by decide), giv_60]
        have i64 : ∀ j, (z_lys (z_giv (μ9) a cc (-3)) a q (2) (nI cc)).1 64 j = if j = a then nI (q + 1) else (μ9).1 64 j := fun j => by rw [lys_64, giv_ne _ _ _ _ (by decide)]
        have i66 : ∀ j, (z_lys (z_giv (μ9) a cc (-3)) a q (2) (nI cc)).1 66 j = (μ9).1 66 j := fun j => by rw [lys_ne _ _ _ _ _ (by decide) (by decide) (by decide), giv_ne _ _ _ _ (by decide)]
        have i50 : ∀ j, (z_lys (z_giv (μ9) a cc (-3)) a q (2) (nI cc)).1 50 j = (μ9).1 50 j := fun j => by rw [lys_ne _ _ _ _ _ (by decide) (by decide) (by decide), giv_ne _ _ _ _ (by decide)]
        generalize z_lys (z_giv (μ9) a cc (-3)) a q (2) (nI cc) = μ2 at H2 g2 f2 i60 i64 i66 i50 ⊢
        have gh2 : GH μ2 (fun _ => 13) := GH_lays (μ := μ9) hfl (fun _ _ => by decide) hB1 ha4 hcc hq eq (by decide) (by show 0 ≤ hI μ9 (34 * a + cc) + -3; omega) (by decide) (fun _ _ _ => Int.le_refl _) i60 i64
        have hM2 := sM_lay (μ := μ9) ha4 hq eq i64
        have hR3 : sR μ2 = sR μ9 := by unfold sR rI; simp only [i66]
        have b47 : 0 ≤ (μ.1 50 47).toInt ∧ (μ.1 50 47).toInt ≤ 4 := hi.1 50 47
        have b46 : 0 ≤ (μ.1 50 46).toInt ∧ (μ.1 50 46).toInt ≤ 122 := hi.1 50 46
        have hlt := leftp b46 b47 y3
        have n4 : (μ.1 50 47).toInt ≠ 4 := fun z => h2 (Int32.toInt_inj.mp z)
        obtain ⟨t, ht, et⟩ := a_nI (x := μ.1 50 47) (n := 4) b47.1 (by omega) (by decide)
        have tt := nI_toInt (n := t) (by omega)
        have e48 : μ2.1 50 48 = nI t := (i50 48).trans (hP9.2.2.1.trans (e47.trans et))
        have hR := hP9.2.2.2.2.2
        rw [if_neg (by rw [e44]; exact hn1), hP9.2.2.1, e47, et, tt] at hR
        have e47 : μ2.1 50 47 = nI t := (i50 47).trans (e47.trans et)
        have e46b : μ2.1 50 46 = μ9.1 50 46 := i50 46
        have h46 : (μ2.1 50 46).toInt + t < 122 := by rw [e46b, e46]; rw [et, tt] at hlt; exact hlt
        have hR2 : sR μ2 + 53 ≤ (μ2.1 50 46).toInt + (t + 1) + sM μ2 := by rw [e46b, hR3, hM2]; omega
        clear r60 e44
        show Z 0 61 [(0, .ref 50), (1, .int (nI a))] [] μ2
        refine z_rcs hc hH 1 (pc' := 62) (lv' := [(0, .ref 50), (1, .int (nI a))]) (st' := [.ref 50]) (μ' := μ2) (by rfl) ?_
        refine zq_call hc (z_cx_ok hH (by rfl)) (a_use (i := 123) (K := ak_123) rfl (by omega) [.ref 50] _ (aArg_pre ⟨⟨50, by decide, rfl⟩, trivial⟩ rfl) H2) (by decide +kernel) (fun r8 μ8 hq => ?_)
        obtain ⟨q8, z8, rfl⟩ := hq
        have g8 : GW μ8 := GW_keep g2 z8 (by decide)
        have f8 : a_Fz md_G μ μ8 := a_Fz_tr (by decide) f2 z8
        have r60 : ∀ j, μ8.1 60 j = μ2.1 60 j := fun j => a_Fz_at z8 60 j (a_md_row (by decide))
        have r64 : ∀ j, μ8.1 64 j = μ2.1 64 j := fun j => a_Fz_at z8 64 j (a_md_row (by decide))
        have r66 : ∀ j, μ8.1 66 j = μ2.1 66 j := fun j => a_Fz_at z8 66 j (a_md_row (by decide))
        have c45 : μ8.1 50 45 = μ2.1 50 45 := a_Fz_at z8 50 45 (by decide)
        have c46 : μ8.1 50 46 = μ2.1 50 46 := a_Fz_at z8 50 46 (by decide)
        have c47 : μ8.1 50 47 = μ2.1 50 47 := a_Fz_at z8 50 47 (by decide)
        have c48 : μ8.1 50 48 = μ2.1 50 48 := a_Fz_at z8 50 48 (by decide)
        show Z 0 65 [(0, .ref 50), (1, .int (nI a))] [] μ8
        refine z_rcs hc hH 5 (pc' := 72) (lv' := [(0, .ref 50), (1, .int (nI a))]) (st' := [.int ((μ8.1 50 47) + 1), .ref 50]) (μ' := μ8) (by rfl) ?_
        rw [c47, e47, nI_1]
        refine z_rcs hc hH 4 (pc' := 78) (lv' := [(0, .ref 50), (1, .int (nI a))]) (st' := [.int 1, .int (nI a), .ref 50]) (μ' := z_ui μ8 50 47 (nI (t + 1))) (by rfl) ?_
        have q7 : a_H (z_ui μ8 50 47 (nI (t + 1))) := a_H_ui q8 (show bI 0 4 _ from bd_nI (by omega) ⟨by omega, by omega⟩)
        refine zq_call hc (z_cx_ok hH (by rfl)) (fc_X7_draws1 d' (by omega) (z_ui μ8 50 47 (nI (t + 1))) a t ha4 ht (by rw [z_ui_rd, if_neg (by omega), c48, e48]) q7) (by decide +kernel) (fun r7 μ7 hq => ?_)
        obtain ⟨rfl, k1, k2, k3, k4, k5, k6, k7, c, hc4, k8, k9⟩ := hq
        have hG : GP μ7 := by
          have n46 := nI_toInt (n := t) (by omega)
          have n47 := nI_toInt (n := t + 1) (by omega)
          have e7 : ∀ r j, r ≠ 50 → (z_ui μ8 50 47 (nI (t + 1))).1 r j = μ8.1 r j := fun r j h => by rw [z_ui_rd, if_neg (fun z => h z.1)]
          have eM : sM (z_ui μ8 50 47 (nI (t + 1))) = sM μ2 := by unfold sM mI; simp only [e7 64 _ (by decide), r64]
          have eR : sR (z_ui μ8 50 47 (nI (t + 1))) = sR μ2 := by unfold sR rI; simp only [e7 66 _ (by decide), r66]
          refine GP_drawn ha4 hc4 k2 q7 (gh2.keep (fun j => by rw [e7 60 _ (by decide), r60]) (fun j => by rw [e7 64 _ (by decide), r64])) k3 k4 k8 k9 ?_ (by rw [k6, z_ui_rd, if_pos ⟨rfl, rfl⟩]) ?_
          · rw [k7, z_ui_rd, if_neg (by omega), c46, z_ui_rd, if_pos ⟨rfl, rfl⟩, n47]; omega
          · rw [k7, z_ui_rd, if_neg (by omega), c46, k6, n47, eM, eR]; omega
        have hE : zPG μ (some (.int 1)) μ7 := ⟨⟨1, rfl⟩, ⟨k1, GW_keep (μ := z_ui μ8 50 47 (nI (t + 1))) (GW_ne g8 (by decide)) k2 (by decide), fun _ => hG⟩, a_Fz_tr (by decide) (a_Fz_ui f8 (by decide)) k2⟩
        show Z 0 81 [(0, .ref 50), (1, .int (nI a))] [] μ7
        refine z_rcs hc hH 1 (pc' := 82) (lv' := [(0, .ref 50), (1, .int (nI a))]) (st' := [.int 1]) (μ' := μ7) (by rfl) ?_
        exact hr 0 82 _ _ _ (some (.int 1)) (by decide +kernel) (by rfl) hE
      · have h2 := cn_ne.mp h2
        refine z_rcs hc hH 1 (pc' := 35) (lv' := [(0, .ref 50), (1, .int (nI a))]) (st' := [.int 0]) (μ' := z_ui μ 50 0 0) (by rfl) ?_
        exact hr 0 35 _ _ _ (some (.int 0)) (by decide +kernel) (z_rx_ok hH (by rfl)) (⟨⟨0, rfl⟩, h0, fG0 μ⟩)
  · show Z 0 10 [(0, .ref 50), (1, .int s)] [.int 0] (z_ui μ 50 0 0)
    refine z_rcs hc hH 2 (pc' := 35) (lv' := [(0, .ref 50), (1, .int s)]) (st' := [.int 0]) (μ' := z_ui μ 50 0 0) (by rfl) ?_
    exact hr 0 35 _ _ _ (some (.int 0)) (by decide +kernel) (z_rx_ok hH (by rfl)) (⟨⟨0, rfl⟩, h0, fG0 μ⟩)

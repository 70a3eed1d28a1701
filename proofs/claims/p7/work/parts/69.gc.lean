/-! discard -/
theorem sR_add {μ μ' : zM} {a rr : Nat} (ha : a < 4) (hr : rr < 2 ^ 30) (e : μ.1 66 a = nI rr) (h : ∀ i, μ'.1 66 i = if i = a then nI (rr + 1) else μ.1 66 i) : sR μ' = sR μ + 1 := by
  have t0 := nI_toInt (n := rr) (by omega)
  have t1 := nI_toInt (n := rr + 1) (by omega)
  have ma : rI μ a = rr := by unfold rI; rw [e, t0]
  have ma' : rI μ' a = rr + 1 := by unfold rI; rw [h, if_pos rfl, t1]; omega
  have mo : ∀ i, i ≠ a → rI μ' i = rI μ i := fun i hi => by unfold rI; rw [h, if_neg hi]
  unfold sR
  rcases (show a = 0 ∨ a = 1 ∨ a = 2 ∨ a = 3 by omega) with rfl | rfl | rfl | rfl
  · rw [ma', ma, mo 1 (by decide), mo 2 (by decide), mo 3 (by decide)]; omega
  · rw [ma', ma, mo 0 (by decide), mo 2 (by decide), mo 3 (by decide)]; omega
  · rw [ma', ma, mo 0 (by decide), mo 1 (by decide), mo 3 (by decide)]; omega
  · rw [ma', ma, mo 0 (by decide), mo 1 (by decide), mo 2 (by decide)]; omega
/-- a river is short -/
theorem rv_nI {μ : zM} {a : Nat} (hP : GP μ) (hH : a_H μ) (ha : a < 4) (y1 : μ.1 50 44 = 1) : ∃ rr, rr < 100 ∧ μ.1 66 a = nI rr := by
  have g6 := hP.2.2.2.2.2
  rw [if_pos y1] at g6
  have b46 : (μ.1 50 46).toInt ≤ 122 := (hH 50 46).2
  have b48 : (μ.1 50 48).toInt ≤ 4 := (hH 50 48).2
  have m : ∀ s, mI μ s ≤ 4 := fun s => (hH 64 s).2
  have r : ∀ s, 0 ≤ rI μ s := fun s => (hH 66 s).1
  have m0 := m 0
  have m1 := m 1
  have m2 := m 2
  have m3 := m 3
  have r0 := r 0
  have r1 := r 1
  have r2 := r 2
  have r3 := r 3
  unfold sM sR at g6
  have hb : rI μ a < 100 := by
    rcases (show a = 0 ∨ a = 1 ∨ a = 2 ∨ a = 3 by omega) with rfl | rfl | rfl | rfl <;> omega
  exact a_nI (x := μ.1 66 a) (n := 100) (r a) hb (by decide)
theorem GP_disc {μ0 μ' : zM} {a cc rr : Nat} (hP : GP μ0) (hH : a_H μ0) (ha : a < 4) (hcc : cc < 34) (hrr : rr < 100) (y1 : μ0.1 50 44 = 1) (ea : μ0.1 50 45 = nI a) (h1 : 1 ≤ hI μ0 (34 * a + cc)) (er : μ0.1 66 a = nI rr) (e60 : ∀ j, μ'.1 60 j = if j = 34 * a + cc then μ0.1 60 j + (-1) else μ0.1 60 j) (r64 : ∀ j, μ'.1 64 j = μ0.1 64 j) (r66 : ∀ j, μ'.1 66 j = if j = a then nI (rr + 1) else μ0.1 66 j) (e44 : μ'.1 50 44 = 2) (e49 : μ'.1 50 49 = nI cc) (c46 : μ'.1 50 46 = μ0.1 50 46) (c47 : μ'.1 50 47 = μ0.1 50 47) (c48 : μ'.1 50 48 = μ0.1 50 48) : GP μ' := by
  obtain ⟨g1, g2, g3, g4, g5, g6⟩ := hP
  rw [if_pos y1] at g6
  have ll : ∀ s, s < 4 → glim μ0 s ≤ 14 := fun s _ => by unfold glim; split <;> decide
  have em : ∀ s, mI μ' s = mI μ0 s := fun s => by unfold mI; rw [r64]
  have eM : sM μ' = sM μ0 := by unfold sM; simp only [em]
  have eR := sR_add ha (by omega) er r66
  have hr := HR_of g1 ll (fun s _ => mI_nn hH s) ha hcc (n := -1) (by decide) e60
  have hr : HR μ0 μ' a cc (-1) := hr
  have n1 := g1.2 a ha
  have l3 : glim μ0 a = 14 := by unfold glim; rw [if_pos ⟨y1, ea⟩]
  have lim' : ∀ s, glim μ' s = 13 := fun s => by unfold glim; rw [if_neg (fun z => absurd (e44.symm.trans z.1) (by decide))]
  refine ⟨g1.upd hr ha hcc (by omega) (fun s _ _ => em s) (by rw [lim', em]; omega) (fun s hs4 hs => ?_), by rw [c46, c47]; exact g2, by rw [c48, c47]; exact g3, fun z => absurd (e44.symm.trans z) (by decide), fun _ => by rw [e49, nI_toInt (by omega)]; omega, ?_⟩
  · rw [lim']
    unfold glim
    rw [if_neg (fun z => hs ((nI_eq (by omega) (by omega)).mp (z.2.symm.trans ea)))]
    exact Int.le_refl _
  · rw [if_neg (by rw [e44]; decide), eR, eM, c46, c48]
    omega
theorem b01_bI {x : Int32} (h : bI 0 1 x) : z_b01 x = true := by
  obtain ⟨t, ht, rfl⟩ := a_nI (x := x) (n := 2) h.1 (by have := h.2; omega) (by decide)
  rcases (show t = 0 ∨ t = 1 by omega) with rfl | rfl <;> decide
theorem nI_136 (a q : Nat) : (136 : Int32) * nI a + nI q = nI (136 * a + q) := by
  rw [show (136 : Int32) = nI 136 from rfl, nI_ml, nI_add]
theorem i_11 : (-1 : Int32) + 1 = 0 := by rw [Int32.add_comm, ← Int32.sub_eq_add_neg, Int32.sub_self]
theorem zh_X7_discard : zH mi_X7_discard zt_X7_discard 79 7 5 := hh_X7_discard
theorem giv_2 (μ : zM) (a cc : Nat) (n : Int32) : (z_giv μ a cc n).2 = μ.2 := z_ui_2 _ _ _ _
set_option maxRecDepth 2000 in
theorem dta_X7_discard (d' : Nat) (Z : zK) (hd : 703 ≤ d') (μ : zM) (hc : z_clo z_x0 mi_X7_discard (z_C d') Z) (hr : z_ret mi_X7_discard (zPG μ) Z) (a cc : Nat) (ha4 : a < 4) (wb : Int32) (hw : bI 0 1 wb) (μ1 : zM) (hcc : cc < 34) (q1 : a_H μ1) (q2 : GW μ1) (q3 : a_Fz md_G μ μ1) (hP1 : GP μ1) (y1 : μ1.1 50 44 = 1) (e1 : μ1.1 50 45 = nI a) (l1 : 1 ≤ hI μ1 (34 * a + cc)) : Z 0 193 [(0, .ref 50), (1, .int (nI cc)), (2, .int wb)] [] μ1 := by
  have hH := zh_X7_discard
  obtain ⟨rr, hrr, er⟩ := rv_nI hP1 q1 ha4 y1
  have ini1 : vp_in (μ1.1 50 45) 4 := by rw [e1]; exact vp_in_nI ha4 (by decide)
  refine z_rcs hc hH 5 (pc' := 200) (lv' := [(0, .ref 50), (1, .int (nI cc)), (2, .int wb)]) (st' := [.int (-1), .int (nI cc), .int (μ1.1 50 45), .ref 50]) (μ' := μ1) (by rfl) ?_
  rw [e1]
  refine zq_call hc (z_cx_ok hH (by rfl)) (fc_X7_gives d' (by omega) μ1 a cc (-1) ha4 hcc) (by decide +kernel) (fun r8 μ8 hq => ?_)
  obtain ⟨rfl, rfl⟩ := hq
  have u1 : a_H (z_giv μ1 a cc (-1)) := a_H_ui q1 (bI_top _)
  have u2 : GW (z_giv μ1 a cc (-1)) := GW_ne q2 (by decide)
  have u3 : a_Fz md_G μ (z_giv μ1 a cc (-1)) := a_Fz_ui q3 (a_mda_md (by decide) _)
  have u4 : ∀ r j, r ≠ 60 → (z_giv μ1 a cc (-1)).1 r j = μ1.1 r j := fun r j hr => giv_ne _ _ _ _ hr j
  have u5 := giv_60 μ1 a cc (-1)
  generalize z_giv μ1 a cc (-1) = μg at u1 u2 u3 u4 u5 ⊢
  have eg : μg.1 50 45 = nI a := (u4 50 45 (by decide)).trans e1
  have egr : μg.1 66 a = nI rr := (u4 66 a (by decide)).trans er
  have inig : vp_in (μg.1 50 45) 4 := by rw [eg]; exact vp_in_nI ha4 (by decide)
  show Z 0 203 [(0, .ref 50), (1, .int (nI cc)), (2, .int wb)] [] μg
  refine z_rcs hc hH 10 (pc' := 223) (lv' := [(0, .ref 50), (1, .int (nI cc)), (2, .int wb)]) (st' := [.int (μg.1 50 45), .ref 66, .int (136 * (μg.1 50 45)), .ref 65]) (μ' := μg) (by rfl) ?_
  refine zq_iald hc hH (by rfl) 4 (by decide +kernel) (inig) ?_
  rw [eg, nI_clamp (n := a) (by omega), egr]
  refine z_rcs hc hH 1 (pc' := 225) (lv' := [(0, .ref 50), (1, .int (nI cc)), (2, .int wb)]) (st' := [.int ((136 * nI a) + (nI rr)), .ref 65]) (μ' := μg) (by rfl) ?_
  rw [nI_136]
  refine z_rcs hc hH 1 (pc' := 226) (lv' := [(0, .ref 50), (1, .int (nI cc)), (2, .int wb)]) (st' := [.int (nI cc), .int (nI (136 * a + rr)), .ref 65]) (μ' := μg) (by rfl) ?_
  refine zq_iast hc hH (by rfl) 544 (by decide +kernel) (vp_in_nI (by omega) (by decide)) ?_
  have v1 : a_H (z_ui μg 65 ((nI (136 * a + rr)).toNatClampNeg) (nI cc)) := a_H_ui u1 (bI_top _)
  have v2 : GW (z_ui μg 65 ((nI (136 * a + rr)).toNatClampNeg) (nI cc)) := GW_ne u2 (by decide)
  have v3 : a_Fz md_G μ (z_ui μg 65 ((nI (136 * a + rr)).toNatClampNeg) (nI cc)) := a_Fz_ui u3 (a_mda_md (by decide) _)
  have v4 : ∀ r j, r ≠ 65 → (z_ui μg 65 ((nI (136 * a + rr)).toNatClampNeg) (nI cc)).1 r j = μg.1 r j := fun r j hr => by rw [z_ui_rd, if_neg (fun z => hr z.1)]
  generalize z_ui μg 65 ((nI (136 * a + rr)).toNatClampNeg) (nI cc) = μh at v1 v2 v3 v4 ⊢
  have eh : μh.1 50 45 = nI a := (v4 50 45 (by decide)).trans eg
  have ehr : μh.1 66 a = nI rr := (v4 66 a (by decide)).trans egr
  have inih : vp_in (μh.1 50 45) 4 := by rw [eh]; exact vp_in_nI ha4 (by decide)
  refine z_rcs hc hH 5 (pc' := 236) (lv' := [(0, .ref 50), (1, .int (nI cc)), (2, .int wb)]) (st' := [.int (μh.1 50 45), .ref 66, .int (μh.1 50 45), .ref 66]) (μ' := μh) (by rfl) ?_
  refine zq_iald hc hH (by rfl) 4 (by decide +kernel) (inih) ?_
  refine z_rcs hc hH 2 (pc' := 239) (lv' := [(0, .ref 50), (1, .int (nI cc)), (2, .int wb)]) (st' := [.int ((μh.1 66 (μh.1 50 45).toNatClampNeg) + 1), .int (μh.1 50 45), .ref 66]) (μ' := μh) (by rfl) ?_
  rw [eh, nI_clamp (n := a) (by omega), ehr, nI_1]
  refine zq_iast hc hH (by rfl) 4 (by decide +kernel) (vp_in_nI ha4 (by decide)) ?_
  rw [nI_clamp (n := a) (by omega)]
  have t1 : a_H (z_ui μh 66 a (nI (rr + 1))) := a_H_ui v1 (show bI 0 135 _ from bd_nI (by omega) ⟨by omega, by omega⟩)
  have t2 : GW (z_ui μh 66 a (nI (rr + 1))) := GW_ne v2 (by decide)
  have t3 : a_Fz md_G μ (z_ui μh 66 a (nI (rr + 1))) := a_Fz_ui v3 (a_mda_md (by decide) _)
  have t4 : ∀ r j, r ≠ 66 → (z_ui μh 66 a (nI (rr + 1))).1 r j = μh.1 r j := fun r j hr => by rw [z_ui_rd, if_neg (fun z => hr z.1)]
  have t5 : ∀ j, (z_ui μh 66 a (nI (rr + 1))).1 66 j = if j = a then nI (rr + 1) else μh.1 66 j := fun j => by rw [z_ui_rd]; by_cases e : j = a <;> simp [e]
  generalize z_ui μh 66 a (nI (rr + 1)) = μi at t1 t2 t3 t4 t5 ⊢
  have ei : μi.1 50 45 = nI a := (t4 50 45 (by decide)).trans eh
  have inii : vp_in (μi.1 50 45) 4 := by rw [ei]; exact vp_in_nI ha4 (by decide)
  refine z_rcs hc hH 5 (pc' := 249) (lv' := [(0, .ref 50), (1, .int (nI cc)), (2, .int wb)]) (st' := [.int wb, .int (μi.1 50 45), .ref 69]) (μ' := μi) (by rfl) ?_
  refine zq_bast hc hH (by rfl) 4 (by decide +kernel) (inii) (b01_bI hw) ?_
  have s1 : a_H (z_ui μi 69 ((μi.1 50 45).toNatClampNeg) wb) := a_H_ui t1 (show bI 0 1 _ from hw)
  have s2 : GW (z_ui μi 69 ((μi.1 50 45).toNatClampNeg) wb) := GW_ne t2 (by decide)
  have s3 : a_Fz md_G μ (z_ui μi 69 ((μi.1 50 45).toNatClampNeg) wb) := a_Fz_ui t3 (a_mda_md (by decide) _)
  have s4 : ∀ r j, r ≠ 69 → (z_ui μi 69 ((μi.1 50 45).toNatClampNeg) wb).1 r j = μi.1 r j := fun r j hr => by rw [z_ui_rd, if_neg (fun z => hr z.1)]
  generalize z_ui μi 69 ((μi.1 50 45).toNatClampNeg) wb = μj at s1 s2 s3 s4 ⊢
  refine z_rcs hc hH 2 (pc' := 252) (lv' := [(0, .ref 50), (1, .int (nI cc)), (2, .int wb)]) (st' := [.int wb, .ref 50]) (μ' := μj) (by rfl) ?_
  refine zq_zput hc hH (by rfl) (ci := 6) (f := 59) (by decide +kernel) (b01_bI hw) ?_
  refine z_rcs hc hH 10 (pc' := 271) (lv' := [(0, .ref 50), (1, .int (nI cc)), (2, .int wb)]) (st' := [.int 1]) (μ' := z_ui (z_ui (z_ui (z_ui μj 50 59 wb) 50 44 2) 50 49 (nI cc)) 50 57 0) (by rfl) ?_
  exact hr 0 271 _ _ _ (some (.int 1)) (by decide +kernel) (z_rx_ok hH (by rfl)) (⟨⟨1, rfl⟩, ⟨a_H_ui (a_H_ui (a_H_ui (a_H_ui s1 hw) ⟨by decide, by decide⟩) (show bI (-1) 33 _ from bd_nI (by omega) ⟨by omega, by omega⟩)) ⟨by decide, by decide⟩, GW_ne (GW_ne (GW_ne (GW_ne s2 (by decide)) (by decide)) (by decide)) (by decide), fun _ => GP_disc hP1 q1 ha4 hcc hrr y1 e1 l1 er (fun j => by rw [z_ui_rd, if_neg (by omega), z_ui_rd, if_neg (by omega), z_ui_rd, if_neg (by omega), z_ui_rd, if_neg (by omega), s4 60 j (by decide), t4 60 j (by decide), v4 60 j (by decide), u5]) (fun j => by rw [z_ui_rd, if_neg (by omega), z_ui_rd, if_neg (by omega), z_ui_rd, if_neg (by omega), z_ui_rd, if_neg (by omega), s4 64 j (by decide), t4 64 j (by decide), v4 64 j (by decide), u4 64 j (by decide)]) (fun j => by rw [z_ui_rd, if_neg (by omega), z_ui_rd, if_neg (by omega), z_ui_rd, if_neg (by omega), z_ui_rd, if_neg (by omega), s4 66 j (by decide), t5, v4 66 j (by decide), u4 66 j (by decide)]) (by rw [z_ui_rd, if_neg (by omega), z_ui_rd, if_neg (by omega), z_ui_rd, if_pos ⟨rfl, rfl⟩]) (by rw [z_ui_rd, if_neg (by omega), z_ui_rd, if_pos ⟨rfl, rfl⟩]) (by rw [z_ui_rd, if_neg (by omega), z_ui_rd, if_neg (by omega), z_ui_rd, if_neg (by omega), z_ui_rd, if_neg (by omega), s4 50 46 (by decide), t4 50 46 (by decide), v4 50 46 (by decide), u4 50 46 (by decide)]) (by rw [z_ui_rd, if_neg (by omega), z_ui_rd, if_neg (by omega), z_ui_rd, if_neg (by omega), z_ui_rd, if_neg (by omega), s4 50 47 (by decide), t4 50 47 (by decide), v4 50 47 (by decide), u4 50 47 (by decide)]) (by rw [z_ui_rd, if_neg (by omega), z_ui_rd, if_neg (by omega), z_ui_rd, if_neg (by omega), z_ui_rd, if_neg (by omega), s4 50 48 (by decide), t4 50 48 (by decide), v4 50 48 (by decide), u4 50 48 (by decide)])⟩, a_Fz_ui (a_Fz_ui (a_Fz_ui (a_Fz_ui s3 (by decide)) (by decide)) (by decide)) (by decide)⟩)
set_option maxRecDepth 2000 in
theorem dtb_X7_discard (d' : Nat) (Z : zK) (hd : 703 ≤ d') (μ : zM) (hc : z_clo z_x0 mi_X7_discard (z_C d') Z) (hr : z_ret mi_X7_discard (zPG μ) Z) (a cc : Nat) (ha4 : a < 4) (wb : Int32) (hw : bI 0 1 wb) (y : Int64) (μ1 : zM) (hcc : cc < 34) (q1 : a_H μ1) (q2 : GW μ1) (q3 : a_Fz md_G μ μ1) (hP1 : GP μ1) (y1 : μ1.1 50 44 = 1) (e1 : μ1.1 50 45 = nI a) (l1 : 1 ≤ hI μ1 (34 * a + cc)) : Z 0 193 [(3, .long y), (0, .ref 50), (1, .int (nI cc)), (2, .int wb)] [] μ1 := by
  have hH := zh_X7_discard
  obtain ⟨rr, hrr, er⟩ := rv_nI hP1 q1 ha4 y1
  have ini1 : vp_in (μ1.1 50 45) 4 := by rw [e1]; exact vp_in_nI ha4 (by decide)
  refine z_rcs hc hH 5 (pc' := 200) (lv' := [(3, .long y), (0, .ref 50), (1, .int (nI cc)), (2, .int wb)]) (st' := [.int (-1), .int (nI cc), .int (μ1.1 50 45), .ref 50]) (μ' := μ1) (by rfl) ?_
  rw [e1]
  refine zq_call hc (z_cx_ok hH (by rfl)) (fc_X7_gives d' (by omega) μ1 a cc (-1) ha4 hcc) (by decide +kernel) (fun r8 μ8 hq => ?_)
  obtain ⟨rfl, rfl⟩ := hq
  have u1 : a_H (z_giv μ1 a cc (-1)) := a_H_ui q1 (bI_top _)
  have u2 : GW (z_giv μ1 a cc (-1)) := GW_ne q2 (by decide)
  have u3 : a_Fz md_G μ (z_giv μ1 a cc (-1)) := a_Fz_ui q3 (a_mda_md (by decide) _)
  have u4 : ∀ r j, r ≠ 60 → (z_giv μ1 a cc (-1)).1 r j = μ1.1 r j := fun r j hr => giv_ne _ _ _ _ hr j
  have u5 := giv_60 μ1 a cc (-1)
  generalize z_giv μ1 a cc (-1) = μg at u1 u2 u3 u4 u5 ⊢
  have eg : μg.1 50 45 = nI a := (u4 50 45 (by decide)).trans e1
  have egr : μg.1 66 a = nI rr := (u4 66 a (by decide)).trans er
  have inig : vp_in (μg.1 50 45) 4 := by rw [eg]; exact vp_in_nI ha4 (by decide)
  show Z 0 203 [(3, .long y), (0, .ref 50), (1, .int (nI cc)), (2, .int wb)] [] μg
  refine z_rcs hc hH 10 (pc' := 223) (lv' := [(3, .long y), (0, .ref 50), (1, .int (nI cc)), (2, .int wb)]) (st' := [.int (μg.1 50 45), .ref 66, .int (136 * (μg.1 50 45)), .ref 65]) (μ' := μg) (by rfl) ?_
  refine zq_iald hc hH (by rfl) 4 (by decide +kernel) (inig) ?_
  rw [eg, nI_clamp (n := a) (by omega), egr]
  refine z_rcs hc hH 1 (pc' := 225) (lv' := [(3, .long y), (0, .ref 50), (1, .int (nI cc)), (2, .int wb)]) (st' := [.int ((136 * nI a) + (nI rr)), .ref 65]) (μ' := μg) (by rfl) ?_
  rw [nI_136]
  refine z_rcs hc hH 1 (pc' := 226) (lv' := [(3, .long y), (0, .ref 50), (1, .int (nI cc)), (2, .int wb)]) (st' := [.int (nI cc), .int (nI (136 * a + rr)), .ref 65]) (μ' := μg) (by rfl) ?_
  refine zq_iast hc hH (by rfl) 544 (by decide +kernel) (vp_in_nI (by omega) (by decide)) ?_
  have v1 : a_H (z_ui μg 65 ((nI (136 * a + rr)).toNatClampNeg) (nI cc)) := a_H_ui u1 (bI_top _)
  have v2 : GW (z_ui μg 65 ((nI (136 * a + rr)).toNatClampNeg) (nI cc)) := GW_ne u2 (by decide)
  have v3 : a_Fz md_G μ (z_ui μg 65 ((nI (136 * a + rr)).toNatClampNeg) (nI cc)) := a_Fz_ui u3 (a_mda_md (by decide) _)
  have v4 : ∀ r j, r ≠ 65 → (z_ui μg 65 ((nI (136 * a + rr)).toNatClampNeg) (nI cc)).1 r j = μg.1 r j := fun r j hr => by rw [z_ui_rd, if_neg (fun z => hr z.1)]
  generalize z_ui μg 65 ((nI (136 * a + rr)).toNatClampNeg) (nI cc) = μh at v1 v2 v3 v4 ⊢
  have eh : μh.1 50 45 = nI a := (v4 50 45 (by decide)).trans eg
  have ehr : μh.1 66 a = nI rr := (v4 66 a (by decide)).trans egr
  have inih : vp_in (μh.1 50 45) 4 := by rw [eh]; exact vp_in_nI ha4 (by decide)
  refine z_rcs hc hH 5 (pc' := 236) (lv' := [(3, .long y), (0, .ref 50), (1, .int (nI cc)), (2, .int wb)]) (st' := [.int (μh.1 50 45), .ref 66, .int (μh.1 50 45), .ref 66]) (μ' := μh) (by rfl) ?_
  refine zq_iald hc hH (by rfl) 4 (by decide +kernel) (inih) ?_
  refine z_rcs hc hH 2 (pc' := 239) (lv' := [(3, .long y), (0, .ref 50), (1, .int (nI cc)), (2, .int wb)]) (st' := [.int ((μh.1 66 (μh.1 50 45).toNatClampNeg) + 1), .int (μh.1 50 45), .ref 66]) (μ' := μh) (by rfl) ?_
  rw [eh, nI_clamp (n := a) (by omega), ehr, nI_1]
  refine zq_iast hc hH (by rfl) 4 (by decide +kernel) (vp_in_nI ha4 (by decide)) ?_
  rw [nI_clamp (n := a) (by omega)]
  have t1 : a_H (z_ui μh 66 a (nI (rr + 1))) := a_H_ui v1 (show bI 0 135 _ from bd_nI (by omega) ⟨by omega, by omega⟩)
  have t2 : GW (z_ui μh 66 a (nI (rr + 1))) := GW_ne v2 (by decide)
  have t3 : a_Fz md_G μ (z_ui μh 66 a (nI (rr + 1))) := a_Fz_ui v3 (a_mda_md (by decide) _)
  have t4 : ∀ r j, r ≠ 66 → (z_ui μh 66 a (nI (rr + 1))).1 r j = μh.1 r j := fun r j hr => by rw [z_ui_rd, if_neg (fun z => hr z.1)]
  have t5 : ∀ j, (z_ui μh 66 a (nI (rr + 1))).1 66 j = if j = a then nI (rr + 1) else μh.1 66 j := fun j => by rw [z_ui_rd]; by_cases e : j = a <;> simp [e]
  generalize z_ui μh 66 a (nI (rr + 1)) = μi at t1 t2 t3 t4 t5 ⊢
  have ei : μi.1 50 45 = nI a := (t4 50 45 (by decide)).trans eh
  have inii : vp_in (μi.1 50 45) 4 := by rw [ei]; exact vp_in_nI ha4 (by decide)
  refine z_rcs hc hH 5 (pc' := 249) (lv' := [(3, .long y), (0, .ref 50), (1, .int (nI cc)), (2, .int wb)]) (st' := [.int wb, .int (μi.1 50 45), .ref 69]) (μ' := μi) (by rfl) ?_
  refine zq_bast hc hH (by rfl) 4 (by decide +kernel) (inii) (b01_bI hw) ?_
  have s1 : a_H (z_ui μi 69 ((μi.1 50 45).toNatClampNeg) wb) := a_H_ui t1 (show bI 0 1 _ from hw)
  have s2 : GW (z_ui μi 69 ((μi.1 50 45).toNatClampNeg) wb) := GW_ne t2 (by decide)
  have s3 : a_Fz md_G μ (z_ui μi 69 ((μi.1 50 45).toNatClampNeg) wb) := a_Fz_ui t3 (a_mda_md (by decide) _)
  have s4 : ∀ r j, r ≠ 69 → (z_ui μi 69 ((μi.1 50 45).toNatClampNeg) wb).1 r j = μi.1 r j := fun r j hr => by rw [z_ui_rd, if_neg (fun z => hr z.1)]
  generalize z_ui μi 69 ((μi.1 50 45).toNatClampNeg) wb = μj at s1 s2 s3 s4 ⊢
  refine z_rcs hc hH 2 (pc' := 252) (lv' := [(3, .long y), (0, .ref 50), (1, .int (nI cc)), (2, .int wb)]) (st' := [.int wb, .ref 50]) (μ' := μj) (by rfl) ?_
  refine zq_zput hc hH (by rfl) (ci := 6) (f := 59) (by decide +kernel) (b01_bI hw) ?_
  refine z_rcs hc hH 10 (pc' := 271) (lv' := [(3, .long y), (0, .ref 50), (1, .int (nI cc)), (2, .int wb)]) (st' := [.int 1]) (μ' := z_ui (z_ui (z_ui (z_ui μj 50 59 wb) 50 44 2) 50 49 (nI cc)) 50 57 0) (by rfl) ?_
  exact hr 0 271 _ _ _ (some (.int 1)) (by decide +kernel) (z_rx_ok hH (by rfl)) (⟨⟨1, rfl⟩, ⟨a_H_ui (a_H_ui (a_H_ui (a_H_ui s1 hw) ⟨by decide, by decide⟩) (show bI (-1) 33 _ from bd_nI (by omega) ⟨by omega, by omega⟩)) ⟨by decide, by decide⟩, GW_ne (GW_ne (GW_ne (GW_ne s2 (by decide)) (by decide)) (by decide)) (by decide), fun _ => GP_disc hP1 q1 ha4 hcc hrr y1 e1 l1 er (fun j => by rw [z_ui_rd, if_neg (by omega), z_ui_rd, if_neg (by omega), z_ui_rd, if_neg (by omega), z_ui_rd, if_neg (by omega), s4 60 j (by decide), t4 60 j (by decide), v4 60 j (by decide), u5]) (fun j => by rw [z_ui_rd, if_neg (by omega), z_ui_rd, if_neg (by omega), z_ui_rd, if_neg (by omega), z_ui_rd, if_neg (by omega), s4 64 j (by decide), t4 64 j (by decide), v4 64 j (by decide), u4 64 j (by decide)]) (fun j => by rw [z_ui_rd, if_neg (by omega), z_ui_rd, if_neg (by omega), z_ui_rd, if_neg (by omega), z_ui_rd, if_neg (by omega), s4 66 j (by decide), t5, v4 66 j (by decide), u4 66 j (by decide)]) (by rw [z_ui_rd, if_neg (by omega), z_ui_rd, if_neg (by omega), z_ui_rd, if_pos ⟨rfl, rfl⟩]) (by rw [z_ui_rd, if_neg (by omega), z_ui_rd, if_pos ⟨rfl, rfl⟩]) (by rw [z_ui_rd, if_neg (by omega), z_ui_rd, if_neg (by omega), z_ui_rd, if_neg (by omega), z_ui_rd, if_neg (by omega), s4 50 46 (by decide), t4 50 46 (by decide), v4 50 46 (by decide), u4 50 46 (by decide)]) (by rw [z_ui_rd, if_neg (by omega), z_ui_rd, if_neg (by omega), z_ui_rd, if_neg (by omega), z_ui_rd, if_neg (by omega), s4 50 47 (by decide), t4 50 47 (by decide), v4 50 47 (by decide), u4 50 47 (by decide)]) (by rw [z_ui_rd, if_neg (by omega), z_ui_rd, if_neg (by omega), z_ui_rd, if_neg (by omega), z_ui_rd, if_neg (by omega), s4 50 48 (by decide), t4 50 48 (by decide), v4 50 48 (by decide), u4 50 48 (by decide)])⟩, a_Fz_ui (a_Fz_ui (a_Fz_ui (a_Fz_ui s3 (by decide)) (by decide)) (by decide)) (by decide)⟩)
set_option maxRecDepth 2000 in
theorem d83_X7_discard (d' : Nat) (Z : zK) (hd : 703 ≤ d') (μ : zM) (hc : z_clo z_x0 mi_X7_discard (z_C d') Z) (hr : z_ret mi_X7_discard (zPG μ) Z) (a cc : Nat) (ha4 : a < 4) (hcc : cc < 34) (wb : Int32) (hw : bI 0 1 wb) (μ0 : zM) (h0 : GI μ0) (f0 : a_Fz md_G μ μ0) (hP : GP μ0) (y1 : μ0.1 50 44 = 1) (ea : μ0.1 50 45 = nI a) (l1 : 1 ≤ hI μ0 (34 * a + cc)) : Z 0 83 [(0, .ref 50), (1, .int (nI cc)), (2, .int wb)] [] μ0 := by
  have hH := zh_X7_discard
  have ini : vp_in (μ0.1 50 45) 4 := by rw [ea]; exact vp_in_nI ha4 (by decide)
  refine z_rcs hc hH 1 (pc' := 84) (lv' := [(0, .ref 50), (1, .int (nI cc)), (2, .int wb)]) (st' := [.int wb]) (μ' := μ0) (by rfl) ?_
  refine zq_if hc hH (by rfl) (tg := 193) (by rfl) (fun h1 => ?_) (fun h1 => ?_)
  · have h1 := cm_eq9.mp h1
    exact dta_X7_discard d' Z (by omega) μ hc hr a cc ha4 wb hw μ0 hcc h0.1 h0.2.1 f0 hP y1 ea l1
  · have h1 := cn_eq.mp h1
    refine z_rcs hc hH 3 (pc' := 92) (lv' := [(0, .ref 50), (1, .int (nI cc)), (2, .int wb)]) (st' := [.int (μ0.1 50 45), .ref 50]) (μ' := μ0) (by rfl) ?_
    refine zq_call hc (z_cx_ok hH (by rfl)) (a_use (i := 116) (K := ak_116) rfl (by omega) [.ref 50, .int (μ0.1 50 45)] _ (aArg_pre ⟨⟨50, by decide, rfl⟩, ⟨_, rfl, h0.1 50 45⟩, trivial⟩ rfl) h0.1) (by decide +kernel) (fun r9 μ9 hq => ?_)
    obtain ⟨-, hz, hr9⟩ := hq
    obtain ⟨v9, rfl, x9, rfl, -⟩ := hr9
    rw [a_Fz_nil hz]
    clear hz μ9
    show Z 0 95 [(0, .ref 50), (1, .int (nI cc)), (2, .int wb)] [.int x9] μ0
    refine zq_if hc hH (by rfl) (tg := 121) (by rfl) (fun h2 => ?_) (fun h2 => ?_)
    · have h2 := cm_ne.mp h2
      refine z_rcs hc hH 1 (pc' := 122) (lv' := [(0, .ref 50), (1, .int (nI cc)), (2, .int wb)]) (st' := [.int 0]) (μ' := μ0) (by rfl) ?_
      exact hr 0 122 _ _ _ (some (.int 0)) (by decide +kernel) (z_rx_ok hH (by rfl)) (⟨⟨0, rfl⟩, h0, f0⟩)
    · have h2 := cn_ne.mp h2
      refine z_rcs hc hH 4 (pc' := 106) (lv' := [(0, .ref 50), (1, .int (nI cc)), (2, .int wb)]) (st' := [.int (μ0.1 50 45), .ref 61]) (μ' := μ0) (by rfl) ?_
      refine zq_iald hc hH (by rfl) 4 (by decide +kernel) (ini) ?_
      refine z_rcs hc hH 1 (pc' := 110) (lv' := [(0, .ref 50), (1, .int (nI cc)), (2, .int wb)]) (st' := [.int 1000, .int (μ0.1 61 (μ0.1 50 45).toNatClampNeg)]) (μ' := μ0) (by rfl) ?_
      refine zq_ic hc hH (by rfl) (tg := 121) (by rfl) (fun h3 => ?_) (fun h3 => ?_)
      · have h3 := cm_lt.mp h3
        refine z_rcs hc hH 1 (pc' := 122) (lv' := [(0, .ref 50), (1, .int (nI cc)), (2, .int wb)]) (st' := [.int 0]) (μ' := μ0) (by rfl) ?_
        exact hr 0 122 _ _ _ (some (.int 0)) (by decide +kernel) (z_rx_ok hH (by rfl)) (⟨⟨0, rfl⟩, h0, f0⟩)
      · have h3 := cn_lt.mp h3
        refine z_rcs hc hH 1 (pc' := 114) (lv' := [(0, .ref 50), (1, .int (nI cc)), (2, .int wb)]) (st' := [.ref 50]) (μ' := μ0) (by rfl) ?_
        refine zq_call hc (z_cx_ok hH (by rfl)) (fc_X7_left d' (by omega) μ0) (by decide +kernel) (fun r9 μ9 hq => ?_)
        obtain ⟨hμ9, rfl⟩ := hq
        rw [hμ9]
        clear hμ9 μ9
        show Z 0 117 [(0, .ref 50), (1, .int (nI cc)), (2, .int wb)] [.int ((122 - μ0.1 50 47) - μ0.1 50 46)] μ0
        refine z_rcs hc hH 1 (pc' := 118) (lv' := [(0, .ref 50), (1, .int (nI cc)), (2, .int wb)]) (st' := [.int 4, .int ((122 - μ0.1 50 47) - μ0.1 50 46)]) (μ' := μ0) (by rfl) ?_
        refine zq_ic hc hH (by rfl) (tg := 123) (by rfl) (fun h4 => ?_) (fun h4 => ?_)
        · have h4 := cm_ge.mp h4
          refine z_rcs hc hH 5 (pc' := 130) (lv' := [(0, .ref 50), (1, .int (nI cc)), (2, .int wb)]) (st' := [.int (-1), .int (nI cc), .int (μ0.1 50 45), .ref 50]) (μ' := μ0) (by rfl) ?_
          rw [ea]
          refine zq_call hc (z_cx_ok hH (by rfl)) (fc_X7_gives d' (by omega) μ0 a cc (-1) ha4 hcc) (by decide +kernel) (fun r8 μ8 hq => ?_)
          obtain ⟨rfl, rfl⟩ := hq
          have u1 : a_H (z_giv μ0 a cc (-1)) := a_H_ui h0.1 (bI_top _)
          have u3 : a_Fz [(60, 9999)] μ0 (z_giv μ0 a cc (-1)) := a_Fz_ui (a_Fz_rf _ _) (a_mda_md (by decide) _)
          have u5 := giv_60 μ0 a cc (-1)
          have u6 : (z_giv μ0 a cc (-1)).2 = μ0.2 := giv_2 _ _ _ _
          generalize z_giv μ0 a cc (-1) = μg at u1 u3 u5 u6 ⊢
          have eg : μg.1 50 45 = nI a := (a_Fz_at u3 50 45 (by decide)).trans ea
          show Z 0 133 [(0, .ref 50), (1, .int (nI cc)), (2, .int wb)] [] μg
          refine z_rcs hc hH 3 (pc' := 138) (lv' := [(0, .ref 50), (1, .int (nI cc)), (2, .int wb)]) (st' := [.int (μg.1 50 45), .ref 50]) (μ' := μg) (by rfl) ?_
          refine zq_call hc (z_cx_ok hH (by rfl)) (a_use (i := 118) (K := ak_118) rfl (by omega) [.ref 50, .int (μg.1 50 45)] _ (aArg_pre ⟨⟨50, by decide, rfl⟩, ⟨_, rfl, u1 50 45⟩, trivial⟩ rfl) u1) (by decide +kernel) (fun r9 μ9 hq => ?_)
          obtain ⟨q9, z9, hr9⟩ := hq
          obtain ⟨v9, rfl, x9, rfl, -⟩ := hr9
          have e9 : μ9.1 50 45 = nI a := (a_Fz_at z9 50 45 (by decide)).trans eg
          show Z 0 141 [(0, .ref 50), (1, .int (nI cc)), (2, .int wb)] [.long x9] μ9
          refine z_rcs hc hH 6 (pc' := 149) (lv' := [(3, .long x9), (0, .ref 50), (1, .int (nI cc)), (2, .int wb)]) (st' := [.int 1, .int (nI cc), .int (μ9.1 50 45), .ref 50]) (μ' := μ9) (by rfl) ?_
          rw [e9]
          refine zq_call hc (z_cx_ok hH (by rfl)) (fc_X7_gives d' (by omega) μ9 a cc 1 ha4 hcc) (by decide +kernel) (fun r8 μ8 hq => ?_)
          obtain ⟨rfl, rfl⟩ := hq
          have n60 : ∀ j, (z_giv μ9 a cc 1).1 60 j = μ0.1 60 j := fun j => by
            rw [giv_60, a_Fz_at z9 60 j (a_md_row (by decide)), u5]
            by_cases e : j = 34 * a + cc
            · rw [if_pos e, if_pos e, Int32.add_assoc, i_11, Int32.add_zero]
            · rw [if_neg e, if_neg e]
          have nF : a_Fz md_V μ0 (z_giv μ9 a cc 1) := by
            have w1 : a_Fz ((60, 9999) :: md_V) μ0 (z_giv μ9 a cc 1) := a_Fz_ui (a_Fz_tr (by decide) (a_Fz_tr (by decide) (a_Fz_rf _ _) u3) z9) (a_mda_md (by decide) _)
            refine ⟨fun r j hm => ?_, fun r hm => w1.2 r ?_⟩
            · by_cases e : r = 60
              · subst e; exact ⟨n60 j, by rw [giv_2, (z9.1 60 j (a_md_row (by decide))).2, u6]⟩
              · exact w1.1 r j (by unfold a_md at hm ⊢; rw [List.any_cons, hm, Bool.or_false]; rw [z_bf (fun h => e h.symm)]; rfl)
            · unfold a_mdr at hm ⊢; rw [List.any_cons, hm, Bool.or_false]; show (Nat.beq 60 r && Nat.beq 9999 9998) = false; rw [show Nat.beq 9999 9998 = false from rfl, Bool.and_false]
          have hN : GI (z_giv μ9 a cc 1) := ⟨a_H_ui q9 (bI_top _), GW_keep h0.2.1 nF (by decide), fun _ => hP.keep nF (by decide)⟩
          have fN : a_Fz md_G μ (z_giv μ9 a cc 1) := a_Fz_tr (by decide) f0 nF
          have hPN : GP (z_giv μ9 a cc 1) := hP.keep nF (by decide)
          have yN : (z_giv μ9 a cc 1).1 50 44 = 1 := (a_Fz_at nF 50 44 (by decide)).trans y1
          have eN : (z_giv μ9 a cc 1).1 50 45 = nI a := (a_Fz_at nF 50 45 (by decide)).trans ea
          have lN : 1 ≤ hI (z_giv μ9 a cc 1) (34 * a + cc) := by unfold hI; rw [n60]; exact l1
          generalize z_giv μ9 a cc 1 = μn at n60 nF hN fN hPN yN eN lN ⊢
          have inn : vp_in (μn.1 50 45) 4 := by rw [eN]; exact vp_in_nI ha4 (by decide)
          show Z 0 152 [(3, .long x9), (0, .ref 50), (1, .int (nI cc)), (2, .int wb)] [] μn
          refine z_rcs hc hH 3 (pc' := 155) (lv' := [(3, .long x9), (0, .ref 50), (1, .int (nI cc)), (2, .int wb)]) (st' := [.int (lg_cmp x9 0)]) (μ' := μn) (by rfl) ?_
          refine zq_if hc hH (by rfl) (tg := 160) (by rfl) (fun h5 => ?_) (fun h5 => ?_)
          · have h5 := cm_ne.mp h5
            refine z_rcs hc hH 8 (pc' := 176) (lv' := [(3, .long x9), (0, .ref 50), (1, .int (nI cc)), (2, .int wb)]) (st' := [.int (μn.1 50 45), .ref 66, .int (μn.1 50 45), .ref 67]) (μ' := μn) (by rfl) ?_
            refine zq_iald hc hH (by rfl) 4 (by decide +kernel) (inn) ?_
            refine zq_if hc hH (by rfl) (tg := 191) (by rfl) (fun h6 => ?_) (fun h6 => ?_)
            · have h6 := cm_ne.mp h6
              refine z_rcs hc hH 1 (pc' := 192) (lv' := [(3, .long x9), (0, .ref 50), (1, .int (nI cc)), (2, .int wb)]) (st' := [.int 1, .int (μn.1 50 45), .ref 67]) (μ' := μn) (by rfl) ?_
              refine zq_iast hc hH (by rfl) 4 (by decide +kernel) (inn) ?_
              exact dtb_X7_discard d' Z (by omega) μ hc hr a cc ha4 wb hw _ (z_ui μn 67 ((μn.1 50 45).toNatClampNeg) 1) hcc (a_H_ui hN.1 (bI_top _)) (GW_ne hN.2.1 (by decide)) (a_Fz_ui fN (a_mda_md (by decide) _)) (hPN.keep (md := [(67, 9999)]) (a_Fz_ui (a_Fz_rf _ _) (a_mda_md (by decide) _)) (by decide)) yN eN lN
            · have h6 := cn_ne.mp h6
              refine z_rcs hc hH 2 (pc' := 184) (lv' := [(3, .long x9), (0, .ref 50), (1, .int (nI cc)), (2, .int wb)]) (st' := [.int (μn.1 50 56), .int (μn.1 50 45), .ref 67]) (μ' := μn) (by rfl) ?_
              refine zq_if hc hH (by rfl) (tg := 191) (by rfl) (fun h7 => ?_) (fun h7 => ?_)
              · have h7 := cm_eq9.mp h7
                refine z_rcs hc hH 1 (pc' := 192) (lv' := [(3, .long x9), (0, .ref 50), (1, .int (nI cc)), (2, .int wb)]) (st' := [.int 1, .int (μn.1 50 45), .ref 67]) (μ' := μn) (by rfl) ?_
                refine zq_iast hc hH (by rfl) 4 (by decide +kernel) (inn) ?_
                exact dtb_X7_discard d' Z (by omega) μ hc hr a cc ha4 wb hw _ (z_ui μn 67 ((μn.1 50 45).toNatClampNeg) 1) hcc (a_H_ui hN.1 (bI_top _)) (GW_ne hN.2.1 (by decide)) (a_Fz_ui fN (a_mda_md (by decide) _)) (hPN.keep (md := [(67, 9999)]) (a_Fz_ui (a_Fz_rf _ _) (a_mda_md (by decide) _)) (by decide)) yN eN lN
              · have h7 := cn_eq.mp h7
                refine z_rcs hc hH 2 (pc' := 192) (lv' := [(3, .long x9), (0, .ref 50), (1, .int (nI cc)), (2, .int wb)]) (st' := [.int 2, .int (μn.1 50 45), .ref 67]) (μ' := μn) (by rfl) ?_
                refine zq_iast hc hH (by rfl) 4 (by decide +kernel) (inn) ?_
                exact dtb_X7_discard d' Z (by omega) μ hc hr a cc ha4 wb hw _ (z_ui μn 67 ((μn.1 50 45).toNatClampNeg) 2) hcc (a_H_ui hN.1 (bI_top _)) (GW_ne hN.2.1 (by decide)) (a_Fz_ui fN (a_mda_md (by decide) _)) (hPN.keep (md := [(67, 9999)]) (a_Fz_ui (a_Fz_rf _ _) (a_mda_md (by decide) _)) (by decide)) yN eN lN
          · have h5 := cn_ne.mp h5
            refine z_rcs hc hH 1 (pc' := 159) (lv' := [(3, .long x9), (0, .ref 50), (1, .int (nI cc)), (2, .int wb)]) (st' := [.int 0]) (μ' := μn) (by rfl) ?_
            exact hr 0 159 _ _ _ (some (.int 0)) (by decide +kernel) (z_rx_ok hH (by rfl)) (⟨⟨0, rfl⟩, hN, fN⟩)
        · have h4 := cn_ge.mp h4
          refine z_rcs hc hH 1 (pc' := 122) (lv' := [(0, .ref 50), (1, .int (nI cc)), (2, .int wb)]) (st' := [.int 0]) (μ' := μ0) (by rfl) ?_
          exact hr 0 122 _ _ _ (some (.int 0)) (by decide +kernel) (z_rx_ok hH (by rfl)) (⟨⟨0, rfl⟩, h0, f0⟩)
set_option maxRecDepth 2000 in
theorem fc_X7_discard (d : Nat) (hd : 704 ≤ d) (μ : zM) (k wb : Int32) (hw : bI 0 1 wb) (hi : GI μ) : z_C d mi_X7_discard [.ref 50, .int k, .int wb] μ (zPG μ) := by
  refine z_C_in (by decide) (by omega) (fun d' Z ed hc hr => ?_)
  have hH := zh_X7_discard
  refine z_rcs hc hH 3 (pc' := 5) (lv' := [(0, .ref 50), (1, .int k), (2, .int wb)]) (st' := []) (μ' := z_ui μ 50 0 0) (by rfl) ?_
  have h0 := hi.put
  obtain ⟨a, ha4, ea⟩ := seat_nI h0.1
  have f0 := fG0 μ
  have ini : vp_in ((z_ui μ 50 0 0).1 50 45) 4 := by rw [ea]; exact vp_in_nI ha4 (by decide)
  generalize z_ui μ 50 0 0 = μ0 at h0 ea f0 ini ⊢
  refine z_rcs hc hH 3 (pc' := 10) (lv' := [(0, .ref 50), (1, .int k), (2, .int wb)]) (st' := [.int 1, .int (μ0.1 50 44)]) (μ' := μ0) (by rfl) ?_
  refine zq_ic hc hH (by rfl) (tg := 32) (by rfl) (fun h1 => ?_) (fun h1 => ?_)
  · have h1 := cm_ne.mp h1
    refine z_rcs hc hH 1 (pc' := 33) (lv' := [(0, .ref 50), (1, .int k), (2, .int wb)]) (st' := [.int 0]) (μ' := μ0) (by rfl) ?_
    exact hr 0 33 _ _ _ (some (.int 0)) (by decide +kernel) (z_rx_ok hH (by rfl)) (⟨⟨0, rfl⟩, h0, f0⟩)
  · have h1 := cn_ne.mp h1
    refine z_rcs hc hH 1 (pc' := 14) (lv' := [(0, .ref 50), (1, .int k), (2, .int wb)]) (st' := [.int k]) (μ' := μ0) (by rfl) ?_
    refine zq_call hc (z_cx_ok hH (by rfl)) (fc_X7_isKind d' (by omega) μ0 k) (by decide +kernel) (fun r9 μ9 hq => ?_)
    obtain ⟨hμ9, hq⟩ := hq
    rw [hμ9]
    clear hμ9 μ9
    obtain ⟨rfl, hk⟩ | ⟨rfl, hk⟩ := hq
    · show Z 0 17 [(0, .ref 50), (1, .int k), (2, .int wb)] [.int 1] μ0
      refine z_rcs hc hH 5 (pc' := 26) (lv' := [(0, .ref 50), (1, .int k), (2, .int wb)]) (st' := [.int k, .int (μ0.1 50 45), .ref 50]) (μ' := μ0) (by rfl) ?_
      obtain ⟨cc, hcc, rfl⟩ := vp_in_of hk (by decide)
      rw [ea]
      refine zq_call hc (z_cx_ok hH (by rfl)) (fc_X7_has_ d' (by omega) μ0 a cc ha4 hcc) (by decide +kernel) (fun r9 μ9 hq => ?_)
      obtain ⟨hμ9, rfl⟩ := hq
      rw [hμ9]
      clear hμ9 μ9
      show Z 0 29 [(0, .ref 50), (1, .int (nI cc)), (2, .int wb)] [.int (μ0.1 60 (34 * a + cc))] μ0
      refine zq_if hc hH (by rfl) (tg := 34) (by rfl) (fun h2 => ?_) (fun h2 => ?_)
      · have h2 := cm_ne.mp h2
        have y1 : μ0.1 50 44 = 1 := h1
        have hP := h0.2.2 (by rw [y1]; decide)
        have l0 := hP.1.1 (34 * a + cc) (by omega)
        have l1 : 1 ≤ hI μ0 (34 * a + cc) := by
          have z : hI μ0 (34 * a + cc) ≠ 0 := fun q9 => h2 (Int32.toInt_inj.mp q9)
          omega
        have m83 := d83_X7_discard d' Z (by omega) μ hc hr a cc ha4 hcc wb hw μ0 h0 f0 hP y1 ea l1
        refine z_rcs hc hH 2 (pc' := 38) (lv' := [(0, .ref 50), (1, .int (nI cc)), (2, .int wb)]) (st' := [.int (μ0.1 50 57)]) (μ' := μ0) (by rfl) ?_
        refine zq_if hc hH (by rfl) (tg := 57) (by rfl) (fun h3 => ?_) (fun h3 => ?_)
        · have h3 := cm_eq9.mp h3
          refine z_rcs hc hH 4 (pc' := 65) (lv' := [(0, .ref 50), (1, .int (nI cc)), (2, .int wb)]) (st' := [.int (μ0.1 50 45), .ref 67]) (μ' := μ0) (by rfl) ?_
          refine zq_iald hc hH (by rfl) 4 (by decide +kernel) (ini) ?_
          refine zq_if hc hH (by rfl) (tg := 83) (by rfl) (fun h4 => ?_) (fun h4 => ?_)
          · have h4 := cm_le.mp h4
            exact m83
          · have h4 := cn_le.mp h4
            refine z_rcs hc hH 1 (pc' := 70) (lv' := [(0, .ref 50), (1, .int (nI cc)), (2, .int wb)]) (st' := [.int wb]) (μ' := μ0) (by rfl) ?_
            refine zq_if hc hH (by rfl) (tg := 81) (by rfl) (fun h5 => ?_) (fun h5 => ?_)
            · have h5 := cm_ne.mp h5
              refine z_rcs hc hH 1 (pc' := 82) (lv' := [(0, .ref 50), (1, .int (nI cc)), (2, .int wb)]) (st' := [.int 0]) (μ' := μ0) (by rfl) ?_
              exact hr 0 82 _ _ _ (some (.int 0)) (by decide +kernel) (z_rx_ok hH (by rfl)) (⟨⟨0, rfl⟩, h0, f0⟩)
            · have h5 := cn_ne.mp h5
              refine z_rcs hc hH 3 (pc' := 78) (lv' := [(0, .ref 50), (1, .int (nI cc)), (2, .int wb)]) (st' := [.int (μ0.1 50 49), .int (nI cc)]) (μ' := μ0) (by rfl) ?_
              refine zq_ic hc hH (by rfl) (tg := 83) (by rfl) (fun h6 => ?_) (fun h6 => ?_)
              · have h6 := cm_eq9.mp h6
                exact m83
              · have h6 := cn_eq.mp h6
                refine z_rcs hc hH 1 (pc' := 82) (lv' := [(0, .ref 50), (1, .int (nI cc)), (2, .int wb)]) (st' := [.int 0]) (μ' := μ0) (by rfl) ?_
                exact hr 0 82 _ _ _ (some (.int 0)) (by decide +kernel) (z_rx_ok hH (by rfl)) (⟨⟨0, rfl⟩, h0, f0⟩)
        · have h3 := cn_eq.mp h3
          refine z_rcs hc hH 3 (pc' := 46) (lv' := [(0, .ref 50), (1, .int (nI cc)), (2, .int wb)]) (st' := [.int (μ0.1 50 50), .int (nI cc)]) (μ' := μ0) (by rfl) ?_
          refine zq_ic hc hH (by rfl) (tg := 81) (by rfl) (fun h7 => ?_) (fun h7 => ?_)
          · have h7 := cm_eq9.mp h7
            refine z_rcs hc hH 1 (pc' := 82) (lv' := [(0, .ref 50), (1, .int (nI cc)), (2, .int wb)]) (st' := [.int 0]) (μ' := μ0) (by rfl) ?_
            exact hr 0 82 _ _ _ (some (.int 0)) (by decide +kernel) (z_rx_ok hH (by rfl)) (⟨⟨0, rfl⟩, h0, f0⟩)
          · have h7 := cn_eq.mp h7
            refine z_rcs hc hH 3 (pc' := 54) (lv' := [(0, .ref 50), (1, .int (nI cc)), (2, .int wb)]) (st' := [.int (μ0.1 50 51), .int (nI cc)]) (μ' := μ0) (by rfl) ?_
            refine zq_ic hc hH (by rfl) (tg := 81) (by rfl) (fun h8 => ?_) (fun h8 => ?_)
            · have h8 := cm_eq9.mp h8
              refine z_rcs hc hH 1 (pc' := 82) (lv' := [(0, .ref 50), (1, .int (nI cc)), (2, .int wb)]) (st' := [.int 0]) (μ' := μ0) (by rfl) ?_
              exact hr 0 82 _ _ _ (some (.int 0)) (by decide +kernel) (z_rx_ok hH (by rfl)) (⟨⟨0, rfl⟩, h0, f0⟩)
            · have h8 := cn_eq.mp h8
              refine z_rcs hc hH 4 (pc' := 65) (lv' := [(0, .ref 50), (1, .int (nI cc)), (2, .int wb)]) (st' := [.int (μ0.1 50 45), .ref 67]) (μ' := μ0) (by rfl) ?_
              refine zq_iald hc hH (by rfl) 4 (by decide +kernel) (ini) ?_
              refine zq_if hc hH (by rfl) (tg := 83) (by rfl) (fun h9 => ?_) (fun h9 => ?_)
              · have h9 := cm_le.mp h9
                exact m83
              · have h9 := cn_le.mp h9
                refine z_rcs hc hH 1 (pc' := 70) (lv' := [(0, .ref 50), (1, .int (nI cc)), (2, .int wb)]) (st' := [.int wb]) (μ' := μ0) (by rfl) ?_
                refine zq_if hc hH (by rfl) (tg := 81) (by rfl) (fun h10 => ?_) (fun h10 => ?_)
                · have h10 := cm_ne.mp h10
                  refine z_rcs hc hH 1 (pc' := 82) (lv' := [(0, .ref 50), (1, .int (nI cc)), (2, .int wb)]) (st' := [.int 0]) (μ' := μ0) (by rfl) ?_
                  exact hr 0 82 _ _ _ (some (.int 0)) (by decide +kernel) (z_rx_ok hH (by rfl)) (⟨⟨0, rfl⟩, h0, f0⟩)
                · have h10 := cn_ne.mp h10
                  refine z_rcs hc hH 3 (pc' := 78) (lv' := [(0, .ref 50), (1, .int (nI cc)), (2, .int wb)]) (st' := [.int (μ0.1 50 49), .int (nI cc)]) (μ' := μ0) (by rfl) ?_
                  refine zq_ic hc hH (by rfl) (tg := 83) (by rfl) (fun h11 => ?_) (fun h11 => ?_)
                  · have h11 := cm_eq9.mp h11
                    exact m83
                  · have h11 := cn_eq.mp h11
                    refine z_rcs hc hH 1 (pc' := 82) (lv' := [(0, .ref 50), (1, .int (nI cc)), (2, .int wb)]) (st' := [.int 0]) (μ' := μ0) (by rfl) ?_
                    exact hr 0 82 _ _ _ (some (.int 0)) (by decide +kernel) (z_rx_ok hH (by rfl)) (⟨⟨0, rfl⟩, h0, f0⟩)
      · have h2 := cn_ne.mp h2
        refine z_rcs hc hH 1 (pc' := 33) (lv' := [(0, .ref 50), (1, .int (nI cc)), (2, .int wb)]) (st' := [.int 0]) (μ' := μ0) (by rfl) ?_
        exact hr 0 33 _ _ _ (some (.int 0)) (by decide +kernel) (z_rx_ok hH (by rfl)) (⟨⟨0, rfl⟩, h0, f0⟩)
    · show Z 0 17 [(0, .ref 50), (1, .int k), (2, .int wb)] [.int 0] μ0
      refine z_rcs hc hH 2 (pc' := 33) (lv' := [(0, .ref 50), (1, .int k), (2, .int wb)]) (st' := [.int 0]) (μ' := μ0) (by rfl) ?_
      exact hr 0 33 _ _ _ (some (.int 0)) (by decide +kernel) (z_rx_ok hH (by rfl)) (⟨⟨0, rfl⟩, h0, f0⟩)

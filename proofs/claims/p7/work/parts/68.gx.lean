/-! add -/
theorem GP_added {μ0 μg μ' : zM} {a cc : Nat} (hP : GP μ0) (hH : a_H μ0) (ha : a < 4) (hcc : cc < 34) (y1 : μ0.1 50 44 = 1) (ea : μ0.1 50 45 = nI a) (h1 : 1 ≤ hI μ0 (34 * a + cc)) (hlt : (μ0.1 50 46).toInt + (μ0.1 50 47).toInt < 122) (h4 : (μ0.1 50 47).toInt < 4) (e60 : ∀ j, μ'.1 60 j = if j = 34 * a + cc then μ0.1 60 j + (-1) else μ0.1 60 j) (r64 : ∀ j, μ'.1 64 j = μ0.1 64 j) (r66 : ∀ j, μ'.1 66 j = μ0.1 66 j) (e44 : μ'.1 50 44 = 3) (e49 : μ'.1 50 49 = nI cc) (c46 : μ'.1 50 46 = μ0.1 50 46) (c47 : μ'.1 50 47 = μ0.1 50 47) (c48 : μ'.1 50 48 = μ0.1 50 48) : GP μ' := by
  obtain ⟨g1, g2, g3, g4, g5, g6⟩ := hP
  rw [if_pos y1] at g6
  have ll : ∀ s, s < 4 → glim μ0 s ≤ 14 := fun s _ => by unfold glim; split <;> decide
  have em : ∀ s, mI μ' s = mI μ0 s := fun s => by unfold mI; rw [r64]
  have eM : sM μ' = sM μ0 := by unfold sM; simp only [em]
  have eR : sR μ' = sR μ0 := by unfold sR rI; simp only [r66]
  have hr := HR_of g1 ll (fun s _ => mI_nn hH s) ha hcc (n := -1) (by decide) e60
  have hr : HR μ0 μ' a cc (-1) := hr
  have n1 := g1.2 a ha
  have l3 : glim μ0 a = 14 := by unfold glim; rw [if_pos ⟨y1, ea⟩]
  have lim' : ∀ s, glim μ' s = 13 := fun s => by unfold glim; rw [if_neg (fun z => absurd (e44.symm.trans z.1) (by decide))]
  refine ⟨g1.upd hr ha hcc (by omega) (fun s _ _ => em s) (by rw [lim', em]; omega) (fun s hs4 hs => ?_), by rw [c46, c47]; exact g2, by rw [c48, c47]; exact g3, fun _ => by rw [c46, c47]; exact ⟨hlt, h4⟩, fun _ => by rw [e49, nI_toInt (by omega)]; omega, ?_⟩
  · rw [lim']
    unfold glim
    rw [if_neg (fun z => hs ((nI_eq (by omega) (by omega)).mp (z.2.symm.trans ea)))]
    exact Int.le_refl _
  · rw [if_neg (by rw [e44]; decide), eR, eM, c46, c48]
    omega
theorem zh_X7_add : zH mi_X7_add zt_X7_add 79 7 3 := hh_X7_add
set_option maxRecDepth 2000 in
theorem fc_X7_add (d : Nat) (hd : 704 ≤ d) (μ : zM) (k : Int32) (hi : GI μ) : z_C d mi_X7_add [.ref 50, .int k] μ (zPG μ) := by
  refine z_C_in (by decide) (by omega) (fun d' Z ed hc hr => ?_)
  have hH := zh_X7_add
  refine z_rcs hc hH 3 (pc' := 5) (lv' := [(0, .ref 50), (1, .int k)]) (st' := []) (μ' := z_ui μ 50 0 0) (by rfl) ?_
  have h0 := hi.put
  obtain ⟨a, ha4, ea⟩ := seat_nI h0.1
  have f0 := fG0 μ
  generalize z_ui μ 50 0 0 = μ0 at h0 ea f0 ⊢
  refine z_rcs hc hH 1 (pc' := 6) (lv' := [(0, .ref 50), (1, .int k)]) (st' := [.ref 50]) (μ' := μ0) (by rfl) ?_
  refine zq_call hc (z_cx_ok hH (by rfl)) (fc_X7_mayMake d' (by omega) μ0 h0.1) (by decide +kernel) (fun r9 μ9 hq => ?_)
  obtain ⟨hμ9, hq⟩ := hq
  rw [hμ9]
  clear hμ9 μ9
  obtain ⟨rfl, y1, y2, y3, y4⟩ | rfl := hq
  · show Z 0 9 [(0, .ref 50), (1, .int k)] [.int 1] μ0
    refine z_rcs hc hH 2 (pc' := 13) (lv' := [(0, .ref 50), (1, .int k)]) (st' := [.int k]) (μ' := μ0) (by rfl) ?_
    refine zq_call hc (z_cx_ok hH (by rfl)) (fc_X7_isKind d' (by omega) μ0 k) (by decide +kernel) (fun r9 μ9 hq => ?_)
    obtain ⟨hμ9, hq⟩ := hq
    rw [hμ9]
    clear hμ9 μ9
    obtain ⟨rfl, hk⟩ | ⟨rfl, hk⟩ := hq
    · show Z 0 16 [(0, .ref 50), (1, .int k)] [.int 1] μ0
      refine z_rcs hc hH 5 (pc' := 25) (lv' := [(0, .ref 50), (1, .int k)]) (st' := [.int k, .int (μ0.1 50 45), .ref 50]) (μ' := μ0) (by rfl) ?_
      obtain ⟨cc, hcc, rfl⟩ := vp_in_of hk (by decide)
      rw [ea]
      refine zq_call hc (z_cx_ok hH (by rfl)) (fc_X7_has_ d' (by omega) μ0 a cc ha4 hcc) (by decide +kernel) (fun r9 μ9 hq => ?_)
      obtain ⟨hμ9, rfl⟩ := hq
      rw [hμ9]
      clear hμ9 μ9
      show Z 0 28 [(0, .ref 50), (1, .int (nI cc))] [.int (μ0.1 60 (34 * a + cc))] μ0
      refine zq_if hc hH (by rfl) (tg := 33) (by rfl) (fun h1 => ?_) (fun h1 => ?_)
      · have h1 := cm_ne.mp h1
        refine z_rcs hc hH 2 (pc' := 35) (lv' := [(2, .int 0), (0, .ref 50), (1, .int (nI cc))]) (st' := []) (μ' := μ0) (by rfl) ?_
        have hP := h0.2.2 (by rw [y1]; decide)
        have l0 := hP.1.1 (34 * a + cc) (by omega)
        have l1 : 1 ≤ hI μ0 (34 * a + cc) := by
          have z : hI μ0 (34 * a + cc) ≠ 0 := fun q9 => h1 (Int32.toInt_inj.mp q9)
          omega
        obtain ⟨q, hq4, eq⟩ := sets_nI h0.1 a
        have b47 : 0 ≤ (μ0.1 50 47).toInt ∧ (μ0.1 50 47).toInt ≤ 4 := h0.1 50 47
        have b46 : 0 ≤ (μ0.1 50 46).toInt ∧ (μ0.1 50 46).toInt ≤ 122 := h0.1 50 46
        have hlt := leftp b46 b47 y3
        have y4 : (μ0.1 50 47).toInt < 4 := by rw [Int32.not_le, Int32.lt_iff_toInt_lt] at y4; exact y4
        have ini : vp_in (μ0.1 50 45) 4 := by rw [ea]; exact vp_in_nI ha4 (by decide)
        have lp : ∀ (n i : Nat), i + n = q → Z 0 35 [(2, .int (nI i)), (0, .ref 50), (1, .int (nI cc))] [] μ0 := by
          intro n
          induction n with
          | zero =>
            intro i hi9
            have hi9 : i = q := by omega
            subst hi9
            refine z_rcs hc hH 5 (pc' := 44) (lv' := [(2, .int (nI i)), (0, .ref 50), (1, .int (nI cc))]) (st' := [.int (μ0.1 50 45), .ref 64, .int (nI i)]) (μ' := μ0) (by rfl) ?_
            refine zq_iald hc hH (by rfl) 4 (by decide +kernel) (ini) ?_
            rw [ea, nI_clamp (n := a) (by omega), eq]
            refine zq_ic hc hH (by rfl) (tg := 127) (by rfl) (fun _ => ?_) (fun h9 => (zb_t (ge_nIt (n := i) (i := i) (Nat.le_refl _) (by omega)) h9).elim)
            refine z_rcs hc hH 1 (pc' := 128) (lv' := [(2, .int (nI i)), (0, .ref 50), (1, .int (nI cc))]) (st' := [.int 0]) (μ' := μ0) (by rfl) ?_
            exact hr 0 128 _ _ _ (some (.int 0)) (by decide +kernel) (z_rx_ok hH (by rfl)) (⟨⟨0, rfl⟩, h0, f0⟩)
          | succ n ih =>
            intro i hi9
            refine z_rcs hc hH 5 (pc' := 44) (lv' := [(2, .int (nI i)), (0, .ref 50), (1, .int (nI cc))]) (st' := [.int (μ0.1 50 45), .ref 64, .int (nI i)]) (μ' := μ0) (by rfl) ?_
            refine zq_iald hc hH (by rfl) 4 (by decide +kernel) (ini) ?_
            rw [ea, nI_clamp (n := a) (by omega), eq]
            refine zq_ic hc hH (by rfl) (tg := 127) (by rfl) (fun h9 => (zb_t h9 (ge_nI (by omega) (by omega))).elim) (fun _ => ?_)
            refine z_rcs hc hH 8 (pc' := 60) (lv' := [(2, .int (nI i)), (0, .ref 50), (1, .int (nI cc))]) (st' := [.int ((4 * (μ0.1 50 45)) + (nI i)), .ref 62]) (μ' := μ0) (by rfl) ?_
            refine zq_iald hc hH (by rfl) 16 (by decide +kernel) (by rw [ea, nI_4q]; exact vp_in_nI (by omega) (by decide)) ?_
            refine z_rcs hc hH 1 (pc' := 62) (lv' := [(2, .int (nI i)), (0, .ref 50), (1, .int (nI cc))]) (st' := [.int 1, .int (μ0.1 62 ((4 * (μ0.1 50 45)) + (nI i)).toNatClampNeg)]) (μ' := μ0) (by rfl) ?_
            refine zq_ic hc hH (by rfl) (tg := 121) (by rfl) (fun h1 => ?_) (fun h1 => ?_)
            · have h1 := cm_ne.mp h1
              refine z_rcs hc hH 2 (pc' := 35) (lv' := [(2, .int ((nI i) + 1)), (0, .ref 50), (1, .int (nI cc))]) (st' := []) (μ' := μ0) (by rfl) ?_
              rw [nI_1]
              exact ih (i + 1) (by omega)
            · have h1 := cn_ne.mp h1
              refine z_rcs hc hH 8 (pc' := 77) (lv' := [(2, .int (nI i)), (0, .ref 50), (1, .int (nI cc))]) (st' := [.int ((4 * (μ0.1 50 45)) + (nI i)), .ref 63]) (μ' := μ0) (by rfl) ?_
              refine zq_iald hc hH (by rfl) 16 (by decide +kernel) (by rw [ea, nI_4q]; exact vp_in_nI (by omega) (by decide)) ?_
              refine z_rcs hc hH 1 (pc' := 79) (lv' := [(2, .int (nI i)), (0, .ref 50), (1, .int (nI cc))]) (st' := [.int (nI cc), .int (μ0.1 63 ((4 * (μ0.1 50 45)) + (nI i)).toNatClampNeg)]) (μ' := μ0) (by rfl) ?_
              refine zq_ic hc hH (by rfl) (tg := 85) (by rfl) (fun h2 => ?_) (fun h2 => ?_)
              · have h2 := cm_eq9.mp h2
                refine z_rcs hc hH 9 (pc' := 98) (lv' := [(2, .int (nI i)), (0, .ref 50), (1, .int (nI cc))]) (st' := [.int 2, .int ((4 * (μ0.1 50 45)) + (nI i)), .ref 62]) (μ' := μ0) (by rfl) ?_
                refine zq_iast hc hH (by rfl) 16 (by decide +kernel) (by rw [ea, nI_4q]; exact vp_in_nI (by omega) (by decide)) ?_
                refine z_rcs hc hH 5 (pc' := 106) (lv' := [(2, .int (nI i)), (0, .ref 50), (1, .int (nI cc))]) (st' := [.int (-1), .int (nI cc), .int (μ0.1 50 45), .ref 50]) (μ' := z_ui μ0 62 (((4 * (μ0.1 50 45)) + (nI i)).toNatClampNeg) 2) (by rfl) ?_
                rw [ea]
                have s1 : a_H (z_ui μ0 62 (((4 * nI a) + (nI i)).toNatClampNeg) 2) := a_H_ui h0.1 (bI_top _)
                have s2 : GW (z_ui μ0 62 (((4 * nI a) + (nI i)).toNatClampNeg) 2) := GW_ne h0.2.1 (by decide)
                have s3 : a_Fz md_G μ (z_ui μ0 62 (((4 * nI a) + (nI i)).toNatClampNeg) 2) := a_Fz_ui f0 (a_mda_md (by decide) _)
                have s4 : ∀ r j, r ≠ 62 → (z_ui μ0 62 (((4 * nI a) + (nI i)).toNatClampNeg) 2).1 r j = μ0.1 r j := fun r j hr => by rw [z_ui_rd, if_neg (fun z => hr z.1)]
                generalize z_ui μ0 62 (((4 * nI a) + (nI i)).toNatClampNeg) 2 = μs at s1 s2 s3 s4 ⊢
                refine zq_call hc (z_cx_ok hH (by rfl)) (fc_X7_gives d' (by omega) μs a cc (-1) ha4 hcc) (by decide +kernel) (fun r8 μ8 hq => ?_)
                obtain ⟨rfl, rfl⟩ := hq
                have u1 : a_H (z_giv μs a cc (-1)) := a_H_ui s1 (bI_top _)
                have u2 : GW (z_giv μs a cc (-1)) := GW_ne s2 (by decide)
                have u3 : a_Fz md_G μ (z_giv μs a cc (-1)) := a_Fz_ui s3 (a_mda_md (by decide) _)
                have u4 : ∀ r j, r ≠ 60 → (z_giv μs a cc (-1)).1 r j = μs.1 r j := fun r j hr => giv_ne _ _ _ _ hr j
                have u5 := giv_60 μs a cc (-1)
                generalize z_giv μs a cc (-1) = μg at u1 u2 u3 u4 u5 ⊢
                show Z 0 109 [(2, .int (nI i)), (0, .ref 50), (1, .int (nI cc))] [] μg
                refine z_rcs hc hH 7 (pc' := 120) (lv' := [(2, .int (nI i)), (0, .ref 50), (1, .int (nI cc))]) (st' := [.int 1]) (μ' := z_ui (z_ui μg 50 49 (nI cc)) 50 44 3) (by rfl) ?_
                exact hr 0 120 _ _ _ (some (.int 1)) (by decide +kernel) (z_rx_ok hH (by rfl)) (⟨⟨1, rfl⟩, ⟨a_H_ui (a_H_ui u1 (show bI (-1) 33 _ from bd_nI (by omega) ⟨by omega, by omega⟩)) ⟨by decide, by decide⟩, GW_ne (GW_ne u2 (by decide)) (by decide), fun _ => GP_added (μg := μg) hP h0.1 ha4 hcc y1 ea l1 hlt y4 (fun j => by rw [z_ui_rd, if_neg (by omega), z_ui_rd, if_neg (by omega), u5, s4 60 j (by decide)]) (fun j => by rw [z_ui_rd, if_neg (by omega), z_ui_rd, if_neg (by omega), u4 64 j (by decide), s4 64 j (by decide)]) (fun j => by rw [z_ui_rd, if_neg (by omega), z_ui_rd, if_neg (by omega), u4 66 j (by decide), s4 66 j (by decide)]) (by rw [z_ui_rd, if_pos ⟨rfl, rfl⟩]) (by rw [z_ui_rd, if_neg (by omega), z_ui_rd, if_pos ⟨rfl, rfl⟩]) (by rw [z_ui_rd, if_neg (by omega), z_ui_rd, if_neg (by omega), u4 50 46 (by decide), s4 50 46 (by decide)]) (by rw [z_ui_rd, if_neg (by omega), z_ui_rd, if_neg (by omega), u4 50 47 (by decide), s4 50 47 (by decide)]) (by rw [z_ui_rd, if_neg (by omega), z_ui_rd, if_neg (by omega), u4 50 48 (by decide), s4 50 48 (by decide)])⟩, a_Fz_ui (a_Fz_ui u3 (by decide)) (by decide)⟩)
              · have h2 := cn_eq.mp h2
                refine z_rcs hc hH 3 (pc' := 35) (lv' := [(2, .int ((nI i) + 1)), (0, .ref 50), (1, .int (nI cc))]) (st' := []) (μ' := μ0) (by rfl) ?_
                rw [nI_1]
                exact ih (i + 1) (by omega)
        exact lp q 0 (by omega)
      · have h1 := cn_ne.mp h1
        refine z_rcs hc hH 1 (pc' := 32) (lv' := [(0, .ref 50), (1, .int (nI cc))]) (st' := [.int 0]) (μ' := μ0) (by rfl) ?_
        exact hr 0 32 _ _ _ (some (.int 0)) (by decide +kernel) (z_rx_ok hH (by rfl)) (⟨⟨0, rfl⟩, h0, f0⟩)
    · show Z 0 16 [(0, .ref 50), (1, .int k)] [.int 0] μ0
      refine z_rcs hc hH 2 (pc' := 32) (lv' := [(0, .ref 50), (1, .int k)]) (st' := [.int 0]) (μ' := μ0) (by rfl) ?_
      exact hr 0 32 _ _ _ (some (.int 0)) (by decide +kernel) (z_rx_ok hH (by rfl)) (⟨⟨0, rfl⟩, h0, f0⟩)
  · show Z 0 9 [(0, .ref 50), (1, .int k)] [.int 0] μ0
    refine z_rcs hc hH 2 (pc' := 32) (lv' := [(0, .ref 50), (1, .int k)]) (st' := [.int 0]) (μ' := μ0) (by rfl) ?_
    exact hr 0 32 _ _ _ (some (.int 0)) (by decide +kernel) (z_rx_ok hH (by rfl)) (⟨⟨0, rfl⟩, h0, f0⟩)

set_option maxRecDepth 8000
theorem aq102 (d' : Nat) (Z : zK) (hd : 11 ≤ d') (μ : zM) (w : Nat → Nat) (q : Nat) (hq : q ≤ 4) (hw : RW μ 51 w) (e4 : μ.1 50 4 = nI q) (sL lL : Nat → Nat) (hL : ∀ j, j < q → μ.1 52 j = nI (sL j) ∧ sL j ≤ 3 ∧ μ.1 53 j = nI (lL j) ∧ lL j < 34) (h14 : sn w 34 + 3 * q = 14) (hc : z_clo z_x0 mi_X7_apart (z_C d') Z) (hr : z_ret mi_X7_apart (fun r μ' => r = none ∧ AV μ μ' (SR μ w q sL lL)) Z) (x2 : Int32) (μ1 : zM) (hA : AV μ μ1 (Si μ w q sL lL 34)) : Z 0 102 [(2, .int x2), (0, .ref 50), (1, .int 1)] [] μ1 := by
  have hH := zh_X7_apart
  have e41 : μ1.1 50 4 = nI q := (a_Fz_at hA.2.1 50 4 (by decide +kernel)).trans e4
  refine z_rcs hc hH 2 (pc' := 106) (lv' := [(2, .int x2), (0, .ref 50), (1, .int 1)]) (st' := [.int (μ1.1 50 4)]) (μ' := μ1) (by rfl) ?_
  rw [e41]
  refine zq_if hc hH (by rfl) (tg := 110) (by rfl) (fun h1 => ?_) (fun h1 => ?_)
  · have h1 := cm_le.mp h1
    refine z_rcs hc hH 8 (pc' := 120) (lv' := [(5, .int 0), (4, .int 0), (3, .int 0), (2, .int 0), (0, .ref 50), (1, .int 1)]) (st' := []) (μ' := μ1) (by rfl) ?_
    have h0 : q = 0 := by
      have z := h1
      rw [Int32.le_iff_toInt_le, nI_toInt (by omega)] at z
      have z : ((q : Nat) : Int) ≤ 0 := z
      omega
    exact aq120 d' Z hd μ w q hq hw e4 sL lL hL h14 hc hr h0 μ1 hA 34 0 (by omega) (Nat.le_refl _) (Nat.le_refl _) 0 (Or.inr ⟨rfl, fun ⟨j, hj, _⟩ => absurd hj (by omega)⟩)
  · have h1 := cn_le.mp h1
    have h0 : ¬ q = 0 := fun e => h1 (by rw [e]; decide)
    exact hr 0 109 _ _ _ none (by decide +kernel) (by rfl) (⟨rfl, hA.iff (fun x => ⟨fun z => ⟨h14, Or.inl (Or.inl z)⟩, fun z => (z.2.resolve_right (fun y => h0 y.1.1)).resolve_right (fun y => h0 y.1.1)⟩)⟩)
theorem aq49 (d' : Nat) (Z : zK) (hd : 11 ≤ d') (μ : zM) (w : Nat → Nat) (q : Nat) (hq : q ≤ 4) (hw : RW μ 51 w) (e4 : μ.1 50 4 = nI q) (sL lL : Nat → Nat) (hL : ∀ j, j < q → μ.1 52 j = nI (sL j) ∧ sL j ≤ 3 ∧ μ.1 53 j = nI (lL j) ∧ lL j < 34) (h14 : sn w 34 + 3 * q = 14) (hc : z_clo z_x0 mi_X7_apart (z_C d') Z) (hr : z_ret mi_X7_apart (fun r μ' => r = none ∧ AV μ μ' (SR μ w q sL lL)) Z) : ∀ n i, i + n = 34 → ∀ μ1, AV μ μ1 (Si μ w q sL lL i) → Z 0 49 [(2, .int (nI i)), (0, .ref 50), (1, .int 1)] [] μ1 := by
  have hH := zh_X7_apart
  intro n
  induction n with
  | zero =>
    intro i hi μ1 hA
    have hi : i = 34 := by omega
    subst hi
    refine z_rcs hc hH 2 (pc' := 52) (lv' := [(2, .int (nI 34)), (0, .ref 50), (1, .int 1)]) (st' := [.int 34, .int (nI 34)]) (μ' := μ1) (by rfl) ?_
    refine zq_ic hc hH (by rfl) (tg := 102) (by rfl) (fun _ => ?_) (fun h9 => (zb_t (ge_nIt (n := 34) (i := 34) (by decide) (by decide)) h9).elim)
    exact aq102 d' Z hd μ w q hq hw e4 sL lL hL h14 hc hr _ μ1 hA
  | succ n ih =>
    intro i hi μ1 hA
    have hin : vp_in (nI i) 34 := vp_in_nI (by omega) (by decide)
    have ei : (nI i).toNatClampNeg = i := nI_clamp (by omega)
    have w1 : μ1.1 51 i = nI (w i) := (hA.1 i).trans (hw i (by omega)).1
    have b5 := (hw i (by omega)).2
    have e41 : μ1.1 50 4 = nI q := (a_Fz_at hA.2.1 50 4 (by decide +kernel)).trans e4
    refine z_rcs hc hH 2 (pc' := 52) (lv' := [(2, .int (nI i)), (0, .ref 50), (1, .int 1)]) (st' := [.int 34, .int (nI i)]) (μ' := μ1) (by rfl) ?_
    refine zq_ic hc hH (by rfl) (tg := 102) (by rfl) (fun h9 => (zb_t h9 (ge_nI (n := 34) (i := i) (by omega) (by decide))).elim) (fun _ => ?_)
    refine z_rcs hc hH 3 (pc' := 60) (lv' := [(2, .int (nI i)), (0, .ref 50), (1, .int 1)]) (st' := [.int (nI i), .ref 51]) (μ' := μ1) (by rfl) ?_
    refine zq_iald hc hH (by rfl) 34 (by decide +kernel) (hin) ?_
    rw [ei, w1]
    refine z_rcs hc hH 1 (pc' := 62) (lv' := [(2, .int (nI i)), (0, .ref 50), (1, .int 1)]) (st' := [.int 2, .int (nI (w i))]) (μ' := μ1) (by rfl) ?_
    refine zq_ic hc hH (by rfl) (tg := 68) (by rfl) (fun h1 => ?_) (fun h1 => ?_)
    · have h1 := cm_ge.mp h1
      refine z_rcs hc hH 4 (pc' := 74) (lv' := [(2, .int (nI i)), (0, .ref 50), (1, .int 1)]) (st' := [.int (nI i), .ref 51, .int (nI i), .ref 51]) (μ' := μ1) (by rfl) ?_
      refine zq_iald hc hH (by rfl) 34 (by decide +kernel) (hin) ?_
      rw [ei, w1]
      refine z_rcs hc hH 2 (pc' := 77) (lv' := [(2, .int (nI i)), (0, .ref 50), (1, .int 1)]) (st' := [.int ((nI (w i)) - 2), .int (nI i), .ref 51]) (μ' := μ1) (by rfl) ?_
      have h2 : 2 ≤ w i := by
        have z := h1
        rw [Int32.le_iff_toInt_le, nI_toInt (by omega)] at z
        have z : (2 : Int) ≤ ((w i : Nat) : Int) := z
        omega
      rw [l_2 (w i) (by omega) h2]
      refine zq_iast hc hH (by rfl) 34 (by decide +kernel) (hin) ?_
      rw [ei]
      have g1 : ∀ j, (z_ui μ1 51 i (nI (w i - 2))).1 51 j = if j = i then nI (w i - 2) else μ1.1 51 j := fun j => by
        rw [z_ui_rd]
        by_cases e : j = i
        · rw [if_pos ⟨rfl, e⟩, if_pos e]
        · rw [if_neg (fun z => e z.2), if_neg e]
      have F1 : a_Fz mdR μ (z_ui μ1 51 i (nI (w i - 2))) := a_Fz_ui hA.2.1 (a_mda_md (by decide +kernel) _)
      have H1 : a_H (z_ui μ1 51 i (nI (w i - 2))) := a_H_ui hA.2.2.1 (bI_top _)
      have E1 : bq (z_ui μ1 51 i (nI (w i - 2))) = bq μ1 := bq_ui (by omega)
      generalize z_ui μ1 51 i (nI (w i - 2)) = μ2 at g1 F1 H1 E1 ⊢
      have w2 : RW μ2 51 (sb2 w i) := fun j hj => by
        rw [g1]; unfold sb2
        by_cases e : j = i
        · rw [if_pos e, if_pos e, e]; exact ⟨rfl, by omega⟩
        · rw [if_neg e, if_neg e, hA.1]; exact hw j hj
      refine z_rcs hc hH 5 (pc' := 83) (lv' := [(2, .int (nI i)), (0, .ref 50), (1, .int 1)]) (st' := [.int 1, .int (nI i), .int 0, .int 0, .ref 50]) (μ' := μ2) (by rfl) ?_
      refine zq_call hc (z_cx_ok hH (by rfl)) (fr_X7_sets μ q i (OV μ q i sL lL) e4 hq 6 (by decide) (way_HW μ q i sL lL hq (by omega) e4 hL) (4 - q) d' (by omega) μ2 (sb2 w i) 0 0 0 [] H1 F1 w2 (by omega) (by omega) (fun j hj => absurd hj (by omega)) (Or.inl rfl) rfl (fun j hj => absurd hj (Nat.not_lt_zero _)) (fun x hx => absurd hx (List.not_mem_nil)) (fun j hj => ⟨fun z => absurd z.1 (by omega), fun z => absurd z (by omega)⟩)) (by decide +kernel) (fun r3 μ3 hq3 => ?_)
      obtain ⟨rfl, hs⟩ := hq3
      show Z 0 86 [(2, .int (nI i)), (0, .ref 50), (1, .int 1)] [] μ3
      refine z_rcs hc hH 4 (pc' := 92) (lv' := [(2, .int (nI i)), (0, .ref 50), (1, .int 1)]) (st' := [.int (nI i), .ref 51, .int (nI i), .ref 51]) (μ' := μ3) (by rfl) ?_
      refine zq_iald hc hH (by rfl) 34 (by decide +kernel) (hin) ?_
      rw [ei, hs.1, g1, if_pos rfl]
      refine z_rcs hc hH 2 (pc' := 95) (lv' := [(2, .int (nI i)), (0, .ref 50), (1, .int 1)]) (st' := [.int ((nI (w i - 2)) + 2), .int (nI i), .ref 51]) (μ' := μ3) (by rfl) ?_
      rw [show nI (w i - 2) + 2 = nI (w i) from (nI_add (w i - 2) 2).trans (by rw [show w i - 2 + 2 = w i by omega])]
      refine zq_iast hc hH (by rfl) 34 (by decide +kernel) (hin) ?_
      rw [ei]
      have hN : AV μ (z_ui μ3 51 i (nI (w i))) (Si μ w q sL lL (i + 1)) := by
        refine ⟨fun j => ?_, a_Fz_ui (a_Fz_tr (by decide +kernel) F1 hs.2.2.1) (a_mda_md (by decide +kernel) _), a_H_ui hs.2.2.2.1 (bI_top _), ?_⟩
        · rw [z_ui_rd]
          by_cases e : j = i
          · rw [if_pos ⟨rfl, e⟩, e, (hw i (by omega)).1]
          · rw [if_neg (fun z => e z.2), hs.1, g1, if_neg e, hA.1]
        · rw [bq_ui (by omega)]
          have z := hs.2.2.2.2
          rw [E1] at z
          refine (hA.2.2.2.tr z).iff (fun x => ⟨?_, ?_⟩)
          · rintro (⟨p9, u1, u2⟩ | u)
            · exact ⟨p9, by omega, u2⟩
            · exact ⟨i, by omega, h2, u⟩
          · rintro ⟨p9, u1, u2⟩
            by_cases e : p9 = i
            · subst e; exact Or.inr u2.2
            · exact Or.inl ⟨p9, by omega, u2⟩
      generalize z_ui μ3 51 i (nI (w i)) = μ4 at hN ⊢
      refine z_rcs hc hH 2 (pc' := 49) (lv' := [(2, .int ((nI i) + 1)), (0, .ref 50), (1, .int 1)]) (st' := []) (μ' := μ4) (by rfl) ?_
      rw [nI_1]
      exact ih (i + 1) (by omega) μ4 hN
    · have h1 := cn_ge.mp h1
      refine z_rcs hc hH 1 (pc' := 96) (lv' := [(2, .int (nI i)), (0, .ref 50), (1, .int 1)]) (st' := []) (μ' := μ1) (by rfl) ?_
      have n2 : ¬ 2 ≤ w i := fun z9 => by
        have z := h1
        rw [Int32.not_le, Int32.lt_iff_toInt_lt, nI_toInt (by omega)] at z
        have z : ((w i : Nat) : Int) < 2 := z
        omega
      have hN : AV μ μ1 (Si μ w q sL lL (i + 1)) := hA.iff (fun x => ⟨fun ⟨p9, u1, u2⟩ => ⟨p9, by omega, u2⟩, fun ⟨p9, u1, u2⟩ => ⟨p9, if e : p9 = i then (by rw [e] at u2; exact absurd u2.1 n2) else (by omega), u2⟩⟩)
      refine z_rcs hc hH 2 (pc' := 49) (lv' := [(2, .int ((nI i) + 1)), (0, .ref 50), (1, .int 1)]) (st' := []) (μ' := μ1) (by rfl) ?_
      rw [nI_1]
      exact ih (i + 1) (by omega) μ1 hN

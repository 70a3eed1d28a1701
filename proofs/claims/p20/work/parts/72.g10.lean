set_option maxRecDepth 8000
theorem aq209 (d' : Nat) (Z : zK) (hd : 11 ≤ d') (μ : zM) (w : Nat → Nat) (q : Nat) (hq : q ≤ 4) (hw : RW μ 51 w) (e4 : μ.1 50 4 = nI q) (sL lL : Nat → Nat) (hL : ∀ j, j < q → μ.1 52 j = nI (sL j) ∧ sL j ≤ 3 ∧ μ.1 53 j = nI (lL j) ∧ lL j < 34) (h14 : sn w 34 + 3 * q = 14) (hc : z_clo z_x0 mi_X7_apart (z_C d') Z) (hr : z_ret mi_X7_apart (fun r μ' => r = none ∧ AV μ μ' (SR μ w q sL lL)) Z) (h0 : q = 0) (x4 : Int32) (hx : (x4 = 1 ∧ ∃ k, k < 34 ∧ eN k = true ∧ w k = 2) ∨ (x4 = 0 ∧ ¬ ∃ k, k < 34 ∧ eN k = true ∧ w k = 2)) (b2 : cn (fun k => decide (w k = 2)) 34 < 100) (bE : cn (fun k => eN k && decide (0 < w k)) 34 < 100) (μ1 : zM) (hA : AV μ μ1 (Si μ w q sL lL 34)) : Z 0 209 [(5, .int (nI 34)), (4, .int x4), (3, .int (nI (cn (fun k => eN k && decide (0 < w k)) 34))), (2, .int (nI (cn (fun k => decide (w k = 2)) 34))), (0, .ref 50), (1, .int 1)] [] μ1 := by
  have hH := zh_X7_apart
  have t228 : ∀ (μ2 : zM), AV μ μ2 (fun x => Si μ w q sL lL 34 x ∨ S7 μ w q x) → Z 0 228 [(5, .int (nI 34)), (4, .int x4), (3, .int (nI (cn (fun k => eN k && decide (0 < w k)) 34))), (2, .int (nI (cn (fun k => decide (w k = 2)) 34))), (0, .ref 50), (1, .int 1)] [] μ2 := by
    intro μ2 h2
    refine z_rcs hc hH 2 (pc' := 231) (lv' := [(5, .int (nI 34)), (4, .int x4), (3, .int (nI (cn (fun k => eN k && decide (0 < w k)) 34))), (2, .int (nI (cn (fun k => decide (w k = 2)) 34))), (0, .ref 50), (1, .int 1)]) (st' := [.int 13, .int (nI (cn (fun k => eN k && decide (0 < w k)) 34))]) (μ' := μ2) (by rfl) ?_
    refine zq_ic hc hH (by rfl) (tg := 252) (by rfl) (fun h1 => ?_) (fun h1 => ?_)
    · have h1 := cm_ne.mp h1
      exact hr 0 252 _ _ _ none (by decide +kernel) (by rfl) (⟨rfl, h2.iff (fun x => ⟨fun z => ⟨h14, Or.inl z⟩, fun z => z.2.resolve_right (fun z => h1 (by rw [z.1.2.1]; rfl))⟩)⟩)
    · have h1 := cn_ne.mp h1
      refine z_rcs hc hH 1 (pc' := 236) (lv' := [(5, .int (nI 34)), (4, .int x4), (3, .int (nI (cn (fun k => eN k && decide (0 < w k)) 34))), (2, .int (nI (cn (fun k => decide (w k = 2)) 34))), (0, .ref 50), (1, .int 1)]) (st' := [.int x4]) (μ' := μ2) (by rfl) ?_
      rcases hx with ⟨rfl, hz⟩ | ⟨rfl, hz⟩
      · skip
        refine z_rcs hc hH 7 (pc' := 249) (lv' := [(5, .int (nI 34)), (4, .int 1), (3, .int (nI (cn (fun k => eN k && decide (0 < w k)) 34))), (2, .int (nI (cn (fun k => decide (w k = 2)) 34))), (0, .ref 50), (1, .int 1)]) (st' := [.ref 50]) (μ' := z_ui μ2 50 18 1) (by rfl) ?_
        refine zq_call hc (z_cx_ok hH (by rfl)) (fb_X7_thirteen d' (by omega) (z_ui μ2 50 18 1) (a_H_ui h2.2.2.1 ⟨by decide, by decide⟩)) (by decide +kernel) (fun r3 μ3 hq3 => ?_)
        obtain ⟨rfl, hP⟩ := hq3
        have eT : vT (z_ui μ2 50 18 1) = vT μ := ah_vT (AH_Fz (a_Fz_ui h2.2.1 (by decide +kernel)))
        rw [eT] at hP
        show Z 0 252 [(5, .int (nI 34)), (4, .int 1), (3, .int (nI (cn (fun k => eN k && decide (0 < w k)) 34))), (2, .int (nI (cn (fun k => decide (w k = 2)) 34))), (0, .ref 50), (1, .int 1)] [] μ3
        exact hr 0 252 _ _ _ none (by decide +kernel) (by rfl) (⟨rfl, (h2.more hP).iff (fun x => ⟨fun z => ⟨h14, z.imp id (fun y => ⟨⟨h0, (nI_eq (by omega) (by omega)).mp h1, hz⟩, y⟩)⟩, fun z => z.2.imp id (fun y => y.2)⟩)⟩)
      · skip
        refine z_rcs hc hH 1 (pc' := 252) (lv' := [(5, .int (nI 34)), (4, .int 0), (3, .int (nI (cn (fun k => eN k && decide (0 < w k)) 34))), (2, .int (nI (cn (fun k => decide (w k = 2)) 34))), (0, .ref 50), (1, .int 1)]) (st' := []) (μ' := μ2) (by rfl) ?_
        exact hr 0 252 _ _ _ none (by decide +kernel) (by rfl) (⟨rfl, h2.iff (fun x => ⟨fun z => ⟨h14, Or.inl z⟩, fun z => z.2.resolve_right (fun z => hz z.1.2.2)⟩)⟩)
  refine z_rcs hc hH 2 (pc' := 212) (lv' := [(5, .int (nI 34)), (4, .int x4), (3, .int (nI (cn (fun k => eN k && decide (0 < w k)) 34))), (2, .int (nI (cn (fun k => decide (w k = 2)) 34))), (0, .ref 50), (1, .int 1)]) (st' := [.int 7, .int (nI (cn (fun k => decide (w k = 2)) 34))]) (μ' := μ1) (by rfl) ?_
  refine zq_ic hc hH (by rfl) (tg := 228) (by rfl) (fun h1 => ?_) (fun h1 => ?_)
  · have h1 := cm_ne.mp h1
    exact t228 _ (hA.iff (fun x => ⟨Or.inl, fun z => z.resolve_right (fun e => h1 (by rw [e.1.2]; rfl))⟩))
  · have h1 := cn_ne.mp h1
    refine z_rcs hc hH 6 (pc' := 225) (lv' := [(5, .int (nI 34)), (4, .int x4), (3, .int (nI (cn (fun k => eN k && decide (0 < w k)) 34))), (2, .int (nI (cn (fun k => decide (w k = 2)) 34))), (0, .ref 50), (1, .int 1)]) (st' := [.ref 50]) (μ' := z_ui μ1 50 18 1) (by rfl) ?_
    refine zq_call hc (z_cx_ok hH (by rfl)) (fb_X7_pairsWay d' (by omega) (z_ui μ1 50 18 1) (a_H_ui hA.2.2.1 ⟨by decide, by decide⟩) q hq (by rw [z_ui_rd, if_neg (by omega), a_Fz_at hA.2.1 50 4 (by decide +kernel)]; exact e4)) (by decide +kernel) (fun r3 μ3 hq3 => ?_)
    obtain ⟨rfl, hP⟩ := hq3
    have eP : vP (z_ui μ1 50 18 1) q = vP μ q := ah_vP (AH_Fz (a_Fz_ui hA.2.1 (by decide +kernel))) q
    rw [eP] at hP
    show Z 0 228 [(5, .int (nI 34)), (4, .int x4), (3, .int (nI (cn (fun k => eN k && decide (0 < w k)) 34))), (2, .int (nI (cn (fun k => decide (w k = 2)) 34))), (0, .ref 50), (1, .int 1)] [] μ3
    exact t228 _ ((hA.more hP).iff (fun x => ⟨fun z => z.imp id (fun y => ⟨⟨h0, (nI_eq (by omega) (by omega)).mp h1⟩, y⟩), fun z => z.imp id (fun y => y.2)⟩))
theorem aq120 (d' : Nat) (Z : zK) (hd : 11 ≤ d') (μ : zM) (w : Nat → Nat) (q : Nat) (hq : q ≤ 4) (hw : RW μ 51 w) (e4 : μ.1 50 4 = nI q) (sL lL : Nat → Nat) (hL : ∀ j, j < q → μ.1 52 j = nI (sL j) ∧ sL j ≤ 3 ∧ μ.1 53 j = nI (lL j) ∧ lL j < 34) (h14 : sn w 34 + 3 * q = 14) (hc : z_clo z_x0 mi_X7_apart (z_C d') Z) (hr : z_ret mi_X7_apart (fun r μ' => r = none ∧ AV μ μ' (SR μ w q sL lL)) Z) (h0 : q = 0) (μ1 : zM) (hA : AV μ μ1 (Si μ w q sL lL 34)) : ∀ n i, i + n = 34 → cn (fun k => decide (w k = 2)) i ≤ i → cn (fun k => eN k && decide (0 < w k)) i ≤ i → ∀ x4 : Int32, ((x4 = 1 ∧ ∃ k, k < i ∧ eN k = true ∧ w k = 2) ∨ (x4 = 0 ∧ ¬ ∃ k, k < i ∧ eN k = true ∧ w k = 2)) → Z 0 120 [(5, .int (nI i)), (4, .int x4), (3, .int (nI (cn (fun k => eN k && decide (0 < w k)) i))), (2, .int (nI (cn (fun k => decide (w k = 2)) i))), (0, .ref 50), (1, .int 1)] [] μ1 := by
  have hH := zh_X7_apart
  intro n
  induction n with
  | zero =>
    intro i hi l2 lE x4 hx
    have hi : i = 34 := by omega
    subst hi
    refine z_rcs hc hH 2 (pc' := 124) (lv' := [(5, .int (nI 34)), (4, .int x4), (3, .int (nI (cn (fun k => eN k && decide (0 < w k)) 34))), (2, .int (nI (cn (fun k => decide (w k = 2)) 34))), (0, .ref 50), (1, .int 1)]) (st' := [.int 34, .int (nI 34)]) (μ' := μ1) (by rfl) ?_
    refine zq_ic hc hH (by rfl) (tg := 209) (by rfl) (fun _ => ?_) (fun h9 => (zb_t (ge_nIt (n := 34) (i := 34) (by decide) (by decide)) h9).elim)
    exact aq209 d' Z hd μ w q hq hw e4 sL lL hL h14 hc hr h0 x4 hx (by omega) (by omega) μ1 hA
  | succ n ih =>
    intro i hi l2 lE x4 hx
    have hin : vp_in (nI i) 34 := vp_in_nI (by omega) (by decide)
    have w1 : μ1.1 51 i = nI (w i) := (hA.1 i).trans (hw i (by omega)).1
    have b5 := (hw i (by omega)).2
    have c2 : cn (fun k => decide (w k = 2)) (i + 1) = cn (fun k => decide (w k = 2)) i + (if decide (w i = 2) = true then 1 else 0) := rfl
    have cE : cn (fun k => eN k && decide (0 < w k)) (i + 1) = cn (fun k => eN k && decide (0 < w k)) i + (if (eN i && decide (0 < w i)) = true then 1 else 0) := rfl
    have d2 : cn (fun k => decide (w k = 2)) (i + 1) ≤ i + 1 := by rw [c2]; split <;> omega
    have dE : cn (fun k => eN k && decide (0 < w k)) (i + 1) ≤ i + 1 := by rw [cE]; split <;> omega
    have t201 : ∀ x : Int32, ((x = 1 ∧ ∃ k, k < i + 1 ∧ eN k = true ∧ w k = 2) ∨ (x = 0 ∧ ¬ ∃ k, k < i + 1 ∧ eN k = true ∧ w k = 2)) → Z 0 201 [(3, .int (nI (cn (fun k => eN k && decide (0 < w k)) (i + 1)))), (2, .int (nI (cn (fun k => decide (w k = 2)) (i + 1)))), (5, .int (nI i)), (4, .int x4), (0, .ref 50), (1, .int 1)] [.int x] μ1 := by
      intro x hx2
      refine z_rcs hc hH 3 (pc' := 120) (lv' := [(5, .int ((nI i) + 1)), (4, .int x), (3, .int (nI (cn (fun k => eN k && decide (0 < w k)) (i + 1)))), (2, .int (nI (cn (fun k => decide (w k = 2)) (i + 1)))), (0, .ref 50), (1, .int 1)]) (st' := []) (μ' := μ1) (by rfl) ?_
      rw [nI_1]
      exact ih (i + 1) (by omega) d2 dE x hx2
    have t172 : Z 0 172 [(3, .int (nI (cn (fun k => eN k && decide (0 < w k)) (i + 1)))), (2, .int (nI (cn (fun k => decide (w k = 2)) (i + 1)))), (5, .int (nI i)), (4, .int x4), (0, .ref 50), (1, .int 1)] [] μ1 := by
      rcases hx with ⟨rfl, k9, hk9, hz⟩ | ⟨rfl, hz⟩
      · skip
        refine z_rcs hc hH 4 (pc' := 201) (lv' := [(3, .int (nI (cn (fun k => eN k && decide (0 < w k)) (i + 1)))), (2, .int (nI (cn (fun k => decide (w k = 2)) (i + 1)))), (5, .int (nI i)), (4, .int 1), (0, .ref 50), (1, .int 1)]) (st' := [.int 1]) (μ' := μ1) (by rfl) ?_
        exact t201 1 (Or.inl ⟨rfl, k9, by omega, hz⟩)
      · skip
        refine z_rcs hc hH 3 (pc' := 179) (lv' := [(3, .int (nI (cn (fun k => eN k && decide (0 < w k)) (i + 1)))), (2, .int (nI (cn (fun k => decide (w k = 2)) (i + 1)))), (5, .int (nI i)), (4, .int 0), (0, .ref 50), (1, .int 1)]) (st' := [.int (nI i)]) (μ' := μ1) (by rfl) ?_
        refine zq_call hc (z_cx_ok hH (by rfl)) (fc_X7_isEnd d' (by omega) μ1 i (by omega)) (by decide +kernel) (fun r9 μ9 hq => ?_)
        obtain ⟨hμ9, hq⟩ := hq
        rw [hμ9]
        clear hμ9 μ9
        obtain ⟨rfl, he⟩ | ⟨rfl, he⟩ := hq
        · show Z 0 182 [(3, .int (nI (cn (fun k => eN k && decide (0 < w k)) (i + 1)))), (2, .int (nI (cn (fun k => decide (w k = 2)) (i + 1)))), (5, .int (nI i)), (4, .int 0), (0, .ref 50), (1, .int 1)] [.int 1] μ1
          refine z_rcs hc hH 4 (pc' := 191) (lv' := [(3, .int (nI (cn (fun k => eN k && decide (0 < w k)) (i + 1)))), (2, .int (nI (cn (fun k => decide (w k = 2)) (i + 1)))), (5, .int (nI i)), (4, .int 0), (0, .ref 50), (1, .int 1)]) (st' := [.int (nI i), .ref 51]) (μ' := μ1) (by rfl) ?_
          refine zq_iald hc hH (by rfl) 34 (by decide +kernel) (hin) ?_
          rw [nI_clamp (n := i) (by omega), w1]
          refine z_rcs hc hH 1 (pc' := 193) (lv' := [(3, .int (nI (cn (fun k => eN k && decide (0 < w k)) (i + 1)))), (2, .int (nI (cn (fun k => decide (w k = 2)) (i + 1)))), (5, .int (nI i)), (4, .int 0), (0, .ref 50), (1, .int 1)]) (st' := [.int 2, .int (nI (w i))]) (μ' := μ1) (by rfl) ?_
          refine zq_ic hc hH (by rfl) (tg := 200) (by rfl) (fun h1 => ?_) (fun h1 => ?_)
          · have h1 := cm_ne.mp h1
            refine z_rcs hc hH 1 (pc' := 201) (lv' := [(3, .int (nI (cn (fun k => eN k && decide (0 < w k)) (i + 1)))), (2, .int (nI (cn (fun k => decide (w k = 2)) (i + 1)))), (5, .int (nI i)), (4, .int 0), (0, .ref 50), (1, .int 1)]) (st' := [.int 0]) (μ' := μ1) (by rfl) ?_
            exact t201 0 (Or.inr ⟨rfl, fun ⟨j, hj, z⟩ => if e : j = i then (by rw [e] at z; exact h1 (by rw [z.2]; rfl)) else hz ⟨j, by omega, z⟩⟩)
          · have h1 := cn_ne.mp h1
            refine z_rcs hc hH 2 (pc' := 201) (lv' := [(3, .int (nI (cn (fun k => eN k && decide (0 < w k)) (i + 1)))), (2, .int (nI (cn (fun k => decide (w k = 2)) (i + 1)))), (5, .int (nI i)), (4, .int 0), (0, .ref 50), (1, .int 1)]) (st' := [.int 1]) (μ' := μ1) (by rfl) ?_
            exact t201 1 (Or.inl ⟨rfl, i, by omega, he, (nI_eq (by omega) (by omega)).mp h1⟩)
        · show Z 0 182 [(3, .int (nI (cn (fun k => eN k && decide (0 < w k)) (i + 1)))), (2, .int (nI (cn (fun k => decide (w k = 2)) (i + 1)))), (5, .int (nI i)), (4, .int 0), (0, .ref 50), (1, .int 1)] [.int 0] μ1
          refine z_rcs hc hH 2 (pc' := 201) (lv' := [(3, .int (nI (cn (fun k => eN k && decide (0 < w k)) (i + 1)))), (2, .int (nI (cn (fun k => decide (w k = 2)) (i + 1)))), (5, .int (nI i)), (4, .int 0), (0, .ref 50), (1, .int 1)]) (st' := [.int 0]) (μ' := μ1) (by rfl) ?_
          exact t201 0 (Or.inr ⟨rfl, fun ⟨j, hj, z⟩ => if e : j = i then (by rw [e] at z; exact he z.1) else hz ⟨j, by omega, z⟩⟩)
    have t146 : Z 0 146 [(2, .int (nI (cn (fun k => decide (w k = 2)) (i + 1)))), (5, .int (nI i)), (4, .int x4), (3, .int (nI (cn (fun k => eN k && decide (0 < w k)) i))), (0, .ref 50), (1, .int 1)] [] μ1 := by
      refine z_rcs hc hH 2 (pc' := 149) (lv' := [(2, .int (nI (cn (fun k => decide (w k = 2)) (i + 1)))), (5, .int (nI i)), (4, .int x4), (3, .int (nI (cn (fun k => eN k && decide (0 < w k)) i))), (0, .ref 50), (1, .int 1)]) (st' := [.int (nI i), .int (nI (cn (fun k => eN k && decide (0 < w k)) i))]) (μ' := μ1) (by rfl) ?_
      refine zq_call hc (z_cx_ok hH (by rfl)) (fc_X7_isEnd d' (by omega) μ1 i (by omega)) (by decide +kernel) (fun r9 μ9 hq => ?_)
      obtain ⟨hμ9, hq⟩ := hq
      rw [hμ9]
      clear hμ9 μ9
      obtain ⟨rfl, he⟩ | ⟨rfl, he⟩ := hq
      · show Z 0 152 [(2, .int (nI (cn (fun k => decide (w k = 2)) (i + 1)))), (5, .int (nI i)), (4, .int x4), (3, .int (nI (cn (fun k => eN k && decide (0 < w k)) i))), (0, .ref 50), (1, .int 1)] [.int 1, .int (nI (cn (fun k => eN k && decide (0 < w k)) i))] μ1
        refine z_rcs hc hH 4 (pc' := 161) (lv' := [(2, .int (nI (cn (fun k => decide (w k = 2)) (i + 1)))), (5, .int (nI i)), (4, .int x4), (3, .int (nI (cn (fun k => eN k && decide (0 < w k)) i))), (0, .ref 50), (1, .int 1)]) (st' := [.int (nI i), .ref 51, .int (nI (cn (fun k => eN k && decide (0 < w k)) i))]) (μ' := μ1) (by rfl) ?_
        refine zq_iald hc hH (by rfl) 34 (by decide +kernel) (hin) ?_
        rw [nI_clamp (n := i) (by omega), w1]
        refine zq_if hc hH (by rfl) (tg := 169) (by rfl) (fun h1 => ?_) (fun h1 => ?_)
        · have h1 := cm_le.mp h1
          refine z_rcs hc hH 2 (pc' := 171) (lv' := [(2, .int (nI (cn (fun k => decide (w k = 2)) (i + 1)))), (5, .int (nI i)), (4, .int x4), (3, .int (nI (cn (fun k => eN k && decide (0 < w k)) i))), (0, .ref 50), (1, .int 1)]) (st' := [.int ((nI (cn (fun k => eN k && decide (0 < w k)) i)) + 0)]) (μ' := μ1) (by rfl) ?_
          have z := h1
          rw [Int32.le_iff_toInt_le, nI_toInt (by omega)] at z
          have z : ((w i : Nat) : Int) ≤ 0 := z
          rw [if_neg (by rw [he, decide_eq_false (by omega)]; decide)] at cE
          rw [Int32.add_zero, ← show cn (fun k => eN k && decide (0 < w k)) (i + 1) = cn (fun k => eN k && decide (0 < w k)) i from cE]
          refine z_rcs hc hH 1 (pc' := 172) (lv' := [(3, .int (nI (cn (fun k => eN k && decide (0 < w k)) (i + 1)))), (2, .int (nI (cn (fun k => decide (w k = 2)) (i + 1)))), (5, .int (nI i)), (4, .int x4), (0, .ref 50), (1, .int 1)]) (st' := []) (μ' := μ1) (by rfl) ?_
          exact t172
        · have h1 := cn_le.mp h1
          refine z_rcs hc hH 3 (pc' := 171) (lv' := [(2, .int (nI (cn (fun k => decide (w k = 2)) (i + 1)))), (5, .int (nI i)), (4, .int x4), (3, .int (nI (cn (fun k => eN k && decide (0 < w k)) i))), (0, .ref 50), (1, .int 1)]) (st' := [.int ((nI (cn (fun k => eN k && decide (0 < w k)) i)) + 1)]) (μ' := μ1) (by rfl) ?_
          have z := h1
          rw [Int32.not_le, Int32.lt_iff_toInt_lt, nI_toInt (by omega)] at z
          have z : (0 : Int) < ((w i : Nat) : Int) := z
          rw [if_pos (by rw [he, decide_eq_true (show 0 < w i by omega)]; rfl)] at cE
          rw [nI_1, ← cE]
          refine z_rcs hc hH 1 (pc' := 172) (lv' := [(3, .int (nI (cn (fun k => eN k && decide (0 < w k)) (i + 1)))), (2, .int (nI (cn (fun k => decide (w k = 2)) (i + 1)))), (5, .int (nI i)), (4, .int x4), (0, .ref 50), (1, .int 1)]) (st' := []) (μ' := μ1) (by rfl) ?_
          exact t172
      · show Z 0 152 [(2, .int (nI (cn (fun k => decide (w k = 2)) (i + 1)))), (5, .int (nI i)), (4, .int x4), (3, .int (nI (cn (fun k => eN k && decide (0 < w k)) i))), (0, .ref 50), (1, .int 1)] [.int 0, .int (nI (cn (fun k => eN k && decide (0 < w k)) i))] μ1
        refine z_rcs hc hH 3 (pc' := 171) (lv' := [(2, .int (nI (cn (fun k => decide (w k = 2)) (i + 1)))), (5, .int (nI i)), (4, .int x4), (3, .int (nI (cn (fun k => eN k && decide (0 < w k)) i))), (0, .ref 50), (1, .int 1)]) (st' := [.int ((nI (cn (fun k => eN k && decide (0 < w k)) i)) + 0)]) (μ' := μ1) (by rfl) ?_
        rw [if_neg (by rw [Bool.eq_false_iff.mpr he, Bool.false_and]; decide)] at cE
        rw [Int32.add_zero, ← show cn (fun k => eN k && decide (0 < w k)) (i + 1) = cn (fun k => eN k && decide (0 < w k)) i from cE]
        refine z_rcs hc hH 1 (pc' := 172) (lv' := [(3, .int (nI (cn (fun k => eN k && decide (0 < w k)) (i + 1)))), (2, .int (nI (cn (fun k => decide (w k = 2)) (i + 1)))), (5, .int (nI i)), (4, .int x4), (0, .ref 50), (1, .int 1)]) (st' := []) (μ' := μ1) (by rfl) ?_
        exact t172
    refine z_rcs hc hH 2 (pc' := 124) (lv' := [(5, .int (nI i)), (4, .int x4), (3, .int (nI (cn (fun k => eN k && decide (0 < w k)) i))), (2, .int (nI (cn (fun k => decide (w k = 2)) i))), (0, .ref 50), (1, .int 1)]) (st' := [.int 34, .int (nI i)]) (μ' := μ1) (by rfl) ?_
    refine zq_ic hc hH (by rfl) (tg := 209) (by rfl) (fun h9 => (zb_t h9 (ge_nI (n := 34) (i := i) (by omega) (by decide))).elim) (fun _ => ?_)
    refine z_rcs hc hH 4 (pc' := 134) (lv' := [(5, .int (nI i)), (4, .int x4), (3, .int (nI (cn (fun k => eN k && decide (0 < w k)) i))), (2, .int (nI (cn (fun k => decide (w k = 2)) i))), (0, .ref 50), (1, .int 1)]) (st' := [.int (nI i), .ref 51, .int (nI (cn (fun k => decide (w k = 2)) i))]) (μ' := μ1) (by rfl) ?_
    refine zq_iald hc hH (by rfl) 34 (by decide +kernel) (hin) ?_
    rw [nI_clamp (n := i) (by omega), w1]
    refine z_rcs hc hH 1 (pc' := 136) (lv' := [(5, .int (nI i)), (4, .int x4), (3, .int (nI (cn (fun k => eN k && decide (0 < w k)) i))), (2, .int (nI (cn (fun k => decide (w k = 2)) i))), (0, .ref 50), (1, .int 1)]) (st' := [.int 2, .int (nI (w i)), .int (nI (cn (fun k => decide (w k = 2)) i))]) (μ' := μ1) (by rfl) ?_
    refine zq_ic hc hH (by rfl) (tg := 143) (by rfl) (fun h1 => ?_) (fun h1 => ?_)
    · have h1 := cm_ne.mp h1
      refine z_rcs hc hH 2 (pc' := 145) (lv' := [(5, .int (nI i)), (4, .int x4), (3, .int (nI (cn (fun k => eN k && decide (0 < w k)) i))), (2, .int (nI (cn (fun k => decide (w k = 2)) i))), (0, .ref 50), (1, .int 1)]) (st' := [.int ((nI (cn (fun k => decide (w k = 2)) i)) + 0)]) (μ' := μ1) (by rfl) ?_
      rw [if_neg (by rw [decide_eq_true_iff]; exact fun e => h1 (by rw [e]; rfl))] at c2
      rw [Int32.add_zero, ← show cn (fun k => decide (w k = 2)) (i + 1) = cn (fun k => decide (w k = 2)) i from c2]
      refine z_rcs hc hH 1 (pc' := 146) (lv' := [(2, .int (nI (cn (fun k => decide (w k = 2)) (i + 1)))), (5, .int (nI i)), (4, .int x4), (3, .int (nI (cn (fun k => eN k && decide (0 < w k)) i))), (0, .ref 50), (1, .int 1)]) (st' := []) (μ' := μ1) (by rfl) ?_
      exact t146
    · have h1 := cn_ne.mp h1
      refine z_rcs hc hH 3 (pc' := 145) (lv' := [(5, .int (nI i)), (4, .int x4), (3, .int (nI (cn (fun k => eN k && decide (0 < w k)) i))), (2, .int (nI (cn (fun k => decide (w k = 2)) i))), (0, .ref 50), (1, .int 1)]) (st' := [.int ((nI (cn (fun k => decide (w k = 2)) i)) + 1)]) (μ' := μ1) (by rfl) ?_
      rw [if_pos (decide_eq_true ((nI_eq (show w i < 2 ^ 31 by omega) (show 2 < 2 ^ 31 by decide)).mp h1))] at c2
      rw [nI_1, ← c2]
      refine z_rcs hc hH 1 (pc' := 146) (lv' := [(2, .int (nI (cn (fun k => decide (w k = 2)) (i + 1)))), (5, .int (nI i)), (4, .int x4), (3, .int (nI (cn (fun k => eN k && decide (0 < w k)) i))), (0, .ref 50), (1, .int 1)]) (st' := []) (μ' := μ1) (by rfl) ?_
      exact t146
theorem aq102 (d' : Nat) (Z : zK) (hd : 11 ≤ d') (μ : zM) (w : Nat → Nat) (q : Nat) (hq : q ≤ 4) (hw : RW μ 51 w) (e4 : μ.1 50 4 = nI q) (sL lL : Nat → Nat) (hL : ∀ j, j < q → μ.1 52 j = nI (sL j) ∧ sL j ≤ 3 ∧ μ.1 53 j = nI (lL j) ∧ lL j < 34) (h14 : sn w 34 + 3 * q = 14) (hc : z_clo z_x0 mi_X7_apart (z_C d') Z) (hr : z_ret mi_X7_apart (fun r μ' => r = none ∧ AV μ μ' (SR μ w q sL lL)) Z) (x2 : Int32) (μ1 : zM) (hA : AV μ μ1 (Si μ w q sL lL 34)) : Z 0 102 [(2, .int x2), (0, .ref 50), (1, .int 1)] [] μ1 := by
  have hH := zh_X7_apart
  have e41 : μ1.1 50 4 = nI q := (a_Fz_at hA.2.1 50 4 (by decide +kernel)).trans e4
  refine z_rcs hc hH 2 (pc' := 106) (lv' := [(2, .int x2), (0, .ref 50), (1, .int 1)]) (st' := [.int (μ1.1 50 4)]) (μ' := μ1) (by rfl) ?_
  rw [e41]
  refine zq_if hc hH (by rfl) (tg := 110) (by rfl) (fun h1 => ?_) (fun h1 => ?_)
  · have h1 := cm_le.mp h1
    refine z_rcs hc hH 8 (pc' := 120) (lv' := [(5, .int 0), (4, .int 0), (3, .int 0), (2, .int 0), (0, .ref 50), (1, .int 1)]) (st' := []) (μ' := μ1) (by rfl) ?_
    have h0 : q = 0 := by
      have z := h1
      rw [Int32.le_iff_toInt_le, nI_toInt (by omega)] at z
      have z : ((q : Nat) : Int) ≤ 0 := z
      omega
    exact aq120 d' Z hd μ w q hq hw e4 sL lL hL h14 hc hr h0 μ1 hA 34 0 (by omega) (Nat.le_refl _) (Nat.le_refl _) 0 (Or.inr ⟨rfl, fun ⟨j, hj, _⟩ => absurd hj (by omega)⟩)
  · have h1 := cn_le.mp h1
    have h0 : ¬ q = 0 := fun e => h1 (by rw [e]; decide)
    exact hr 0 109 _ _ _ none (by decide +kernel) (by rfl) (⟨rfl, hA.iff (fun x => ⟨fun z => ⟨h14, Or.inl (Or.inl z)⟩, fun z => (z.2.resolve_right (fun y => h0 y.1.1)).resolve_right (fun y => h0 y.1.1)⟩)⟩)
theorem aq49 (d' : Nat) (Z : zK) (hd : 11 ≤ d') (μ : zM) (w : Nat → Nat) (q : Nat) (hq : q ≤ 4) (hw : RW μ 51 w) (e4 : μ.1 50 4 = nI q) (sL lL : Nat → Nat) (hL : ∀ j, j < q → μ.1 52 j = nI (sL j) ∧ sL j ≤ 3 ∧ μ.1 53 j = nI (lL j) ∧ lL j < 34) (h14 : sn w 34 + 3 * q = 14) (hc : z_clo z_x0 mi_X7_apart (z_C d') Z) (hr : z_ret mi_X7_apart (fun r μ' => r = none ∧ AV μ μ' (SR μ w q sL lL)) Z) : ∀ n i, i + n = 34 → ∀ μ1, AV μ μ1 (Si μ w q sL lL i) → Z 0 49 [(2, .int (nI i)), (0, .ref 50), (1, .int 1)] [] μ1 := by
  have hH := zh_X7_apart
  intro n
  induction n with
  | zero =>
    intro i hi μ1 hA
    have hi : i = 34 := by omega
    subst hi
    refine z_rcs hc hH 2 (pc' := 52) (lv' := [(2, .int (nI 34)), (0, .ref 50), (1, .int 1)]) (st' := [.int 34, .int (nI 34)]) (μ' := μ1) (by rfl) ?_
    refine zq_ic hc hH (by rfl) (tg := 102) (by rfl) (fun _ => ?_) (fun h9 => (zb_t (ge_nIt (n := 34) (i := 34) (by decide) (by decide)) h9).elim)
    exact aq102 d' Z hd μ w q hq hw e4 sL lL hL h14 hc hr _ μ1 hA
  | succ n ih =>
    intro i hi μ1 hA
    have hin : vp_in (nI i) 34 := vp_in_nI (by omega) (by decide)
    have ei : (nI i).toNatClampNeg = i := nI_clamp (by omega)
    have w1 : μ1.1 51 i = nI (w i) := (hA.1 i).trans (hw i (by omega)).1
    have b5 := (hw i (by omega)).2
    have e41 : μ1.1 50 4 = nI q := (a_Fz_at hA.2.1 50 4 (by decide +kernel)).trans e4
    refine z_rcs hc hH 2 (pc' := 52) (lv' := [(2, .int (nI i)), (0, .ref 50), (1, .int 1)]) (st' := [.int 34, .int (nI i)]) (μ' := μ1) (by rfl) ?_
    refine zq_ic hc hH (by rfl) (tg := 102) (by rfl) (fun h9 => (zb_t h9 (ge_nI (n := 34) (i := i) (by omega) (by decide))).elim) (fun _ => ?_)
    refine z_rcs hc hH 3 (pc' := 60) (lv' := [(2, .int (nI i)), (0, .ref 50), (1, .int 1)]) (st' := [.int (nI i), .ref 51]) (μ' := μ1) (by rfl) ?_
    refine zq_iald hc hH (by rfl) 34 (by decide +kernel) (hin) ?_
    rw [ei, w1]
    refine z_rcs hc hH 1 (pc' := 62) (lv' := [(2, .int (nI i)), (0, .ref 50), (1, .int 1)]) (st' := [.int 2, .int (nI (w i))]) (μ' := μ1) (by rfl) ?_
    refine zq_ic hc hH (by rfl) (tg := 68) (by rfl) (fun h1 => ?_) (fun h1 => ?_)
    · have h1 := cm_ge.mp h1
      refine z_rcs hc hH 4 (pc' := 74) (lv' := [(2, .int (nI i)), (0, .ref 50), (1, .int 1)]) (st' := [.int (nI i), .ref 51, .int (nI i), .ref 51]) (μ' := μ1) (by rfl) ?_
      refine zq_iald hc hH (by rfl) 34 (by decide +kernel) (hin) ?_
      rw [ei, w1]
      refine z_rcs hc hH 2 (pc' := 77) (lv' := [(2, .int (nI i)), (0, .ref 50), (1, .int 1)]) (st' := [.int ((nI (w i)) - 2), .int (nI i), .ref 51]) (μ' := μ1) (by rfl) ?_
      have h2 : 2 ≤ w i := by
        have z := h1
        rw [Int32.le_iff_toInt_le, nI_toInt (by omega)] at z
        have z : (2 : Int) ≤ ((w i : Nat) : Int) := z
        omega
      rw [l_2 (w i) (by omega) h2]
      refine zq_iast hc hH (by rfl) 34 (by decide +kernel) (hin) ?_
      rw [ei]
      have g1 : ∀ j, (z_ui μ1 51 i (nI (w i - 2))).1 51 j = if j = i then nI (w i - 2) else μ1.1 51 j := fun j => by
        rw [z_ui_rd]
        by_cases e : j = i
        · rw [if_pos ⟨rfl, e⟩, if_pos e]
        · rw [if_neg (fun z => e z.2), if_neg e]
      have F1 : a_Fz mdR μ (z_ui μ1 51 i (nI (w i - 2))) := a_Fz_ui hA.2.1 (a_mda_md (by decide +kernel) _)
      have H1 : a_H (z_ui μ1 51 i (nI (w i - 2))) := a_H_ui hA.2.2.1 (bI_top _)
      have E1 : bq (z_ui μ1 51 i (nI (w i - 2))) = bq μ1 := bq_ui (by omega)
      generalize z_ui μ1 51 i (nI (w i - 2)) = μ2 at g1 F1 H1 E1 ⊢
      have w2 : RW μ2 51 (sb2 w i) := fun j hj => by
        rw [g1]; unfold sb2
        by_cases e : j = i
        · rw [if_pos e, if_pos e, e]; exact ⟨rfl, by omega⟩
        · rw [if_neg e, if_neg e, hA.1]; exact hw j hj
      refine z_rcs hc hH 5 (pc' := 83) (lv' := [(2, .int (nI i)), (0, .ref 50), (1, .int 1)]) (st' := [.int 1, .int (nI i), .int 0, .int 0, .ref 50]) (μ' := μ2) (by rfl) ?_
      refine zq_call hc (z_cx_ok hH (by rfl)) (fr_X7_sets μ q i (OV μ q i sL lL) e4 hq 6 (by decide) (way_HW μ q i sL lL hq (by omega) e4 hL) (4 - q) d' (by omega) μ2 (sb2 w i) 0 0 0 [] H1 F1 w2 (by omega) (by omega) (fun j hj => absurd hj (by omega)) (Or.inl rfl) rfl (fun j hj => absurd hj (Nat.not_lt_zero _)) (fun x hx => absurd hx (List.not_mem_nil)) (fun j hj => ⟨fun z => absurd z.1 (by omega), fun z => absurd z (by omega)⟩)) (by decide +kernel) (fun r3 μ3 hq3 => ?_)
      obtain ⟨rfl, hs⟩ := hq3
      show Z 0 86 [(2, .int (nI i)), (0, .ref 50), (1, .int 1)] [] μ3
      refine z_rcs hc hH 4 (pc' := 92) (lv' := [(2, .int (nI i)), (0, .ref 50), (1, .int 1)]) (st' := [.int (nI i), .ref 51, .int (nI i), .ref 51]) (μ' := μ3) (by rfl) ?_
      refine zq_iald hc hH (by rfl) 34 (by decide +kernel) (hin) ?_
      rw [ei, hs.1, g1, if_pos rfl]
      refine z_rcs hc hH 2 (pc' := 95) (lv' := [(2, .int (nI i)), (0, .ref 50), (1, .int 1)]) (st' := [.int ((nI (w i - 2)) + 2), .int (nI i), .ref 51]) (μ' := μ3) (by rfl) ?_
      rw [show nI (w i - 2) + 2 = nI (w i) from (nI_add (w i - 2) 2).trans (by rw [show w i - 2 + 2 = w i by omega])]
      refine zq_iast hc hH (by rfl) 34 (by decide +kernel) (hin) ?_
      rw [ei]
      have hN : AV μ (z_ui μ3 51 i (nI (w i))) (Si μ w q sL lL (i + 1)) := by
        refine ⟨fun j => ?_, a_Fz_ui (a_Fz_tr (by decide +kernel) F1 hs.2.2.1) (a_mda_md (by decide +kernel) _), a_H_ui hs.2.2.2.1 (bI_top _), ?_⟩
        · rw [z_ui_rd]
          by_cases e : j = i
          · rw [if_pos ⟨rfl, e⟩, e, (hw i (by omega)).1]
          · rw [if_neg (fun z => e z.2), hs.1, g1, if_neg e, hA.1]
        · rw [bq_ui (by omega)]
          have z := hs.2.2.2.2
          rw [E1] at z
          refine (hA.2.2.2.tr z).iff (fun x => ⟨?_, ?_⟩)
          · rintro (⟨p9, u1, u2⟩ | u)
            · exact ⟨p9, by omega, u2⟩
            · exact ⟨i, by omega, h2, u⟩
          · rintro ⟨p9, u1, u2⟩
            by_cases e : p9 = i
            · subst e; exact Or.inr u2.2
            · exact Or.inl ⟨p9, by omega, u2⟩
      generalize z_ui μ3 51 i (nI (w i)) = μ4 at hN ⊢
      refine z_rcs hc hH 2 (pc' := 49) (lv' := [(2, .int ((nI i) + 1)), (0, .ref 50), (1, .int 1)]) (st' := []) (μ' := μ4) (by rfl) ?_
      rw [nI_1]
      exact ih (i + 1) (by omega) μ4 hN
    · have h1 := cn_ge.mp h1
      refine z_rcs hc hH 1 (pc' := 96) (lv' := [(2, .int (nI i)), (0, .ref 50), (1, .int 1)]) (st' := []) (μ' := μ1) (by rfl) ?_
      have n2 : ¬ 2 ≤ w i := fun z9 => by
        have z := h1
        rw [Int32.not_le, Int32.lt_iff_toInt_lt, nI_toInt (by omega)] at z
        have z : ((w i : Nat) : Int) < 2 := z
        omega
      have hN : AV μ μ1 (Si μ w q sL lL (i + 1)) := hA.iff (fun x => ⟨fun ⟨p9, u1, u2⟩ => ⟨p9, by omega, u2⟩, fun ⟨p9, u1, u2⟩ => ⟨p9, if e : p9 = i then (by rw [e] at u2; exact absurd u2.1 n2) else (by omega), u2⟩⟩)
      refine z_rcs hc hH 2 (pc' := 49) (lv' := [(2, .int ((nI i) + 1)), (0, .ref 50), (1, .int 1)]) (st' := []) (μ' := μ1) (by rfl) ?_
      rw [nI_1]
      exact ih (i + 1) (by omega) μ1 hN
theorem fr_X7_apart (d : Nat) (hd : 12 ≤ d) (μ : zM) (w : Nat → Nat) (q : Nat) (hq : q ≤ 4) (hw : RW μ 51 w) (e4 : μ.1 50 4 = nI q) (sL lL : Nat → Nat) (hL : ∀ j, j < q → μ.1 52 j = nI (sL j) ∧ sL j ≤ 3 ∧ μ.1 53 j = nI (lL j) ∧ lL j < 34) (hH0 : a_H μ) : z_C d mi_X7_apart [.ref 50, .int 1] μ (fun r μ' => r = none ∧ AV μ μ' (SR μ w q sL lL)) := by
  refine z_C_in (by decide) (by omega) (fun d' Z ed hc hr => ?_)
  have hH := zh_X7_apart
  have hsn : sn w 34 < 1000 := by have := sn_ub (w := w) (c := 5) 34 (fun k hk => by have := (hw k hk).2; omega); omega
  refine z_rcs hc hH 18 (pc' := 30) (lv' := [(0, .ref 50), (1, .int 1)]) (st' := []) (μ' := z_uj (z_ui (z_ui (z_ui (z_ui (z_ui μ 50 18 0) 50 16 0) 50 13 0) 50 14 0) 50 15 0) 50 17 0) (by rfl) ?_
  have hA : AV μ (z_uj (z_ui (z_ui (z_ui (z_ui (z_ui μ 50 18 0) 50 16 0) 50 13 0) 50 14 0) 50 15 0) 50 17 0) (Si μ w q sL lL 0) := by
    refine ⟨fun j => ?_, a_Fz_uj (a_Fz_ui (a_Fz_ui (a_Fz_ui (a_Fz_ui (a_Fz_ui (a_Fz_rf _ _) (by decide +kernel)) (by decide +kernel)) (by decide +kernel)) (by decide +kernel)) (by decide +kernel)) (by decide +kernel), a_H_uj (a_H_ui (a_H_ui (a_H_ui (a_H_ui (a_H_ui hH0 ⟨by decide, by decide⟩) (bI_top _)) (bI_top _)) (bI_top _)) (bI_top _)), ?_⟩
    · show (z_ui (z_ui (z_ui (z_ui (z_ui μ 50 18 0) 50 16 0) 50 13 0) 50 14 0) 50 15 0).1 51 j = _
      rw [z_ui_rd, if_neg (by omega), z_ui_rd, if_neg (by omega), z_ui_rd, if_neg (by omega), z_ui_rd, if_neg (by omega), z_ui_rd, if_neg (by omega)]
    · have z : bq (z_uj (z_ui (z_ui (z_ui (z_ui (z_ui μ 50 18 0) 50 16 0) 50 13 0) 50 14 0) 50 15 0) 50 17 0) = (0, 0, 0, 0) := by
        refine Prod.ext ?_ (Prod.ext ?_ (Prod.ext ?_ ?_))
        · show (z_ui (z_ui (z_ui (z_ui (z_ui μ 50 18 0) 50 16 0) 50 13 0) 50 14 0) 50 15 0).1 50 13 = 0; rw [z_ui_rd, if_neg (by omega), z_ui_rd, if_neg (by omega), z_ui_rd, if_pos ⟨rfl, rfl⟩]
        · show (z_ui (z_ui (z_ui (z_ui (z_ui μ 50 18 0) 50 16 0) 50 13 0) 50 14 0) 50 15 0).1 50 14 = 0; rw [z_ui_rd, if_neg (by omega), z_ui_rd, if_pos ⟨rfl, rfl⟩]
        · show (z_ui (z_ui (z_ui (z_ui (z_ui μ 50 18 0) 50 16 0) 50 13 0) 50 14 0) 50 15 0).1 50 15 = 0; rw [z_ui_rd, if_pos ⟨rfl, rfl⟩]
        · show (z_uj (z_ui (z_ui (z_ui (z_ui (z_ui μ 50 18 0) 50 16 0) 50 13 0) 50 14 0) 50 15 0) 50 17 0).2.1 50 17 = 0; rw [z_uj_rd, if_pos ⟨rfl, rfl⟩]
      rw [z]
      exact BS_rf (fun x ⟨p9, u1, _⟩ => absurd u1 (by omega))
  generalize z_uj (z_ui (z_ui (z_ui (z_ui (z_ui μ 50 18 0) 50 16 0) 50 13 0) 50 14 0) 50 15 0) 50 17 0 = μ1 at hA ⊢
  have e41 : μ1.1 50 4 = nI q := (a_Fz_at hA.2.1 50 4 (by decide +kernel)).trans e4
  have es : sm (μ1.1 51) 34 = nI (sn w 34) := sm_sn 34 (fun k hk => (hA.1 k).trans (hw k hk).1)
  refine z_rcs hc hH 1 (pc' := 31) (lv' := [(0, .ref 50), (1, .int 1)]) (st' := [.ref 50]) (μ' := μ1) (by rfl) ?_
  refine zq_call hc (z_cx_ok hH (by rfl)) (fc_X7_inHand d' (by omega) μ1) (by decide +kernel) (fun r9 μ9 hq => ?_)
  obtain ⟨hμ9, rfl⟩ := hq
  rw [hμ9]
  clear hμ9 μ9
  show Z 0 34 [(0, .ref 50), (1, .int 1)] [.int (sm (μ1.1 51) 34)] μ1
  refine z_rcs hc hH 5 (pc' := 41) (lv' := [(0, .ref 50), (1, .int 1)]) (st' := [.int ((sm (μ1.1 51) 34) + (3 * (μ1.1 50 4)))]) (μ' := μ1) (by rfl) ?_
  rw [es, e41, size_nI]
  show Z 0 41 [(0, .ref 50), (1, .int 1)] [.int (nI (sn w 34 + 3 * q))] μ1
  refine z_rcs hc hH 1 (pc' := 43) (lv' := [(0, .ref 50), (1, .int 1)]) (st' := [.int 14, .int (nI (sn w 34 + 3 * q))]) (μ' := μ1) (by rfl) ?_
  refine zq_ic hc hH (by rfl) (tg := 47) (by rfl) (fun h1 => ?_) (fun h1 => ?_)
  · have h1 := cm_eq9.mp h1
    refine z_rcs hc hH 2 (pc' := 49) (lv' := [(2, .int 0), (0, .ref 50), (1, .int 1)]) (st' := []) (μ' := μ1) (by rfl) ?_
    exact aq49 d' Z (by omega) μ w q hq hw e4 sL lL hL ((nI_eq (by omega) (by omega)).mp h1) hc hr 34 0 (by omega) μ1 hA
  · have h1 := cn_eq.mp h1
    exact hr 0 46 _ _ _ none (by decide +kernel) (by rfl) (⟨rfl, hA.iff (fun x => ⟨fun ⟨p9, u1, _⟩ => absurd u1 (by omega), fun z => absurd (show nI (sn w 34 + 3 * q) = 14 by rw [z.1]; rfl) h1⟩)⟩)

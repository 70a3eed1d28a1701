set_option maxRecDepth 8000
theorem aq120 (d' : Nat) (Z : zK) (hd : 11 ≤ d') (μ : zM) (w : Nat → Nat) (q : Nat) (hq : q ≤ 4) (hw : RW μ 51 w) (e4 : μ.1 50 4 = nI q) (sL lL : Nat → Nat) (hL : ∀ j, j < q → μ.1 52 j = nI (sL j) ∧ sL j ≤ 3 ∧ μ.1 53 j = nI (lL j) ∧ lL j < 34) (h14 : sn w 34 + 3 * q = 14) (hc : z_clo z_x0 mi_X7_apart (z_C d') Z) (hr : z_ret mi_X7_apart (fun r μ' => r = none ∧ AV μ μ' (SR μ w q sL lL)) Z) (h0 : q = 0) (μ1 : zM) (hA : AV μ μ1 (Si μ w q sL lL 34)) : ∀ n i, i + n = 34 → cn (fun k => decide (w k = 2)) i ≤ i → cn (fun k => eN k && decide (0 < w k)) i ≤ i → ∀ x4 : Int32, ((x4 = 1 ∧ ∃ k, k < i ∧ eN k = true ∧ w k = 2) ∨ (x4 = 0 ∧ ¬ ∃ k, k < i ∧ eN k = true ∧ w k = 2)) → Z 0 120 [(5, .int (nI i)), (4, .int x4), (3, .int (nI (cn (fun k => eN k && decide (0 < w k)) i))), (2, .int (nI (cn (fun k => decide (w k = 2)) i))), (0, .ref 50), (1, .int 1)] [] μ1 := by
  have hH := zh_X7_apart
  intro n
  induction n with
  | zero =>
    intro i hi l2 lE x4 hx
    have hi : i = 34 := by omega
    subst hi
    refine z_rcs hc hH 2 (pc' := 124) (lv' := [(5, .int (nI 34)), (4, .int x4), (3, .int (nI (cn (fun k => eN k && decide (0 < w k)) 34))), (2, .int (nI (cn (fun k => decide (w k = 2)) 34))), (0, .ref 50), (1, .int 1)]) (st' := [.int 34, .int (nI 34)]) (μ' := μ1) (by rfl) ?_
    refine zq_ic hc hH (by rfl) (tg := 209) (by rfl) (fun _ => ?_) (fun h9 => (zb_t (ge_nIt (n := 34) (i := 34) (by decide) (by decide)) h9).elim)
    exact aq209 d' Z hd μ w q hq hw e4 sL lL hL h14 hc hr h0 x4 hx (by omega) (by omega) μ1 hA
  | succ n ih =>
    intro i hi l2 lE x4 hx
    have hin : vp_in (nI i) 34 := vp_in_nI (by omega) (by decide)
    have w1 : μ1.1 51 i = nI (w i) := (hA.1 i).trans (hw i (by omega)).1
    have b5 := (hw i (by omega)).2
    have c2 : cn (fun k => decide (w k = 2)) (i + 1) = cn (fun k => decide (w k = 2)) i + (if decide (w i = 2) = true then 1 else 0) := rfl
    have cE : cn (fun k => eN k && decide (0 < w k)) (i + 1) = cn (fun k => eN k && decide (0 < w k)) i + (if (eN i && decide (0 < w i)) = true then 1 else 0) := rfl
    have d2 : cn (fun k => decide (w k = 2)) (i + 1) ≤ i + 1 := by rw [c2]; split <;> omega
    have dE : cn (fun k => eN k && decide (0 < w k)) (i + 1) ≤ i + 1 := by rw [cE]; split <;> omega
    have t201 : ∀ x : Int32, ((x = 1 ∧ ∃ k, k < i + 1 ∧ eN k = true ∧ w k = 2) ∨ (x = 0 ∧ ¬ ∃ k, k < i + 1 ∧ eN k = true ∧ w k = 2)) → Z 0 201 [(3, .int (nI (cn (fun k => eN k && decide (0 < w k)) (i + 1)))), (2, .int (nI (cn (fun k => decide (w k = 2)) (i + 1)))), (5, .int (nI i)), (4, .int x4), (0, .ref 50), (1, .int 1)] [.int x] μ1 := by
      intro x hx2
      refine z_rcs hc hH 3 (pc' := 120) (lv' := [(5, .int ((nI i) + 1)), (4, .int x), (3, .int (nI (cn (fun k => eN k && decide (0 < w k)) (i + 1)))), (2, .int (nI (cn (fun k => decide (w k = 2)) (i + 1)))), (0, .ref 50), (1, .int 1)]) (st' := []) (μ' := μ1) (by rfl) ?_
      rw [nI_1]
      exact ih (i + 1) (by omega) d2 dE x hx2
    have t172 : Z 0 172 [(3, .int (nI (cn (fun k => eN k && decide (0 < w k)) (i + 1)))), (2, .int (nI (cn (fun k => decide (w k = 2)) (i + 1)))), (5, .int (nI i)), (4, .int x4), (0, .ref 50), (1, .int 1)] [] μ1 := by
      rcases hx with ⟨rfl, k9, hk9, hz⟩ | ⟨rfl, hz⟩
      · skip
        refine z_rcs hc hH 4 (pc' := 201) (lv' := [(3, .int (nI (cn (fun k => eN k && decide (0 < w k)) (i + 1)))), (2, .int (nI (cn (fun k => decide (w k = 2)) (i + 1)))), (5, .int (nI i)), (4, .int 1), (0, .ref 50), (1, .int 1)]) (st' := [.int 1]) (μ' := μ1) (by rfl) ?_
        exact t201 1 (Or.inl ⟨rfl, k9, by omega, hz⟩)
      · skip
        refine z_rcs hc hH 3 (pc' := 179) (lv' := [(3, .int (nI (cn (fun k => eN k && decide (0 < w k)) (i + 1)))), (2, .int (nI (cn (fun k => decide (w k = 2)) (i + 1)))), (5, .int (nI i)), (4, .int 0), (0, .ref 50), (1, .int 1)]) (st' := [.int (nI i)]) (μ' := μ1) (by rfl) ?_
        refine zq_call hc (z_cx_ok hH (by rfl)) (fc_X7_isEnd d' (by omega) μ1 i (by omega)) (by decide +kernel) (fun r9 μ9 hq => ?_)
        obtain ⟨hμ9, hq⟩ := hq
        rw [hμ9]
        clear hμ9 μ9
        obtain ⟨rfl, he⟩ | ⟨rfl, he⟩ := hq
        · show Z 0 182 [(3, .int (nI (cn (fun k => eN k && decide (0 < w k)) (i + 1)))), (2, .int (nI (cn (fun k => decide (w k = 2)) (i + 1)))), (5, .int (nI i)), (4, .int 0), (0, .ref 50), (1, .int 1)] [.int 1] μ1
          refine z_rcs hc hH 4 (pc' := 191) (lv' := [(3, .int (nI (cn (fun k => eN k && decide (0 < w k)) (i + 1)))), (2, .int (nI (cn (fun k => decide (w k = 2)) (i + 1)))), (5, .int (nI i)), (4, .int 0), (0, .ref 50), (1, .int 1)]) (st' := [.int (nI i), .ref 51]) (μ' := μ1) (by rfl) ?_
          refine zq_iald hc hH (by rfl) 34 (by decide +kernel) (hin) ?_
          rw [nI_clamp (n := i) (by omega), w1]
          refine z_rcs hc hH 1 (pc' := 193) (lv' := [(3, .int (nI (cn (fun k => eN k && decide (0 < w k)) (i + 1)))), (2, .int (nI (cn (fun k => decide (w k = 2)) (i + 1)))), (5, .int (nI i)), (4, .int 0), (0, .ref 50), (1, .int 1)]) (st' := [.int 2, .int (nI (w i))]) (μ' := μ1) (by rfl) ?_
          refine zq_ic hc hH (by rfl) (tg := 200) (by rfl) (fun h1 => ?_) (fun h1 => ?_)
          · have h1 := cm_ne.mp h1
            refine z_rcs hc hH 1 (pc' := 201) (lv' := [(3, .int (nI (cn (fun k => eN k && decide (0 < w k)) (i + 1)))), (2, .int (nI (cn (fun k => decide (w k = 2)) (i + 1)))), (5, .int (nI i)), (4, .int 0), (0, .ref 50), (1, .int 1)]) (st' := [.int 0]) (μ' := μ1) (by rfl) ?_
            exact t201 0 (Or.inr ⟨rfl, fun ⟨j, hj, z⟩ => if e : j = i then (by rw [e] at z; exact h1 (by rw [z.2]; rfl)) else hz ⟨j, by omega, z⟩⟩)
          · have h1 := cn_ne.mp h1
            refine z_rcs hc hH 2 (pc' := 201) (lv' := [(3, .int (nI (cn (fun k => eN k && decide (0 < w k)) (i + 1)))), (2, .int (nI (cn (fun k => decide (w k = 2)) (i + 1)))), (5, .int (nI i)), (4, .int 0), (0, .ref 50), (1, .int 1)]) (st' := [.int 1]) (μ' := μ1) (by rfl) ?_
            exact t201 1 (Or.inl ⟨rfl, i, by omega, he, (nI_eq (by omega) (by omega)).mp h1⟩)
        · show Z 0 182 [(3, .int (nI (cn (fun k => eN k && decide (0 < w k)) (i + 1)))), (2, .int (nI (cn (fun k => decide (w k = 2)) (i + 1)))), (5, .int (nI i)), (4, .int 0), (0, .ref 50), (1, .int 1)] [.int 0] μ1
          refine z_rcs hc hH 2 (pc' := 201) (lv' := [(3, .int (nI (cn (fun k => eN k && decide (0 < w k)) (i + 1)))), (2, .int (nI (cn (fun k => decide (w k = 2)) (i + 1)))), (5, .int (nI i)), (4, .int 0), (0, .ref 50), (1, .int 1)]) (st' := [.int 0]) (μ' := μ1) (by rfl) ?_
          exact t201 0 (Or.inr ⟨rfl, fun ⟨j, hj, z⟩ => if e : j = i then (by rw [e] at z; exact he z.1) else hz ⟨j, by omega, z⟩⟩)
    have t146 : Z 0 146 [(2, .int (nI (cn (fun k => decide (w k = 2)) (i + 1)))), (5, .int (nI i)), (4, .int x4), (3, .int (nI (cn (fun k => eN k && decide (0 < w k)) i))), (0, .ref 50), (1, .int 1)] [] μ1 := by
      refine z_rcs hc hH 2 (pc' := 149) (lv' := [(2, .int (nI (cn (fun k => decide (w k = 2)) (i + 1)))), (5, .int (nI i)), (4, .int x4), (3, .int (nI (cn (fun k => eN k && decide (0 < w k)) i))), (0, .ref 50), (1, .int 1)]) (st' := [.int (nI i), .int (nI (cn (fun k => eN k && decide (0 < w k)) i))]) (μ' := μ1) (by rfl) ?_
      refine zq_call hc (z_cx_ok hH (by rfl)) (fc_X7_isEnd d' (by omega) μ1 i (by omega)) (by decide +kernel) (fun r9 μ9 hq => ?_)
      obtain ⟨hμ9, hq⟩ := hq
      rw [hμ9]
      clear hμ9 μ9
      obtain ⟨rfl, he⟩ | ⟨rfl, he⟩ := hq
      · show Z 0 152 [(2, .int (nI (cn (fun k => decide (w k = 2)) (i + 1)))), (5, .int (nI i)), (4, .int x4), (3, .int (nI (cn (fun k => eN k && decide (0 < w k)) i))), (0, .ref 50), (1, .int 1)] [.int 1, .int (nI (cn (fun k => eN k && decide (0 < w k)) i))] μ1
        refine z_rcs hc hH 4 (pc' := 161) (lv' := [(2, .int (nI (cn (fun k => decide (w k = 2)) (i + 1)))), (5, .int (nI i)), (4, .int x4), (3, .int (nI (cn (fun k => eN k && decide (0 < w k)) i))), (0, .ref 50), (1, .int 1)]) (st' := [.int (nI i), .ref 51, .int (nI (cn (fun k => eN k && decide (0 < w k)) i))]) (μ' := μ1) (by rfl) ?_
        refine zq_iald hc hH (by rfl) 34 (by decide +kernel) (hin) ?_
        rw [nI_clamp (n := i) (by omega), w1]
        refine zq_if hc hH (by rfl) (tg := 169) (by rfl) (fun h1 => ?_) (fun h1 => ?_)
        · have h1 := cm_le.mp h1
          refine z_rcs hc hH 2 (pc' := 171) (lv' := [(2, .int (nI (cn (fun k => decide (w k = 2)) (i + 1)))), (5, .int (nI i)), (4, .int x4), (3, .int (nI (cn (fun k => eN k && decide (0 < w k)) i))), (0, .ref 50), (1, .int 1)]) (st' := [.int ((nI (cn (fun k => eN k && decide (0 < w k)) i)) + 0)]) (μ' := μ1) (by rfl) ?_
          have z := h1
          rw [Int32.le_iff_toInt_le, nI_toInt (by omega)] at z
          have z : ((w i : Nat) : Int) ≤ 0 := z
          rw [if_neg (by rw [he, decide_eq_false (by omega)]; decide)] at cE
          rw [Int32.add_zero, ← show cn (fun k => eN k && decide (0 < w k)) (i + 1) = cn (fun k => eN k && decide (0 < w k)) i from cE]
          refine z_rcs hc hH 1 (pc' := 172) (lv' := [(3, .int (nI (cn (fun k => eN k && decide (0 < w k)) (i + 1)))), (2, .int (nI (cn (fun k => decide (w k = 2)) (i + 1)))), (5, .int (nI i)), (4, .int x4), (0, .ref 50), (1, .int 1)]) (st' := []) (μ' := μ1) (by rfl) ?_
          exact t172
        · have h1 := cn_le.mp h1
          refine z_rcs hc hH 3 (pc' := 171) (lv' := [(2, .int (nI (cn (fun k => decide (w k = 2)) (i + 1)))), (5, .int (nI i)), (4, .int x4), (3, .int (nI (cn (fun k => eN k && decide (0 < w k)) i))), (0, .ref 50), (1, .int 1)]) (st' := [.int ((nI (cn (fun k => eN k && decide (0 < w k)) i)) + 1)]) (μ' := μ1) (by rfl) ?_
          have z := h1
          rw [Int32.not_le, Int32.lt_iff_toInt_lt, nI_toInt (by omega)] at z
          have z : (0 : Int) < ((w i : Nat) : Int) := z
          rw [if_pos (by rw [he, decide_eq_true (show 0 < w i by omega)]; rfl)] at cE
          rw [nI_1, ← cE]
          refine z_rcs hc hH 1 (pc' := 172) (lv' := [(3, .int (nI (cn (fun k => eN k && decide (0 < w k)) (i + 1)))), (2, .int (nI (cn (fun k => decide (w k = 2)) (i + 1)))), (5, .int (nI i)), (4, .int x4), (0, .ref 50), (1, .int 1)]) (st' := []) (μ' := μ1) (by rfl) ?_
          exact t172
      · show Z 0 152 [(2, .int (nI (cn (fun k => decide (w k = 2)) (i + 1)))), (5, .int (nI i)), (4, .int x4), (3, .int (nI (cn (fun k => eN k && decide (0 < w k)) i))), (0, .ref 50), (1, .int 1)] [.int 0, .int (nI (cn (fun k => eN k && decide (0 < w k)) i))] μ1
        refine z_rcs hc hH 3 (pc' := 171) (lv' := [(2, .int (nI (cn (fun k => decide (w k = 2)) (i + 1)))), (5, .int (nI i)), (4, .int x4), (3, .int (nI (cn (fun k => eN k && decide (0 < w k)) i))), (0, .ref 50), (1, .int 1)]) (st' := [.int ((nI (cn (fun k => eN k && decide (0 < w k)) i)) + 0)]) (μ' := μ1) (by rfl) ?_
        rw [if_neg (by rw [Bool.eq_false_iff.mpr he, Bool.false_and]; decide)] at cE
        rw [Int32.add_zero, ← show cn (fun k => eN k && decide (0 < w k)) (i + 1) = cn (fun k => eN k && decide (0 < w k)) i from cE]
        refine z_rcs hc hH 1 (pc' := 172) (lv' := [(3, .int (nI (cn (fun k => eN k && decide (0 < w k)) (i + 1)))), (2, .int (nI (cn (fun k => decide (w k = 2)) (i + 1)))), (5, .int (nI i)), (4, .int x4), (0, .ref 50), (1, .int 1)]) (st' := []) (μ' := μ1) (by rfl) ?_
        exact t172
    refine z_rcs hc hH 2 (pc' := 124) (lv' := [(5, .int (nI i)), (4, .int x4), (3, .int (nI (cn (fun k => eN k && decide (0 < w k)) i))), (2, .int (nI (cn (fun k => decide (w k = 2)) i))), (0, .ref 50), (1, .int 1)]) (st' := [.int 34, .int (nI i)]) (μ' := μ1) (by rfl) ?_
    refine zq_ic hc hH (by rfl) (tg := 209) (by rfl) (fun h9 => (zb_t h9 (ge_nI (n := 34) (i := i) (by omega) (by decide))).elim) (fun _ => ?_)
    refine z_rcs hc hH 4 (pc' := 134) (lv' := [(5, .int (nI i)), (4, .int x4), (3, .int (nI (cn (fun k => eN k && decide (0 < w k)) i))), (2, .int (nI (cn (fun k => decide (w k = 2)) i))), (0, .ref 50), (1, .int 1)]) (st' := [.int (nI i), .ref 51, .int (nI (cn (fun k => decide (w k = 2)) i))]) (μ' := μ1) (by rfl) ?_
    refine zq_iald hc hH (by rfl) 34 (by decide +kernel) (hin) ?_
    rw [nI_clamp (n := i) (by omega), w1]
    refine z_rcs hc hH 1 (pc' := 136) (lv' := [(5, .int (nI i)), (4, .int x4), (3, .int (nI (cn (fun k => eN k && decide (0 < w k)) i))), (2, .int (nI (cn (fun k => decide (w k = 2)) i))), (0, .ref 50), (1, .int 1)]) (st' := [.int 2, .int (nI (w i)), .int (nI (cn (fun k => decide (w k = 2)) i))]) (μ' := μ1) (by rfl) ?_
    refine zq_ic hc hH (by rfl) (tg := 143) (by rfl) (fun h1 => ?_) (fun h1 => ?_)
    · have h1 := cm_ne.mp h1
      refine z_rcs hc hH 2 (pc' := 145) (lv' := [(5, .int (nI i)), (4, .int x4), (3, .int (nI (cn (fun k => eN k && decide (0 < w k)) i))), (2, .int (nI (cn (fun k => decide (w k = 2)) i))), (0, .ref 50), (1, .int 1)]) (st' := [.int ((nI (cn (fun k => decide (w k = 2)) i)) + 0)]) (μ' := μ1) (by rfl) ?_
      rw [if_neg (by rw [decide_eq_true_iff]; exact fun e => h1 (by rw [e]; rfl))] at c2
      rw [Int32.add_zero, ← show cn (fun k => decide (w k = 2)) (i + 1) = cn (fun k => decide (w k = 2)) i from c2]
      refine z_rcs hc hH 1 (pc' := 146) (lv' := [(2, .int (nI (cn (fun k => decide (w k = 2)) (i + 1)))), (5, .int (nI i)), (4, .int x4), (3, .int (nI (cn (fun k => eN k && decide (0 < w k)) i))), (0, .ref 50), (1, .int 1)]) (st' := []) (μ' := μ1) (by rfl) ?_
      exact t146
    · have h1 := cn_ne.mp h1
      refine z_rcs hc hH 3 (pc' := 145) (lv' := [(5, .int (nI i)), (4, .int x4), (3, .int (nI (cn (fun k => eN k && decide (0 < w k)) i))), (2, .int (nI (cn (fun k => decide (w k = 2)) i))), (0, .ref 50), (1, .int 1)]) (st' := [.int ((nI (cn (fun k => decide (w k = 2)) i)) + 1)]) (μ' := μ1) (by rfl) ?_
      rw [if_pos (decide_eq_true ((nI_eq (show w i < 2 ^ 31 by omega) (show 2 < 2 ^ 31 by decide)).mp h1))] at c2
      rw [nI_1, ← c2]
      refine z_rcs hc hH 1 (pc' := 146) (lv' := [(2, .int (nI (cn (fun k => decide (w k = 2)) (i + 1)))), (5, .int (nI i)), (4, .int x4), (3, .int (nI (cn (fun k => eN k && decide (0 < w k)) i))), (0, .ref 50), (1, .int 1)]) (st' := []) (μ' := μ1) (by rfl) ?_
      exact t146

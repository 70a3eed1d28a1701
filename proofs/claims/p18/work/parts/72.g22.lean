/-! the game: SETS laid down, exactly -/
set_option maxRecDepth 8000
/-- a seat lays a SET down -/
noncomputable def ldS (μ : zM) (j : Nat) (s : Int32) (a q : Nat) : zM := (fun r k => if r = 20 + 8 * j then (if a ≤ k ∧ k < a + (zl s + 1) then μ.1 r k - se s else μ.1 r k) else if r = 19 + 8 * j ∧ k = 5 then μ.1 r k - nI (zl s + 1) * se s else if r = 19 + 8 * j ∧ k = 4 then nI (q + 1) else if r = 22 + 8 * j ∧ k = q then s else if r = 23 + 8 * j ∧ k = q then nI a else μ.1 r k, μ.2)
theorem ldS_o {μ : zM} {j a q r k : Nat} {s : Int32} (h : r ≠ 19 + 8 * j ∧ r ≠ 20 + 8 * j ∧ r ≠ 22 + 8 * j ∧ r ≠ 23 + 8 * j) : (ldS μ j s a q).1 r k = μ.1 r k := by
  show (if r = 20 + 8 * j then _ else if r = 19 + 8 * j ∧ k = 5 then _ else if r = 19 + 8 * j ∧ k = 4 then _ else if r = 22 + 8 * j ∧ k = q then _ else if r = 23 + 8 * j ∧ k = q then _ else μ.1 r k) = μ.1 r k
  rw [if_neg h.2.1, if_neg (fun e => h.1 e.1), if_neg (fun e => h.1 e.1), if_neg (fun e => h.2.2.1 e.1), if_neg (fun e => h.2.2.2 e.1)]
theorem ldS_j {μ : zM} {j a q r k : Nat} {s : Int32} : (ldS μ j s a q).2.1 r k = μ.2.1 r k := rfl
theorem sM_inj {j : Nat} (hj : j < 4) {μ μ' : zM} (h : sMm j μ = sMm j μ') : μ = μ' := by rw [← sM_sM hj μ, h, sM_sM hj]
theorem gc_layE (d : Nat) (hd : 2 ≤ d) (μ : zM) (j : Nat) (hj : j < 4) (s : Int32) (a q : Nat) (ham : a + zl s ≤ 33) (hq3 : q ≤ 3) (e4 : μ.1 (19 + 8 * j) 4 = nI q) : z_C d mi_X3_layDown [.ref (19 + 8 * j), .int s, .int (nI a)] μ (fun r μ' => r = none ∧ μ' = ldS μ j s a q) := by
  refine z_C_mono (gc_layDown d hd μ j hj s a q ham hq3 e4) (fun r μ' z => ⟨z.1, ?_⟩)
  obtain ⟨-, h1, h2, h3, h4, h5, h6, h7⟩ := z
  have hs : ∀ r, sgm j (sgm j r) = r := fun r => (RN_sgm j hj).1 r
  have q9 := sgm_r j hj
  have e7 : μ'.2 = μ.2 := by
    have e : sMm j (μ'.1, μ'.2) = sMm j (μ'.1, μ.2) := by
      show zsg (sgm j) _ = zsg (sgm j) _
      have e1 : (sMm j μ').2 = (sMm j μ).2 := h7
      exact Prod.ext rfl e1
    have e2 := sM_inj hj e
    have e3 := congrArg (fun p : zM => p.2) e2
    exact e3
  refine Prod.ext ?_ e7
  funext r k
  show μ'.1 r k = if r = 20 + 8 * j then _ else if r = 19 + 8 * j ∧ k = 5 then _ else if r = 19 + 8 * j ∧ k = 4 then _ else if r = 22 + 8 * j ∧ k = q then _ else if r = 23 + 8 * j ∧ k = q then _ else μ.1 r k
  by_cases c1 : r = 20 + 8 * j
  · rw [if_pos c1]
    have e := h1 k
    rw [sM10 hj, sM10 hj] at e
    rw [c1]; exact e
  · rw [if_neg c1]
    by_cases c2 : r = 19 + 8 * j ∧ k = 5
    · rw [if_pos c2, c2.1, c2.2]
      rw [sM9 hj, sM9 hj] at h2
      exact h2
    · rw [if_neg c2]
      by_cases c3 : r = 19 + 8 * j ∧ k = 4
      · rw [if_pos c3, c3.1, c3.2]
        rw [sM9 hj] at h3
        exact h3
      · rw [if_neg c3]
        by_cases c4 : r = 22 + 8 * j
        · have e := h4 k
          rw [sM12 hj, sM12 hj] at e
          rw [c4, e]
          by_cases c : k = q
          · rw [if_pos c, if_pos ⟨rfl, c⟩]
          · rw [if_neg c, if_neg (fun e => c e.2), if_neg (fun e => c e.2)]
        · rw [if_neg (fun e => c4 e.1)]
          by_cases c5 : r = 23 + 8 * j
          · have e := h5 k
            rw [sM13 hj, sM13 hj] at e
            rw [c5, e]
            by_cases c : k = q
            · rw [if_pos c, if_pos ⟨rfl, c⟩]
            · rw [if_neg c, if_neg (fun e => c e.2)]
          · rw [if_neg (fun e => c5 e.1)]
            have e : (sMm j μ').1 (sgm j r) k = (sMm j μ).1 (sgm j r) k := by
              refine h6 (sgm j r) k (fun e => c1 ?_) (fun e => c4 ?_) (fun e => c5 ?_) (fun e => ?_)
              · rw [← hs r, e, q9.2.1]
              · rw [← hs r, e, q9.2.2.2.1]
              · rw [← hs r, e, q9.2.2.2.2.1]
              · have e9 : r = 19 + 8 * j := by rw [← hs r, e.1, q9.1]
                rcases e.2 with c | c
                · exact c3 ⟨e9, c⟩
                · exact c2 ⟨e9, c⟩
            have e2 : μ'.1 (sgm j (sgm j r)) k = μ.1 (sgm j (sgm j r)) k := e
            rw [hs r] at e2
            exact e2
theorem pS_g {μ : zM} {j k r k' : Nat} {n : Int32} (h : (r ≠ 19 + 8 * j ∨ k' ≠ 5) ∧ r ≠ 20 + 8 * j ∧ r ≠ 21 + 8 * j) : (pS μ j k n).1 r k' = μ.1 r k' := by
  unfold pS
  rcases h.1 with c | c
  · rw [ui_o c, ui_o h.2.2, ui_o h.2.1]
  · rw [ui_k c, ui_o h.2.2, ui_o h.2.1]
theorem bkH_o {μ : zM} {r k : Nat} (h : k ≠ 7 ∧ k ≠ 17) : (bkH μ).1 r k = μ.1 r k := by
  unfold bkH
  rw [ui_k h.1, ui_k h.1, ui_k h.1, ui_k h.1, ui_k h.2]
theorem bkH_r {μ : zM} {r k : Nat} (h : r ≠ 0 ∧ r ≠ 18 ∧ r ≠ 26 ∧ r ≠ 34 ∧ r ≠ 42) : (bkH μ).1 r k = μ.1 r k := by
  unfold bkH
  rw [ui_o h.2.2.2.2, ui_o h.2.2.2.1, ui_o h.2.2.1, ui_o h.2.1, ui_o h.1]
theorem bkH_j {μ : zM} {r k : Nat} : (bkH μ).2.1 r k = μ.2.1 r k := rfl
theorem lT_o {μ : zM} {t u1 u2 u3 r k : Nat} {c1 c2 c3 : Bool} (h : k ≠ 8 ∧ k ≠ 6 ∧ k ≠ 4 ∧ k ≠ 12) : (lT μ t u1 u2 u3 c1 c2 c3).1 r k = μ.1 r k := by
  unfold lT
  cases decide (μ.1 (18 + 8 * t) 6 = 0)
  · rw [cond_false, ui_k h.2.2.2, ui_k h.2.2.1, ui_k h.2.1, lgS_k h.1, lgS_k h.1, lgS_k h.1]
  · rw [cond_true, lgS_k h.1, lgS_k h.1, lgS_k h.1]
theorem lT_r {μ : zM} {t u1 u2 u3 r k : Nat} {c1 c2 c3 : Bool} (h : r ≠ 0 ∧ r ≠ 18 + 8 * t ∧ r ≠ 18 + 8 * u1 ∧ r ≠ 18 + 8 * u2 ∧ r ≠ 18 + 8 * u3) : (lT μ t u1 u2 u3 c1 c2 c3).1 r k = μ.1 r k := by
  unfold lT
  cases decide (μ.1 (18 + 8 * t) 6 = 0)
  · rw [cond_false, ui_o h.1, ui_o h.2.1, ui_o h.2.1, lgS_o h.2.2.2.2, lgS_o h.2.2.2.1, lgS_o h.2.2.1]
  · rw [cond_true, lgS_o h.2.2.2.2, lgS_o h.2.2.2.1, lgS_o h.2.2.1]
theorem lT_j {μ : zM} {t u1 u2 u3 r k : Nat} {c1 c2 c3 : Bool} : (lT μ t u1 u2 u3 c1 c2 c3).2.1 r k = μ.2.1 r k := by
  unfold lT
  cases decide (μ.1 (18 + 8 * t) 6 = 0)
  · show (lgS _ _ _).2.1 r k = _
    rw [lgS_j, lgS_j, lgS_j]
  · rw [cond_true, lgS_j, lgS_j, lgS_j]
noncomputable def tkS (μ : zM) (s a q : Nat) (so : Int32) (t c u1 u2 u3 : Nat) (c1 c2 c3 : Bool) : zM := z_ui (z_ui (z_ui (ldS (pS (bkH (lT μ t u1 u2 u3 c1 c2 c3) ) s c 1) s so a q) 0 8 (nI s)) 0 7 1) 0 15 (-1)
theorem gc_takeSet (d : Nat) (hd : 8 ≤ d) (μ : zM) (s a q : Nat) (so : Int32) (hs4 : s < 4) (ham : a + zl so ≤ 33) (hq3 : q ≤ 3) (e4 : μ.1 (19 + 8 * s) 4 = nI q) (t c u1 u2 u3 : Nat) (c1 c2 c3 : Bool) (ht4 : t < 4) (ht : μ.1 0 8 = nI t) (hc34 : c < 34) (hc15 : μ.1 0 15 = nI c) (hu1 : (t + 1) % 4 = u1) (hu14 : u1 < 4) (hw1 : ∀ μ1, TE μ μ1 → ∀ d, 6 ≤ d → z_C d mi_X3_waitsFor [.ref (19 + 8 * u1), .int (nI c)] μ1 (zR μ1 (.int (nB c1)))) (hu2 : (t + 2) % 4 = u2) (hu24 : u2 < 4) (hw2 : ∀ μ1, TE μ μ1 → ∀ d, 6 ≤ d → z_C d mi_X3_waitsFor [.ref (19 + 8 * u2), .int (nI c)] μ1 (zR μ1 (.int (nB c2)))) (hu3 : (t + 3) % 4 = u3) (hu34 : u3 < 4) (hw3 : ∀ μ1, TE μ μ1 → ∀ d, 6 ≤ d → z_C d mi_X3_waitsFor [.ref (19 + 8 * u3), .int (nI c)] μ1 (zR μ1 (.int (nB c3)))) : z_C d mi_X6_takeSet [.ref 0, .int (nI s), .int so, .int (nI a)] μ (fun r μ' => r = none ∧ μ' = tkS μ s a q so t c u1 u2 u3 c1 c2 c3) := by
  refine z_C_in (by decide) (by omega) (fun d' Z ed hc hr => ?_)
  have hH : zH mi_X6_takeSet zt_X6_takeSet 79 6 5 := hh_X6_takeSet
  refine z_rcs hc hH 1 (pc' := 1) (lv' := [(0, .ref 0), (1, .int (nI s)), (2, .int so), (3, .int (nI a))]) (st' := [.ref 0]) (μ' := μ) (by rfl) ?_
  refine zq_call hc (z_cx_ok hH (by rfl)) (gc_letTileGo d' (by omega) μ t c u1 u2 u3 c1 c2 c3 ht4 ht hc34 hc15 hu1 hu14 hw1 hu2 hu24 hw2 hu3 hu34 hw3) (by decide +kernel) (fun r9 μ9 hq => ?_)
  obtain ⟨rfl, rfl⟩ := hq
  show Z 0 4 [(0, .ref 0), (1, .int (nI s)), (2, .int so), (3, .int (nI a))] [] (lT μ t u1 u2 u3 c1 c2 c3)
  refine z_rcs0 hc hH 1 (pc' := 5) (lv' := [(0, .ref 0), (1, .int (nI s)), (2, .int so), (3, .int (nI a))]) (st' := [.ref 0]) (by rfl) ?_
  refine zq_call hc (z_cx_ok hH (by rfl)) (gc_breakHand d' (by omega) (lT μ t u1 u2 u3 c1 c2 c3)) (by decide +kernel) (fun r9 μ9 hq => ?_)
  obtain ⟨rfl, rfl⟩ := hq
  show Z 0 8 [(0, .ref 0), (1, .int (nI s)), (2, .int so), (3, .int (nI a))] [] (bkH (lT μ t u1 u2 u3 c1 c2 c3) )
  refine z_rcs0 hc hH 2 (pc' := 10) (lv' := [(0, .ref 0), (1, .int (nI s)), (2, .int so), (3, .int (nI a))]) (st' := [.int (nI s), .ref 0]) (by rfl) ?_
  refine zq_call hc (z_cx_ok hH (by rfl)) (gc_at4 d' (by omega) (bkH (lT μ t u1 u2 u3 c1 c2 c3) ) s hs4) (by decide +kernel) (fun r9 μ9 hq => ?_)
  obtain ⟨hμ9, rfl⟩ := hq
  rw [hμ9]
  clear hμ9 μ9
  show Z 0 13 [(0, .ref 0), (1, .int (nI s)), (2, .int so), (3, .int (nI a))] [.ref (18 + 8 * s)] _
  refine zq_gfr hc hH (by rfl) (ci := 1) (f := 0) (q := 19 + 8 * s) (by rfl) (sj (P := fun i => okf 79 1 0 (18 + 8 * i)) hs4 (by decide +kernel)) (by rfl) (sj (P := fun i => Nat.beq (z_gr (18 + 8 * i) 0) (19 + 8 * i)) hs4 (by decide +kernel)) ?_
  refine z_rcs0 hc hH 3 (pc' := 21) (lv' := [(4, .ref (19 + 8 * s)), (0, .ref 0), (1, .int (nI s)), (2, .int so), (3, .int (nI a))]) (st' := [.ref 0, .ref (19 + 8 * s)]) (by rfl) ?_
  refine zq_gfi hc hH (by rfl) (ci := 5) (f := 15) (by rfl) (by decide +kernel) (by rfl) ?_
  rw [bkH_o (by omega), lT_o (by omega)]
  rw [hc15]
  refine z_rcs0 hc hH 1 (pc' := 25) (lv' := [(4, .ref (19 + 8 * s)), (0, .ref 0), (1, .int (nI s)), (2, .int so), (3, .int (nI a))]) (st' := [.int 1, .int (nI c), .ref (19 + 8 * s)]) (by rfl) ?_
  refine zq_call hc (z_clv9 hH (by rfl) (by rfl) (by rfl) (by rfl) (sj (P := fun i => okr 79 2 (19 + 8 * i)) hs4 (by decide +kernel)) (by rfl) (by rfl)) (gc_put d' (by omega) (bkH (lT μ t u1 u2 u3 c1 c2 c3) ) s hs4 c hc34 1) (by decide +kernel) (fun r9 μ9 hq => ?_)
  obtain ⟨rfl, rfl⟩ := hq
  show Z 0 28 [(4, .ref (19 + 8 * s)), (0, .ref 0), (1, .int (nI s)), (2, .int so), (3, .int (nI a))] [] (pS (bkH (lT μ t u1 u2 u3 c1 c2 c3) ) s c 1)
  refine z_rcs0 hc hH 3 (pc' := 32) (lv' := [(4, .ref (19 + 8 * s)), (0, .ref 0), (1, .int (nI s)), (2, .int so), (3, .int (nI a))]) (st' := [.int (nI a), .int so, .ref (19 + 8 * s)]) (by rfl) ?_
  refine zq_call hc (z_clv9 hH (by rfl) (by rfl) (by rfl) (by rfl) (sj (P := fun i => okr 79 2 (19 + 8 * i)) hs4 (by decide +kernel)) (by rfl) (by rfl)) (gc_layE d' (by omega) (pS (bkH (lT μ t u1 u2 u3 c1 c2 c3) ) s c 1) s hs4 so a q ham hq3 (by rw [pS_g (by omega), bkH_o (by omega), lT_r (by omega)]; exact e4)) (by decide +kernel) (fun r9 μ9 hq => ?_)
  obtain ⟨rfl, rfl⟩ := hq
  show Z 0 35 [(4, .ref (19 + 8 * s)), (0, .ref 0), (1, .int (nI s)), (2, .int so), (3, .int (nI a))] [] (ldS (pS (bkH (lT μ t u1 u2 u3 c1 c2 c3) ) s c 1) s so a q)
  refine z_rcs0 hc hH 4 (pc' := 39) (lv' := [(4, .ref (19 + 8 * s)), (0, .ref 0), (1, .int (nI s)), (2, .int so), (3, .int (nI a))]) (st' := [.int ((nI s) &&& 3), .ref 0]) (by rfl) ?_
  rw [show nI s &&& 3 = nI s from by rw [and3 (by omega), Nat.mod_eq_of_lt hs4]]
  refine zq_pfi hc hH (by rfl) (ci := 5) (f := 8) (by rfl) (by decide +kernel) (by rfl) ?_
  show Z 0 42 [(4, .ref (19 + 8 * s)), (0, .ref 0), (1, .int (nI s)), (2, .int so), (3, .int (nI a))] [] (z_ui (ldS (pS (bkH (lT μ t u1 u2 u3 c1 c2 c3) ) s c 1) s so a q) 0 8 (nI s))
  refine z_rcs0 hc hH 2 (pc' := 44) (lv' := [(4, .ref (19 + 8 * s)), (0, .ref 0), (1, .int (nI s)), (2, .int so), (3, .int (nI a))]) (st' := [.int 1, .ref 0]) (by rfl) ?_
  refine zq_pfi hc hH (by rfl) (ci := 5) (f := 7) (by rfl) (by decide +kernel) (by rfl) ?_
  show Z 0 47 [(4, .ref (19 + 8 * s)), (0, .ref 0), (1, .int (nI s)), (2, .int so), (3, .int (nI a))] [] (z_ui (z_ui (ldS (pS (bkH (lT μ t u1 u2 u3 c1 c2 c3) ) s c 1) s so a q) 0 8 (nI s)) 0 7 1)
  refine z_rcs0 hc hH 2 (pc' := 49) (lv' := [(4, .ref (19 + 8 * s)), (0, .ref 0), (1, .int (nI s)), (2, .int so), (3, .int (nI a))]) (st' := [.int (-1), .ref 0]) (by rfl) ?_
  refine zq_pfi hc hH (by rfl) (ci := 5) (f := 15) (by rfl) (by decide +kernel) (by rfl) ?_
  show Z 0 52 [(4, .ref (19 + 8 * s)), (0, .ref 0), (1, .int (nI s)), (2, .int so), (3, .int (nI a))] [] (z_ui (z_ui (z_ui (ldS (pS (bkH (lT μ t u1 u2 u3 c1 c2 c3) ) s c 1) s so a q) 0 8 (nI s)) 0 7 1) 0 15 (-1))
  exact hr 0 52 _ _ _ none (by decide +kernel) (by rfl) (⟨rfl, rfl⟩)
theorem gc_makeFour (d : Nat) (hd : 5 ≤ d) (μ : zM) (s t n k : Nat) (hs : s < 2147483648) (ht4 : t < 4) (hst : s % 4 = t) (hn2 : n < 14) (hn : μ.1 2 3 = nI n) (h1 : μ.1 2 1 = 1) (hk : k < 34) (hkk : μ.1 3 (122 + n) = nI k) : z_C d mi_X6_makeFour [.ref 0, .int (nI s)] μ (fun r μ' => r = none ∧ μ' = dT1 (bkH μ ) t n k) := by
  refine z_C_in (by decide) (by omega) (fun d' Z ed hc hr => ?_)
  have hH : zH mi_X6_makeFour zt_X6_makeFour 79 6 2 := hh_X6_makeFour
  refine z_rcs hc hH 1 (pc' := 1) (lv' := [(0, .ref 0), (1, .int (nI s))]) (st' := [.ref 0]) (μ' := μ) (by rfl) ?_
  refine zq_call hc (z_cx_ok hH (by rfl)) (gc_breakHand d' (by omega) μ) (by decide +kernel) (fun r9 μ9 hq => ?_)
  obtain ⟨rfl, rfl⟩ := hq
  show Z 0 4 [(0, .ref 0), (1, .int (nI s))] [] (bkH μ )
  refine z_rcs hc hH 3 (pc' := 7) (lv' := [(0, .ref 0), (1, .int (nI s))]) (st' := [.int 1, .int (nI s), .ref 0]) (μ' := bkH μ ) (by rfl) ?_
  refine zq_call hc (z_cx_ok hH (by rfl)) (gc_drawTile1 d' (by omega) (bkH μ ) s t n k hs ht4 hst hn2 (by rw [bkH_o (by omega)]; exact hn) (by rw [bkH_o (by omega)]; exact h1) hk (by rw [bkH_r (by omega)]; exact hkk)) (by decide +kernel) (fun r9 μ9 hq => ?_)
  obtain ⟨rfl, rfl⟩ := hq
  show Z 0 10 [(0, .ref 0), (1, .int (nI s))] [] (dT1 (bkH μ ) t n k)
  exact hr 0 10 _ _ _ none (by decide +kernel) (by rfl) (⟨rfl, rfl⟩)
noncomputable def aTm (μ : zM) (j k : Nat) : zM := (bif decide ((fr μ (20 + 8 * j) (nI k)) = 0) then μ else (bif decide ((μ.1 (19 + 8 * j) 4) ≤ (0 : Int32)) then μ else (bif decide ((μ.1 (22 + 8 * j) 0) = 1) then (bif decide ((μ.1 (23 + 8 * j) 0) = (nI k)) then z_ui (z_ui (z_ui μ (22 + 8 * j) 0 2) (20 + 8 * j) k ((μ.1 (20 + 8 * j) k) - 1)) (19 + 8 * j) 5 ((μ.1 (19 + 8 * j) 5) - 1) else (bif decide ((μ.1 (19 + 8 * j) 4) ≤ (1 : Int32)) then μ else (bif decide ((μ.1 (22 + 8 * j) 1) = 1) then (bif decide ((μ.1 (23 + 8 * j) 1) = (nI k)) then z_ui (z_ui (z_ui μ (22 + 8 * j) 1 2) (20 + 8 * j) k ((μ.1 (20 + 8 * j) k) - 1)) (19 + 8 * j) 5 ((μ.1 (19 + 8 * j) 5) - 1) else (bif decide ((μ.1 (19 + 8 * j) 4) ≤ (2 : Int32)) then μ else (bif decide ((μ.1 (22 + 8 * j) 2) = 1) then (bif decide ((μ.1 (23 + 8 * j) 2) = (nI k)) then z_ui (z_ui (z_ui μ (22 + 8 * j) 2 2) (20 + 8 * j) k ((μ.1 (20 + 8 * j) k) - 1)) (19 + 8 * j) 5 ((μ.1 (19 + 8 * j) 5) - 1) else (bif decide ((μ.1 (19 + 8 * j) 4) ≤ (3 : Int32)) then μ else (bif decide ((μ.1 (22 + 8 * j) 3) = 1) then (bif decide ((μ.1 (23 + 8 * j) 3) = (nI k)) then z_ui (z_ui (z_ui μ (22 + 8 * j) 3 2) (20 + 8 * j) k ((μ.1 (20 + 8 * j) k) - 1)) (19 + 8 * j) 5 ((μ.1 (19 + 8 * j) 5) - 1) else μ) else μ))) else (bif decide ((μ.1 (19 + 8 * j) 4) ≤ (3 : Int32)) then μ else (bif decide ((μ.1 (22 + 8 * j) 3) = 1) then (bif decide ((μ.1 (23 + 8 * j) 3) = (nI k)) then z_ui (z_ui (z_ui μ (22 + 8 * j) 3 2) (20 + 8 * j) k ((μ.1 (20 + 8 * j) k) - 1)) (19 + 8 * j) 5 ((μ.1 (19 + 8 * j) 5) - 1) else μ) else μ))))) else (bif decide ((μ.1 (19 + 8 * j) 4) ≤ (2 : Int32)) then μ else (bif decide ((μ.1 (22 + 8 * j) 2) = 1) then (bif decide ((μ.1 (23 + 8 * j) 2) = (nI k)) then z_ui (z_ui (z_ui μ (22 + 8 * j) 2 2) (20 + 8 * j) k ((μ.1 (20 + 8 * j) k) - 1)) (19 + 8 * j) 5 ((μ.1 (19 + 8 * j) 5) - 1) else (bif decide ((μ.1 (19 + 8 * j) 4) ≤ (3 : Int32)) then μ else (bif decide ((μ.1 (22 + 8 * j) 3) = 1) then (bif decide ((μ.1 (23 + 8 * j) 3) = (nI k)) then z_ui (z_ui (z_ui μ (22 + 8 * j) 3 2) (20 + 8 * j) k ((μ.1 (20 + 8 * j) k) - 1)) (19 + 8 * j) 5 ((μ.1 (19 + 8 * j) 5) - 1) else μ) else μ))) else (bif decide ((μ.1 (19 + 8 * j) 4) ≤ (3 : Int32)) then μ else (bif decide ((μ.1 (22 + 8 * j) 3) = 1) then (bif decide ((μ.1 (23 + 8 * j) 3) = (nI k)) then z_ui (z_ui (z_ui μ (22 + 8 * j) 3 2) (20 + 8 * j) k ((μ.1 (20 + 8 * j) k) - 1)) (19 + 8 * j) 5 ((μ.1 (19 + 8 * j) 5) - 1) else μ) else μ))))))) else (bif decide ((μ.1 (19 + 8 * j) 4) ≤ (1 : Int32)) then μ else (bif decide ((μ.1 (22 + 8 * j) 1) = 1) then (bif decide ((μ.1 (23 + 8 * j) 1) = (nI k)) then z_ui (z_ui (z_ui μ (22 + 8 * j) 1 2) (20 + 8 * j) k ((μ.1 (20 + 8 * j) k) - 1)) (19 + 8 * j) 5 ((μ.1 (19 + 8 * j) 5) - 1) else (bif decide ((μ.1 (19 + 8 * j) 4) ≤ (2 : Int32)) then μ else (bif decide ((μ.1 (22 + 8 * j) 2) = 1) then (bif decide ((μ.1 (23 + 8 * j) 2) = (nI k)) then z_ui (z_ui (z_ui μ (22 + 8 * j) 2 2) (20 + 8 * j) k ((μ.1 (20 + 8 * j) k) - 1)) (19 + 8 * j) 5 ((μ.1 (19 + 8 * j) 5) - 1) else (bif decide ((μ.1 (19 + 8 * j) 4) ≤ (3 : Int32)) then μ else (bif decide ((μ.1 (22 + 8 * j) 3) = 1) then (bif decide ((μ.1 (23 + 8 * j) 3) = (nI k)) then z_ui (z_ui (z_ui μ (22 + 8 * j) 3 2) (20 + 8 * j) k ((μ.1 (20 + 8 * j) k) - 1)) (19 + 8 * j) 5 ((μ.1 (19 + 8 * j) 5) - 1) else μ) else μ))) else (bif decide ((μ.1 (19 + 8 * j) 4) ≤ (3 : Int32)) then μ else (bif decide ((μ.1 (22 + 8 * j) 3) = 1) then (bif decide ((μ.1 (23 + 8 * j) 3) = (nI k)) then z_ui (z_ui (z_ui μ (22 + 8 * j) 3 2) (20 + 8 * j) k ((μ.1 (20 + 8 * j) k) - 1)) (19 + 8 * j) 5 ((μ.1 (19 + 8 * j) 5) - 1) else μ) else μ))))) else (bif decide ((μ.1 (19 + 8 * j) 4) ≤ (2 : Int32)) then μ else (bif decide ((μ.1 (22 + 8 * j) 2) = 1) then (bif decide ((μ.1 (23 + 8 * j) 2) = (nI k)) then z_ui (z_ui (z_ui μ (22 + 8 * j) 2 2) (20 + 8 * j) k ((μ.1 (20 + 8 * j) k) - 1)) (19 + 8 * j) 5 ((μ.1 (19 + 8 * j) 5) - 1) else (bif decide ((μ.1 (19 + 8 * j) 4) ≤ (3 : Int32)) then μ else (bif decide ((μ.1 (22 + 8 * j) 3) = 1) then (bif decide ((μ.1 (23 + 8 * j) 3) = (nI k)) then z_ui (z_ui (z_ui μ (22 + 8 * j) 3 2) (20 + 8 * j) k ((μ.1 (20 + 8 * j) k) - 1)) (19 + 8 * j) 5 ((μ.1 (19 + 8 * j) 5) - 1) else μ) else μ))) else (bif decide ((μ.1 (19 + 8 * j) 4) ≤ (3 : Int32)) then μ else (bif decide ((μ.1 (22 + 8 * j) 3) = 1) then (bif decide ((μ.1 (23 + 8 * j) 3) = (nI k)) then z_ui (z_ui (z_ui μ (22 + 8 * j) 3 2) (20 + 8 * j) k ((μ.1 (20 + 8 * j) k) - 1)) (19 + 8 * j) 5 ((μ.1 (19 + 8 * j) 5) - 1) else μ) else μ)))))))))
theorem gc_addToThree (d : Nat) (hd : 3 ≤ d) (μ : zM) (j : Nat) (hj : j < 4) (k : Nat) (hk : k < 34) : z_C d mi_X3_addToThree [.ref (19 + 8 * j), .int (nI k)] μ (fun r μ' => r = some ((bif decide ((fr μ (20 + 8 * j) (nI k)) = 0) then .int 0 else (bif decide ((μ.1 (19 + 8 * j) 4) ≤ (0 : Int32)) then .int 0 else (bif decide ((μ.1 (22 + 8 * j) 0) = 1) then (bif decide ((μ.1 (23 + 8 * j) 0) = (nI k)) then .int 1 else (bif decide ((μ.1 (19 + 8 * j) 4) ≤ (1 : Int32)) then .int 0 else (bif decide ((μ.1 (22 + 8 * j) 1) = 1) then (bif decide ((μ.1 (23 + 8 * j) 1) = (nI k)) then .int 1 else (bif decide ((μ.1 (19 + 8 * j) 4) ≤ (2 : Int32)) then .int 0 else (bif decide ((μ.1 (22 + 8 * j) 2) = 1) then (bif decide ((μ.1 (23 + 8 * j) 2) = (nI k)) then .int 1 else (bif decide ((μ.1 (19 + 8 * j) 4) ≤ (3 : Int32)) then .int 0 else (bif decide ((μ.1 (22 + 8 * j) 3) = 1) then (bif decide ((μ.1 (23 + 8 * j) 3) = (nI k)) then .int 1 else .int 0) else .int 0))) else (bif decide ((μ.1 (19 + 8 * j) 4) ≤ (3 : Int32)) then .int 0 else (bif decide ((μ.1 (22 + 8 * j) 3) = 1) then (bif decide ((μ.1 (23 + 8 * j) 3) = (nI k)) then .int 1 else .int 0) else .int 0))))) else (bif decide ((μ.1 (19 + 8 * j) 4) ≤ (2 : Int32)) then .int 0 else (bif decide ((μ.1 (22 + 8 * j) 2) = 1) then (bif decide ((μ.1 (23 + 8 * j) 2) = (nI k)) then .int 1 else (bif decide ((μ.1 (19 + 8 * j) 4) ≤ (3 : Int32)) then .int 0 else (bif decide ((μ.1 (22 + 8 * j) 3) = 1) then (bif decide ((μ.1 (23 + 8 * j) 3) = (nI k)) then .int 1 else .int 0) else .int 0))) else (bif decide ((μ.1 (19 + 8 * j) 4) ≤ (3 : Int32)) then .int 0 else (bif decide ((μ.1 (22 + 8 * j) 3) = 1) then (bif decide ((μ.1 (23 + 8 * j) 3) = (nI k)) then .int 1 else .int 0) else .int 0))))))) else (bif decide ((μ.1 (19 + 8 * j) 4) ≤ (1 : Int32)) then .int 0 else (bif decide ((μ.1 (22 + 8 * j) 1) = 1) then (bif decide ((μ.1 (23 + 8 * j) 1) = (nI k)) then .int 1 else (bif decide ((μ.1 (19 + 8 * j) 4) ≤ (2 : Int32)) then .int 0 else (bif decide ((μ.1 (22 + 8 * j) 2) = 1) then (bif decide ((μ.1 (23 + 8 * j) 2) = (nI k)) then .int 1 else (bif decide ((μ.1 (19 + 8 * j) 4) ≤ (3 : Int32)) then .int 0 else (bif decide ((μ.1 (22 + 8 * j) 3) = 1) then (bif decide ((μ.1 (23 + 8 * j) 3) = (nI k)) then .int 1 else .int 0) else .int 0))) else (bif decide ((μ.1 (19 + 8 * j) 4) ≤ (3 : Int32)) then .int 0 else (bif decide ((μ.1 (22 + 8 * j) 3) = 1) then (bif decide ((μ.1 (23 + 8 * j) 3) = (nI k)) then .int 1 else .int 0) else .int 0))))) else (bif decide ((μ.1 (19 + 8 * j) 4) ≤ (2 : Int32)) then .int 0 else (bif decide ((μ.1 (22 + 8 * j) 2) = 1) then (bif decide ((μ.1 (23 + 8 * j) 2) = (nI k)) then .int 1 else (bif decide ((μ.1 (19 + 8 * j) 4) ≤ (3 : Int32)) then .int 0 else (bif decide ((μ.1 (22 + 8 * j) 3) = 1) then (bif decide ((μ.1 (23 + 8 * j) 3) = (nI k)) then .int 1 else .int 0) else .int 0))) else (bif decide ((μ.1 (19 + 8 * j) 4) ≤ (3 : Int32)) then .int 0 else (bif decide ((μ.1 (22 + 8 * j) 3) = 1) then (bif decide ((μ.1 (23 + 8 * j) 3) = (nI k)) then .int 1 else .int 0) else .int 0)))))))))) ∧ μ' = aTm μ j k) := by
  refine z_C_in (by decide) (by omega) (fun d' Z ed hc hr => ?_)
  have hH : zH mi_X3_addToThree zt_X3_addToThree 79 3 3 := hh_X3_addToThree
  refine z_rcs hc hH 2 (pc' := 2) (lv' := [(0, .ref (19 + 8 * j)), (1, .int (nI k))]) (st' := [.int (nI k), .ref (19 + 8 * j)]) (μ' := μ) (by rfl) ?_
  refine zq_call hc (z_clv9 hH (by rfl) (by rfl) (by rfl) (by rfl) (sj (P := fun i => okr 79 2 (19 + 8 * i)) hj (by decide +kernel)) (by rfl) (by rfl)) (gc_free d' (by omega) μ j hj (nI k)) (by decide +kernel) (fun r9 μ9 hq => ?_)
  obtain ⟨hμ9, rfl⟩ := hq
  rw [hμ9]
  clear hμ9 μ9
  show Z 0 5 [(0, .ref (19 + 8 * j)), (1, .int (nI k))] [.int (fr μ (20 + 8 * j) (nI k))] μ
  refine zq_if hc hH (by rfl) (tg := 10) (by rfl) (fun h1 => ?_) (fun h1 => ?_)
  · have h1 : (decide ((fr μ (20 + 8 * j) (nI k)) = 0)) = false := decide_eq_false (cm_ne.mp h1)
    refine z_rcs hc hH 4 (pc' := 14) (lv' := [(2, .int 0), (0, .ref (19 + 8 * j)), (1, .int (nI k))]) (st' := [.ref (19 + 8 * j), .int 0]) (μ' := μ) (by rfl) ?_
    refine zq_gfi hc hH (by rfl) (ci := 2) (f := 4) (by rfl) (sj (P := fun i => okf 79 2 4 (19 + 8 * i)) hj (by decide +kernel)) (by rfl) ?_
    refine zq_ic hc hH (by rfl) (tg := 80) (by rfl) (fun h2 => ?_) (fun h2 => ?_)
    · have h2 : (decide ((μ.1 (19 + 8 * j) 4) ≤ (0 : Int32))) = true := decide_eq_true (cm_ge.mp h2)
      refine z_rcs hc hH 1 (pc' := 81) (lv' := [(2, .int 0), (0, .ref (19 + 8 * j)), (1, .int (nI k))]) (st' := [.int 0]) (μ' := μ) (by rfl) ?_
      exact hr 0 81 _ _ _ (some (.int 0)) (by decide +kernel) (z_rx_ok hH (by rfl)) (⟨(by first | with_reducible rfl | (simp only [h1, h2, cond_true, cond_false]; done) | rfl), (by unfold aTm; simp only [h1, h2, cond_true, cond_false])⟩)
    · have h2 : (decide ((μ.1 (19 + 8 * j) 4) ≤ (0 : Int32))) = false := decide_eq_false (cn_ge.mp h2)
      refine z_rcs hc hH 4 (pc' := 26) (lv' := [(2, .int 0), (0, .ref (19 + 8 * j)), (1, .int (nI k))]) (st' := [.ref (19 + 8 * j)]) (μ' := μ) (by rfl) ?_
      refine zq_gfr hc hH (by rfl) (ci := 2) (f := 2) (q := 22 + 8 * j) (by rfl) (sj (P := fun i => okf 79 2 2 (19 + 8 * i)) hj (by decide +kernel)) (by rfl) (sj (P := fun i => Nat.beq (z_gr (19 + 8 * i) 2) (22 + 8 * i)) hj (by decide +kernel)) ?_
      refine z_rcs hc hH 1 (pc' := 30) (lv' := [(2, .int 0), (0, .ref (19 + 8 * j)), (1, .int (nI k))]) (st' := [.int 0, .ref (22 + 8 * j)]) (μ' := μ) (by rfl) ?_
      refine zq_iald hc hH (by rfl) 4 (oka_i (sj (P := fun i => oka 79 1 4 (22 + 8 * i)) hj (by decide +kernel))) (show vp_in (nI 0) 4 from vp_in_nI (by decide) (by decide)) ?_
      rw [show (0 : Int32).toNatClampNeg = 0 from rfl]
      refine z_rcs hc hH 1 (pc' := 32) (lv' := [(2, .int 0), (0, .ref (19 + 8 * j)), (1, .int (nI k))]) (st' := [.int 1, .int (μ.1 (22 + 8 * j) 0)]) (μ' := μ) (by rfl) ?_
      refine zq_ic hc hH (by rfl) (tg := 74) (by rfl) (fun h3 => ?_) (fun h3 => ?_)
      · have h3 : (decide ((μ.1 (22 + 8 * j) 0) = 1)) = false := decide_eq_false (cm_ne.mp h3)
        refine z_rcs hc hH 4 (pc' := 14) (lv' := [(2, .int 1), (0, .ref (19 + 8 * j)), (1, .int (nI k))]) (st' := [.ref (19 + 8 * j), .int 1]) (μ' := μ) (by rfl) ?_
        refine zq_gfi hc hH (by rfl) (ci := 2) (f := 4) (by rfl) (sj (P := fun i => okf 79 2 4 (19 + 8 * i)) hj (by decide +kernel)) (by rfl) ?_
        refine zq_ic hc hH (by rfl) (tg := 80) (by rfl) (fun h4 => ?_) (fun h4 => ?_)
        · have h4 : (decide ((μ.1 (19 + 8 * j) 4) ≤ (1 : Int32))) = true := decide_eq_true (cm_ge.mp h4)
          refine z_rcs hc hH 1 (pc' := 81) (lv' := [(2, .int 1), (0, .ref (19 + 8 * j)), (1, .int (nI k))]) (st' := [.int 0]) (μ' := μ) (by rfl) ?_
          exact hr 0 81 _ _ _ (some (.int 0)) (by decide +kernel) (z_rx_ok hH (by rfl)) (⟨(by first | with_reducible rfl | (simp only [h1, h2, h3, h4, cond_true, cond_false]; done) | rfl), (by unfold aTm; simp only [h1, h2, h3, h4, cond_true, cond_false])⟩)
        · have h4 : (decide ((μ.1 (19 + 8 * j) 4) ≤ (1 : Int32))) = false := decide_eq_false (cn_ge.mp h4)
          refine z_rcs hc hH 4 (pc' := 26) (lv' := [(2, .int 1), (0, .ref (19 + 8 * j)), (1, .int (nI k))]) (st' := [.ref (19 + 8 * j)]) (μ' := μ) (by rfl) ?_
          refine zq_gfr hc hH (by rfl) (ci := 2) (f := 2) (q := 22 + 8 * j) (by rfl) (sj (P := fun i => okf 79 2 2 (19 + 8 * i)) hj (by decide +kernel)) (by rfl) (sj (P := fun i => Nat.beq (z_gr (19 + 8 * i) 2) (22 + 8 * i)) hj (by decide +kernel)) ?_
          refine z_rcs hc hH 1 (pc' := 30) (lv' := [(2, .int 1), (0, .ref (19 + 8 * j)), (1, .int (nI k))]) (st' := [.int 1, .ref (22 + 8 * j)]) (μ' := μ) (by rfl) ?_
          refine zq_iald hc hH (by rfl) 4 (oka_i (sj (P := fun i => oka 79 1 4 (22 + 8 * i)) hj (by decide +kernel))) (show vp_in (nI 1) 4 from vp_in_nI (by decide) (by decide)) ?_
          rw [show (1 : Int32).toNatClampNeg = 1 from rfl]
          refine z_rcs hc hH 1 (pc' := 32) (lv' := [(2, .int 1), (0, .ref (19 + 8 * j)), (1, .int (nI k))]) (st' := [.int 1, .int (μ.1 (22 + 8 * j) 1)]) (μ' := μ) (by rfl) ?_
          refine zq_ic hc hH (by rfl) (tg := 74) (by rfl) (fun h5 => ?_) (fun h5 => ?_)
          · have h5 : (decide ((μ.1 (22 + 8 * j) 1) = 1)) = false := decide_eq_false (cm_ne.mp h5)
            refine z_rcs hc hH 4 (pc' := 14) (lv' := [(2, .int 2), (0, .ref (19 + 8 * j)), (1, .int (nI k))]) (st' := [.ref (19 + 8 * j), .int 2]) (μ' := μ) (by rfl) ?_
            refine zq_gfi hc hH (by rfl) (ci := 2) (f := 4) (by rfl) (sj (P := fun i => okf 79 2 4 (19 + 8 * i)) hj (by decide +kernel)) (by rfl) ?_
            refine zq_ic hc hH (by rfl) (tg := 80) (by rfl) (fun h6 => ?_) (fun h6 => ?_)
            · have h6 : (decide ((μ.1 (19 + 8 * j) 4) ≤ (2 : Int32))) = true := decide_eq_true (cm_ge.mp h6)
              refine z_rcs hc hH 1 (pc' := 81) (lv' := [(2, .int 2), (0, .ref (19 + 8 * j)), (1, .int (nI k))]) (st' := [.int 0]) (μ' := μ) (by rfl) ?_
              exact hr 0 81 _ _ _ (some (.int 0)) (by decide +kernel) (z_rx_ok hH (by rfl)) (⟨(by first | with_reducible rfl | (simp only [h1, h2, h3, h4, h5, h6, cond_true, cond_false]; done) | rfl), (by unfold aTm; simp only [h1, h2, h3, h4, h5, h6, cond_true, cond_false])⟩)
            · have h6 : (decide ((μ.1 (19 + 8 * j) 4) ≤ (2 : Int32))) = false := decide_eq_false (cn_ge.mp h6)
              refine z_rcs hc hH 4 (pc' := 26) (lv' := [(2, .int 2), (0, .ref (19 + 8 * j)), (1, .int (nI k))]) (st' := [.ref (19 + 8 * j)]) (μ' := μ) (by rfl) ?_
              refine zq_gfr hc hH (by rfl) (ci := 2) (f := 2) (q := 22 + 8 * j) (by rfl) (sj (P := fun i => okf 79 2 2 (19 + 8 * i)) hj (by decide +kernel)) (by rfl) (sj (P := fun i => Nat.beq (z_gr (19 + 8 * i) 2) (22 + 8 * i)) hj (by decide +kernel)) ?_
              refine z_rcs hc hH 1 (pc' := 30) (lv' := [(2, .int 2), (0, .ref (19 + 8 * j)), (1, .int (nI k))]) (st' := [.int 2, .ref (22 + 8 * j)]) (μ' := μ) (by rfl) ?_
              refine zq_iald hc hH (by rfl) 4 (oka_i (sj (P := fun i => oka 79 1 4 (22 + 8 * i)) hj (by decide +kernel))) (show vp_in (nI 2) 4 from vp_in_nI (by decide) (by decide)) ?_
              rw [show (2 : Int32).toNatClampNeg = 2 from rfl]
              refine z_rcs hc hH 1 (pc' := 32) (lv' := [(2, .int 2), (0, .ref (19 + 8 * j)), (1, .int (nI k))]) (st' := [.int 1, .int (μ.1 (22 + 8 * j) 2)]) (μ' := μ) (by rfl) ?_
              refine zq_ic hc hH (by rfl) (tg := 74) (by rfl) (fun h7 => ?_) (fun h7 => ?_)
              · have h7 : (decide ((μ.1 (22 + 8 * j) 2) = 1)) = false := decide_eq_false (cm_ne.mp h7)
                refine z_rcs hc hH 4 (pc' := 14) (lv' := [(2, .int 3), (0, .ref (19 + 8 * j)), (1, .int (nI k))]) (st' := [.ref (19 + 8 * j), .int 3]) (μ' := μ) (by rfl) ?_
                refine zq_gfi hc hH (by rfl) (ci := 2) (f := 4) (by rfl) (sj (P := fun i => okf 79 2 4 (19 + 8 * i)) hj (by decide +kernel)) (by rfl) ?_
                refine zq_ic hc hH (by rfl) (tg := 80) (by rfl) (fun h8 => ?_) (fun h8 => ?_)
                · have h8 : (decide ((μ.1 (19 + 8 * j) 4) ≤ (3 : Int32))) = true := decide_eq_true (cm_ge.mp h8)
                  refine z_rcs hc hH 1 (pc' := 81) (lv' := [(2, .int 3), (0, .ref (19 + 8 * j)), (1, .int (nI k))]) (st' := [.int 0]) (μ' := μ) (by rfl) ?_
                  exact hr 0 81 _ _ _ (some (.int 0)) (by decide +kernel) (z_rx_ok hH (by rfl)) (⟨(by first | with_reducible rfl | (simp only [h1, h2, h3, h4, h5, h6, h7, h8, cond_true, cond_false]; done) | rfl), (by unfold aTm; simp only [h1, h2, h3, h4, h5, h6, h7, h8, cond_true, cond_false])⟩)
                · have h8 : (decide ((μ.1 (19 + 8 * j) 4) ≤ (3 : Int32))) = false := decide_eq_false (cn_ge.mp h8)
                  refine z_rcs hc hH 4 (pc' := 26) (lv' := [(2, .int 3), (0, .ref (19 + 8 * j)), (1, .int (nI k))]) (st' := [.ref (19 + 8 * j)]) (μ' := μ) (by rfl) ?_
                  refine zq_gfr hc hH (by rfl) (ci := 2) (f := 2) (q := 22 + 8 * j) (by rfl) (sj (P := fun i => okf 79 2 2 (19 + 8 * i)) hj (by decide +kernel)) (by rfl) (sj (P := fun i => Nat.beq (z_gr (19 + 8 * i) 2) (22 + 8 * i)) hj (by decide +kernel)) ?_
                  refine z_rcs hc hH 1 (pc' := 30) (lv' := [(2, .int 3), (0, .ref (19 + 8 * j)), (1, .int (nI k))]) (st' := [.int 3, .ref (22 + 8 * j)]) (μ' := μ) (by rfl) ?_
                  refine zq_iald hc hH (by rfl) 4 (oka_i (sj (P := fun i => oka 79 1 4 (22 + 8 * i)) hj (by decide +kernel))) (show vp_in (nI 3) 4 from vp_in_nI (by decide) (by decide)) ?_
                  rw [show (3 : Int32).toNatClampNeg = 3 from rfl]
                  refine z_rcs hc hH 1 (pc' := 32) (lv' := [(2, .int 3), (0, .ref (19 + 8 * j)), (1, .int (nI k))]) (st' := [.int 1, .int (μ.1 (22 + 8 * j) 3)]) (μ' := μ) (by rfl) ?_
                  refine zq_ic hc hH (by rfl) (tg := 74) (by rfl) (fun h9 => ?_) (fun h9 => ?_)
                  · have h9 : (decide ((μ.1 (22 + 8 * j) 3) = 1)) = false := decide_eq_false (cm_ne.mp h9)
                    refine z_rcs hc hH 4 (pc' := 14) (lv' := [(2, .int 4), (0, .ref (19 + 8 * j)), (1, .int (nI k))]) (st' := [.ref (19 + 8 * j), .int 4]) (μ' := μ) (by rfl) ?_
                    refine zq_gfi hc hH (by rfl) (ci := 2) (f := 4) (by rfl) (sj (P := fun i => okf 79 2 4 (19 + 8 * i)) hj (by decide +kernel)) (by rfl) ?_
                    refine zq_ic hc hH (by rfl) (tg := 80) (by rfl) (fun h10 => ?_) (fun h10 => ?_)
                    · have h10 : (decide ((μ.1 (19 + 8 * j) 4) ≤ (4 : Int32))) = true := decide_eq_true (cm_ge.mp h10)
                      refine z_rcs hc hH 1 (pc' := 81) (lv' := [(2, .int 4), (0, .ref (19 + 8 * j)), (1, .int (nI k))]) (st' := [.int 0]) (μ' := μ) (by rfl) ?_
                      exact hr 0 81 _ _ _ (some (.int 0)) (by decide +kernel) (z_rx_ok hH (by rfl)) (⟨(by first | with_reducible rfl | (simp only [h1, h2, h3, h4, h5, h6, h7, h8, h9, h10, cond_true, cond_false]; done) | rfl), (by unfold aTm; simp only [h1, h2, h3, h4, h5, h6, h7, h8, h9, h10, cond_true, cond_false])⟩)
                    · have h10 : (decide ((μ.1 (19 + 8 * j) 4) ≤ (4 : Int32))) = false := decide_eq_false (cn_ge.mp h10)
                      refine z_rcs hc hH 4 (pc' := 81) (lv' := [(2, .int 4), (0, .ref (19 + 8 * j)), (1, .int (nI k))]) (st' := [.int 0]) (μ' := μ) (by rfl) ?_
                      exact hr 0 81 _ _ _ (some (.int 0)) (by decide +kernel) (z_rx_ok hH (by rfl)) (⟨(by first | with_reducible rfl | (simp only [h1, h2, h3, h4, h5, h6, h7, h8, h9, h10, cond_true, cond_false]; done) | rfl), (by unfold aTm; simp only [h1, h2, h3, h4, h5, h6, h7, h8, h9, h10, cond_true, cond_false])⟩)
                  · have h9 : (decide ((μ.1 (22 + 8 * j) 3) = 1)) = true := decide_eq_true (cn_ne.mp h9)
                    refine z_rcs hc hH 1 (pc' := 36) (lv' := [(2, .int 3), (0, .ref (19 + 8 * j)), (1, .int (nI k))]) (st' := [.ref (19 + 8 * j)]) (μ' := μ) (by rfl) ?_
                    refine zq_gfr hc hH (by rfl) (ci := 2) (f := 3) (q := 23 + 8 * j) (by rfl) (sj (P := fun i => okf 79 2 3 (19 + 8 * i)) hj (by decide +kernel)) (by rfl) (sj (P := fun i => Nat.beq (z_gr (19 + 8 * i) 3) (23 + 8 * i)) hj (by decide +kernel)) ?_
                    refine z_rcs hc hH 1 (pc' := 40) (lv' := [(2, .int 3), (0, .ref (19 + 8 * j)), (1, .int (nI k))]) (st' := [.int 3, .ref (23 + 8 * j)]) (μ' := μ) (by rfl) ?_
                    refine zq_iald hc hH (by rfl) 4 (oka_i (sj (P := fun i => oka 79 1 4 (23 + 8 * i)) hj (by decide +kernel))) (show vp_in (nI 3) 4 from vp_in_nI (by decide) (by decide)) ?_
                    rw [show (3 : Int32).toNatClampNeg = 3 from rfl]
                    refine z_rcs hc hH 1 (pc' := 42) (lv' := [(2, .int 3), (0, .ref (19 + 8 * j)), (1, .int (nI k))]) (st' := [.int (nI k), .int (μ.1 (23 + 8 * j) 3)]) (μ' := μ) (by rfl) ?_
                    refine zq_ic hc hH (by rfl) (tg := 74) (by rfl) (fun h11 => ?_) (fun h11 => ?_)
                    · have h11 : (decide ((μ.1 (23 + 8 * j) 3) = (nI k))) = false := decide_eq_false (cm_ne.mp h11)
                      refine z_rcs hc hH 4 (pc' := 14) (lv' := [(2, .int 4), (0, .ref (19 + 8 * j)), (1, .int (nI k))]) (st' := [.ref (19 + 8 * j), .int 4]) (μ' := μ) (by rfl) ?_
                      refine zq_gfi hc hH (by rfl) (ci := 2) (f := 4) (by rfl) (sj (P := fun i => okf 79 2 4 (19 + 8 * i)) hj (by decide +kernel)) (by rfl) ?_
                      refine zq_ic hc hH (by rfl) (tg := 80) (by rfl) (fun h12 => ?_) (fun h12 => ?_)
                      · have h12 : (decide ((μ.1 (19 + 8 * j) 4) ≤ (4 : Int32))) = true := decide_eq_true (cm_ge.mp h12)
                        refine z_rcs hc hH 1 (pc' := 81) (lv' := [(2, .int 4), (0, .ref (19 + 8 * j)), (1, .int (nI k))]) (st' := [.int 0]) (μ' := μ) (by rfl) ?_
                        exact hr 0 81 _ _ _ (some (.int 0)) (by decide +kernel) (z_rx_ok hH (by rfl)) (⟨(by first | with_reducible rfl | (simp only [h1, h2, h3, h4, h5, h6, h7, h8, h9, h11, h12, cond_true, cond_false]; done) | rfl), (by unfold aTm; simp only [h1, h2, h3, h4, h5, h6, h7, h8, h9, h11, h12, cond_true, cond_false])⟩)
                      · have h12 : (decide ((μ.1 (19 + 8 * j) 4) ≤ (4 : Int32))) = false := decide_eq_false (cn_ge.mp h12)
                        refine z_rcs hc hH 4 (pc' := 81) (lv' := [(2, .int 4), (0, .ref (19 + 8 * j)), (1, .int (nI k))]) (st' := [.int 0]) (μ' := μ) (by rfl) ?_
                        exact hr 0 81 _ _ _ (some (.int 0)) (by decide +kernel) (z_rx_ok hH (by rfl)) (⟨(by first | with_reducible rfl | (simp only [h1, h2, h3, h4, h5, h6, h7, h8, h9, h11, h12, cond_true, cond_false]; done) | rfl), (by unfold aTm; simp only [h1, h2, h3, h4, h5, h6, h7, h8, h9, h11, h12, cond_true, cond_false])⟩)
                    · have h11 : (decide ((μ.1 (23 + 8 * j) 3) = (nI k))) = true := decide_eq_true (cn_ne.mp h11)
                      refine z_rcs hc hH 1 (pc' := 46) (lv' := [(2, .int 3), (0, .ref (19 + 8 * j)), (1, .int (nI k))]) (st' := [.ref (19 + 8 * j)]) (μ' := μ) (by rfl) ?_
                      refine zq_gfr hc hH (by rfl) (ci := 2) (f := 2) (q := 22 + 8 * j) (by rfl) (sj (P := fun i => okf 79 2 2 (19 + 8 * i)) hj (by decide +kernel)) (by rfl) (sj (P := fun i => Nat.beq (z_gr (19 + 8 * i) 2) (22 + 8 * i)) hj (by decide +kernel)) ?_
                      refine z_rcs hc hH 2 (pc' := 51) (lv' := [(2, .int 3), (0, .ref (19 + 8 * j)), (1, .int (nI k))]) (st' := [.int 2, .int 3, .ref (22 + 8 * j)]) (μ' := μ) (by rfl) ?_
                      refine zq_iast hc hH (by rfl) 4 (oka_i (sj (P := fun i => oka 79 1 4 (22 + 8 * i)) hj (by decide +kernel))).2 (show vp_in (nI 3) 4 from vp_in_nI (by decide) (by decide)) ?_
                      rw [show (3 : Int32).toNatClampNeg = 3 from rfl]
                      show Z 0 52 [(2, .int 3), (0, .ref (19 + 8 * j)), (1, .int (nI k))] [] (z_ui μ (22 + 8 * j) 3 2)
                      refine z_rcs0 hc hH 1 (pc' := 53) (lv' := [(2, .int 3), (0, .ref (19 + 8 * j)), (1, .int (nI k))]) (st' := [.ref (19 + 8 * j)]) (by rfl) ?_
                      refine zq_gfr hc hH (by rfl) (ci := 2) (f := 0) (q := 20 + 8 * j) (by rfl) (sj (P := fun i => okf 79 2 0 (19 + 8 * i)) hj (by decide +kernel)) (by rfl) (sj (P := fun i => Nat.beq (z_gr (19 + 8 * i) 0) (20 + 8 * i)) hj (by decide +kernel)) ?_
                      refine z_rcs0 hc hH 2 (pc' := 58) (lv' := [(2, .int 3), (0, .ref (19 + 8 * j)), (1, .int (nI k))]) (st' := [.int (nI k), .ref (20 + 8 * j), .int (nI k), .ref (20 + 8 * j)]) (by rfl) ?_
                      refine zq_iald hc hH (by rfl) 34 (oka_i (sj (P := fun i => oka 79 1 34 (20 + 8 * i)) hj (by decide +kernel))) (vp_in_nI (by omega) (by decide)) ?_
                      rw [nI_clamp (by omega)]
                      refine zV1 (Z := Z) (ui_o (by first | decide | omega)) ?_
                      refine z_rcs0 hc hH 2 (pc' := 61) (lv' := [(2, .int 3), (0, .ref (19 + 8 * j)), (1, .int (nI k))]) (st' := [.int ((μ.1 (20 + 8 * j) k) - 1), .int (nI k), .ref (20 + 8 * j)]) (by rfl) ?_
                      refine zq_iast hc hH (by rfl) 34 (oka_i (sj (P := fun i => oka 79 1 34 (20 + 8 * i)) hj (by decide +kernel))).2 (vp_in_nI (by omega) (by decide)) ?_
                      rw [nI_clamp (by omega)]
                      show Z 0 62 [(2, .int 3), (0, .ref (19 + 8 * j)), (1, .int (nI k))] [] (z_ui (z_ui μ (22 + 8 * j) 3 2) (20 + 8 * j) k ((μ.1 (20 + 8 * j) k) - 1))
                      refine z_rcs0 hc hH 2 (pc' := 64) (lv' := [(2, .int 3), (0, .ref (19 + 8 * j)), (1, .int (nI k))]) (st' := [.ref (19 + 8 * j), .ref (19 + 8 * j)]) (by rfl) ?_
                      refine zq_gfi hc hH (by rfl) (ci := 2) (f := 5) (by rfl) (sj (P := fun i => okf 79 2 5 (19 + 8 * i)) hj (by decide +kernel)) (by rfl) ?_
                      refine zV1 (Z := Z) (Eq.trans (ui_o (by first | decide | omega)) (ui_o (by first | decide | omega))) ?_
                      refine z_rcs0 hc hH 2 (pc' := 69) (lv' := [(2, .int 3), (0, .ref (19 + 8 * j)), (1, .int (nI k))]) (st' := [.int ((μ.1 (19 + 8 * j) 5) - 1), .ref (19 + 8 * j)]) (by rfl) ?_
                      refine zq_pfi hc hH (by rfl) (ci := 2) (f := 5) (by rfl) (sj (P := fun i => okf 79 2 5 (19 + 8 * i)) hj (by decide +kernel)) (by rfl) ?_
                      show Z 0 72 [(2, .int 3), (0, .ref (19 + 8 * j)), (1, .int (nI k))] [] (z_ui (z_ui (z_ui μ (22 + 8 * j) 3 2) (20 + 8 * j) k ((μ.1 (20 + 8 * j) k) - 1)) (19 + 8 * j) 5 ((μ.1 (19 + 8 * j) 5) - 1))
                      refine z_rcs0 hc hH 1 (pc' := 73) (lv' := [(2, .int 3), (0, .ref (19 + 8 * j)), (1, .int (nI k))]) (st' := [.int 1]) (by rfl) ?_
                      exact hr 0 73 _ _ _ (some (.int 1)) (by decide +kernel) (z_rx_ok hH (by rfl)) (⟨(by first | with_reducible rfl | (simp only [h1, h2, h3, h4, h5, h6, h7, h8, h9, h11, cond_true, cond_false]; done) | rfl), (by unfold aTm; simp only [h1, h2, h3, h4, h5, h6, h7, h8, h9, h11, cond_true, cond_false])⟩)
              · have h7 : (decide ((μ.1 (22 + 8 * j) 2) = 1)) = true := decide_eq_true (cn_ne.mp h7)
                refine z_rcs hc hH 1 (pc' := 36) (lv' := [(2, .int 2), (0, .ref (19 + 8 * j)), (1, .int (nI k))]) (st' := [.ref (19 + 8 * j)]) (μ' := μ) (by rfl) ?_
                refine zq_gfr hc hH (by rfl) (ci := 2) (f := 3) (q := 23 + 8 * j) (by rfl) (sj (P := fun i => okf 79 2 3 (19 + 8 * i)) hj (by decide +kernel)) (by rfl) (sj (P := fun i => Nat.beq (z_gr (19 + 8 * i) 3) (23 + 8 * i)) hj (by decide +kernel)) ?_
                refine z_rcs hc hH 1 (pc' := 40) (lv' := [(2, .int 2), (0, .ref (19 + 8 * j)), (1, .int (nI k))]) (st' := [.int 2, .ref (23 + 8 * j)]) (μ' := μ) (by rfl) ?_
                refine zq_iald hc hH (by rfl) 4 (oka_i (sj (P := fun i => oka 79 1 4 (23 + 8 * i)) hj (by decide +kernel))) (show vp_in (nI 2) 4 from vp_in_nI (by decide) (by decide)) ?_
                rw [show (2 : Int32).toNatClampNeg = 2 from rfl]
                refine z_rcs hc hH 1 (pc' := 42) (lv' := [(2, .int 2), (0, .ref (19 + 8 * j)), (1, .int (nI k))]) (st' := [.int (nI k), .int (μ.1 (23 + 8 * j) 2)]) (μ' := μ) (by rfl) ?_
                refine zq_ic hc hH (by rfl) (tg := 74) (by rfl) (fun h13 => ?_) (fun h13 => ?_)
                · have h13 : (decide ((μ.1 (23 + 8 * j) 2) = (nI k))) = false := decide_eq_false (cm_ne.mp h13)
                  refine z_rcs hc hH 4 (pc' := 14) (lv' := [(2, .int 3), (0, .ref (19 + 8 * j)), (1, .int (nI k))]) (st' := [.ref (19 + 8 * j), .int 3]) (μ' := μ) (by rfl) ?_
                  refine zq_gfi hc hH (by rfl) (ci := 2) (f := 4) (by rfl) (sj (P := fun i => okf 79 2 4 (19 + 8 * i)) hj (by decide +kernel)) (by rfl) ?_
                  refine zq_ic hc hH (by rfl) (tg := 80) (by rfl) (fun h14 => ?_) (fun h14 => ?_)
                  · have h14 : (decide ((μ.1 (19 + 8 * j) 4) ≤ (3 : Int32))) = true := decide_eq_true (cm_ge.mp h14)
                    refine z_rcs hc hH 1 (pc' := 81) (lv' := [(2, .int 3), (0, .ref (19 + 8 * j)), (1, .int (nI k))]) (st' := [.int 0]) (μ' := μ) (by rfl) ?_
                    exact hr 0 81 _ _ _ (some (.int 0)) (by decide +kernel) (z_rx_ok hH (by rfl)) (⟨(by first | with_reducible rfl | (simp only [h1, h2, h3, h4, h5, h6, h7, h13, h14, cond_true, cond_false]; done) | rfl), (by unfold aTm; simp only [h1, h2, h3, h4, h5, h6, h7, h13, h14, cond_true, cond_false])⟩)
                  · have h14 : (decide ((μ.1 (19 + 8 * j) 4) ≤ (3 : Int32))) = false := decide_eq_false (cn_ge.mp h14)
                    refine z_rcs hc hH 4 (pc' := 26) (lv' := [(2, .int 3), (0, .ref (19 + 8 * j)), (1, .int (nI k))]) (st' := [.ref (19 + 8 * j)]) (μ' := μ) (by rfl) ?_
                    refine zq_gfr hc hH (by rfl) (ci := 2) (f := 2) (q := 22 + 8 * j) (by rfl) (sj (P := fun i => okf 79 2 2 (19 + 8 * i)) hj (by decide +kernel)) (by rfl) (sj (P := fun i => Nat.beq (z_gr (19 + 8 * i) 2) (22 + 8 * i)) hj (by decide +kernel)) ?_
                    refine z_rcs hc hH 1 (pc' := 30) (lv' := [(2, .int 3), (0, .ref (19 + 8 * j)), (1, .int (nI k))]) (st' := [.int 3, .ref (22 + 8 * j)]) (μ' := μ) (by rfl) ?_
                    refine zq_iald hc hH (by rfl) 4 (oka_i (sj (P := fun i => oka 79 1 4 (22 + 8 * i)) hj (by decide +kernel))) (show vp_in (nI 3) 4 from vp_in_nI (by decide) (by decide)) ?_
                    rw [show (3 : Int32).toNatClampNeg = 3 from rfl]
                    refine z_rcs hc hH 1 (pc' := 32) (lv' := [(2, .int 3), (0, .ref (19 + 8 * j)), (1, .int (nI k))]) (st' := [.int 1, .int (μ.1 (22 + 8 * j) 3)]) (μ' := μ) (by rfl) ?_
                    refine zq_ic hc hH (by rfl) (tg := 74) (by rfl) (fun h15 => ?_) (fun h15 => ?_)
                    · have h15 : (decide ((μ.1 (22 + 8 * j) 3) = 1)) = false := decide_eq_false (cm_ne.mp h15)
                      refine z_rcs hc hH 4 (pc' := 14) (lv' := [(2, .int 4), (0, .ref (19 + 8 * j)), (1, .int (nI k))]) (st' := [.ref (19 + 8 * j), .int 4]) (μ' := μ) (by rfl) ?_
                      refine zq_gfi hc hH (by rfl) (ci := 2) (f := 4) (by rfl) (sj (P := fun i => okf 79 2 4 (19 + 8 * i)) hj (by decide +kernel)) (by rfl) ?_
                      refine zq_ic hc hH (by rfl) (tg := 80) (by rfl) (fun h16 => ?_) (fun h16 => ?_)
                      · have h16 : (decide ((μ.1 (19 + 8 * j) 4) ≤ (4 : Int32))) = true := decide_eq_true (cm_ge.mp h16)
                        refine z_rcs hc hH 1 (pc' := 81) (lv' := [(2, .int 4), (0, .ref (19 + 8 * j)), (1, .int (nI k))]) (st' := [.int 0]) (μ' := μ) (by rfl) ?_
                        exact hr 0 81 _ _ _ (some (.int 0)) (by decide +kernel) (z_rx_ok hH (by rfl)) (⟨(by first | with_reducible rfl | (simp only [h1, h2, h3, h4, h5, h6, h7, h13, h14, h15, h16, cond_true, cond_false]; done) | rfl), (by unfold aTm; simp only [h1, h2, h3, h4, h5, h6, h7, h13, h14, h15, h16, cond_true, cond_false])⟩)
                      · have h16 : (decide ((μ.1 (19 + 8 * j) 4) ≤ (4 : Int32))) = false := decide_eq_false (cn_ge.mp h16)
                        refine z_rcs hc hH 4 (pc' := 81) (lv' := [(2, .int 4), (0, .ref (19 + 8 * j)), (1, .int (nI k))]) (st' := [.int 0]) (μ' := μ) (by rfl) ?_
                        exact hr 0 81 _ _ _ (some (.int 0)) (by decide +kernel) (z_rx_ok hH (by rfl)) (⟨(by first | with_reducible rfl | (simp only [h1, h2, h3, h4, h5, h6, h7, h13, h14, h15, h16, cond_true, cond_false]; done) | rfl), (by unfold aTm; simp only [h1, h2, h3, h4, h5, h6, h7, h13, h14, h15, h16, cond_true, cond_false])⟩)
                    · have h15 : (decide ((μ.1 (22 + 8 * j) 3) = 1)) = true := decide_eq_true (cn_ne.mp h15)
                      refine z_rcs hc hH 1 (pc' := 36) (lv' := [(2, .int 3), (0, .ref (19 + 8 * j)), (1, .int (nI k))]) (st' := [.ref (19 + 8 * j)]) (μ' := μ) (by rfl) ?_
                      refine zq_gfr hc hH (by rfl) (ci := 2) (f := 3) (q := 23 + 8 * j) (by rfl) (sj (P := fun i => okf 79 2 3 (19 + 8 * i)) hj (by decide +kernel)) (by rfl) (sj (P := fun i => Nat.beq (z_gr (19 + 8 * i) 3) (23 + 8 * i)) hj (by decide +kernel)) ?_
                      refine z_rcs hc hH 1 (pc' := 40) (lv' := [(2, .int 3), (0, .ref (19 + 8 * j)), (1, .int (nI k))]) (st' := [.int 3, .ref (23 + 8 * j)]) (μ' := μ) (by rfl) ?_
                      refine zq_iald hc hH (by rfl) 4 (oka_i (sj (P := fun i => oka 79 1 4 (23 + 8 * i)) hj (by decide +kernel))) (show vp_in (nI 3) 4 from vp_in_nI (by decide) (by decide)) ?_
                      rw [show (3 : Int32).toNatClampNeg = 3 from rfl]
                      refine z_rcs hc hH 1 (pc' := 42) (lv' := [(2, .int 3), (0, .ref (19 + 8 * j)), (1, .int (nI k))]) (st' := [.int (nI k), .int (μ.1 (23 + 8 * j) 3)]) (μ' := μ) (by rfl) ?_
                      refine zq_ic hc hH (by rfl) (tg := 74) (by rfl) (fun h17 => ?_) (fun h17 => ?_)
                      · have h17 : (decide ((μ.1 (23 + 8 * j) 3) = (nI k))) = false := decide_eq_false (cm_ne.mp h17)
                        refine z_rcs hc hH 4 (pc' := 14) (lv' := [(2, .int 4), (0, .ref (19 + 8 * j)), (1, .int (nI k))]) (st' := [.ref (19 + 8 * j), .int 4]) (μ' := μ) (by rfl) ?_
                        refine zq_gfi hc hH (by rfl) (ci := 2) (f := 4) (by rfl) (sj (P := fun i => okf 79 2 4 (19 + 8 * i)) hj (by decide +kernel)) (by rfl) ?_
                        refine zq_ic hc hH (by rfl) (tg := 80) (by rfl) (fun h18 => ?_) (fun h18 => ?_)
                        · have h18 : (decide ((μ.1 (19 + 8 * j) 4) ≤ (4 : Int32))) = true := decide_eq_true (cm_ge.mp h18)
                          refine z_rcs hc hH 1 (pc' := 81) (lv' := [(2, .int 4), (0, .ref (19 + 8 * j)), (1, .int (nI k))]) (st' := [.int 0]) (μ' := μ) (by rfl) ?_
                          exact hr 0 81 _ _ _ (some (.int 0)) (by decide +kernel) (z_rx_ok hH (by rfl)) (⟨(by first | with_reducible rfl | (simp only [h1, h2, h3, h4, h5, h6, h7, h13, h14, h15, h17, h18, cond_true, cond_false]; done) | rfl), (by unfold aTm; simp only [h1, h2, h3, h4, h5, h6, h7, h13, h14, h15, h17, h18, cond_true, cond_false])⟩)
                        · have h18 : (decide ((μ.1 (19 + 8 * j) 4) ≤ (4 : Int32))) = false := decide_eq_false (cn_ge.mp h18)
                          refine z_rcs hc hH 4 (pc' := 81) (lv' := [(2, .int 4), (0, .ref (19 + 8 * j)), (1, .int (nI k))]) (st' := [.int 0]) (μ' := μ) (by rfl) ?_
                          exact hr 0 81 _ _ _ (some (.int 0)) (by decide +kernel) (z_rx_ok hH (by rfl)) (⟨(by first | with_reducible rfl | (simp only [h1, h2, h3, h4, h5, h6, h7, h13, h14, h15, h17, h18, cond_true, cond_false]; done) | rfl), (by unfold aTm; simp only [h1, h2, h3, h4, h5, h6, h7, h13, h14, h15, h17, h18, cond_true, cond_false])⟩)
                      · have h17 : (decide ((μ.1 (23 + 8 * j) 3) = (nI k))) = true := decide_eq_true (cn_ne.mp h17)
                        refine z_rcs hc hH 1 (pc' := 46) (lv' := [(2, .int 3), (0, .ref (19 + 8 * j)), (1, .int (nI k))]) (st' := [.ref (19 + 8 * j)]) (μ' := μ) (by rfl) ?_
                        refine zq_gfr hc hH (by rfl) (ci := 2) (f := 2) (q := 22 + 8 * j) (by rfl) (sj (P := fun i => okf 79 2 2 (19 + 8 * i)) hj (by decide +kernel)) (by rfl) (sj (P := fun i => Nat.beq (z_gr (19 + 8 * i) 2) (22 + 8 * i)) hj (by decide +kernel)) ?_
                        refine z_rcs hc hH 2 (pc' := 51) (lv' := [(2, .int 3), (0, .ref (19 + 8 * j)), (1, .int (nI k))]) (st' := [.int 2, .int 3, .ref (22 + 8 * j)]) (μ' := μ) (by rfl) ?_
                        refine zq_iast hc hH (by rfl) 4 (oka_i (sj (P := fun i => oka 79 1 4 (22 + 8 * i)) hj (by decide +kernel))).2 (show vp_in (nI 3) 4 from vp_in_nI (by decide) (by decide)) ?_
                        rw [show (3 : Int32).toNatClampNeg = 3 from rfl]
                        show Z 0 52 [(2, .int 3), (0, .ref (19 + 8 * j)), (1, .int (nI k))] [] (z_ui μ (22 + 8 * j) 3 2)
                        refine z_rcs0 hc hH 1 (pc' := 53) (lv' := [(2, .int 3), (0, .ref (19 + 8 * j)), (1, .int (nI k))]) (st' := [.ref (19 + 8 * j)]) (by rfl) ?_
                        refine zq_gfr hc hH (by rfl) (ci := 2) (f := 0) (q := 20 + 8 * j) (by rfl) (sj (P := fun i => okf 79 2 0 (19 + 8 * i)) hj (by decide +kernel)) (by rfl) (sj (P := fun i => Nat.beq (z_gr (19 + 8 * i) 0) (20 + 8 * i)) hj (by decide +kernel)) ?_
                        refine z_rcs0 hc hH 2 (pc' := 58) (lv' := [(2, .int 3), (0, .ref (19 + 8 * j)), (1, .int (nI k))]) (st' := [.int (nI k), .ref (20 + 8 * j), .int (nI k), .ref (20 + 8 * j)]) (by rfl) ?_
                        refine zq_iald hc hH (by rfl) 34 (oka_i (sj (P := fun i => oka 79 1 34 (20 + 8 * i)) hj (by decide +kernel))) (vp_in_nI (by omega) (by decide)) ?_
                        rw [nI_clamp (by omega)]
                        refine zV1 (Z := Z) (ui_o (by first | decide | omega)) ?_
                        refine z_rcs0 hc hH 2 (pc' := 61) (lv' := [(2, .int 3), (0, .ref (19 + 8 * j)), (1, .int (nI k))]) (st' := [.int ((μ.1 (20 + 8 * j) k) - 1), .int (nI k), .ref (20 + 8 * j)]) (by rfl) ?_
                        refine zq_iast hc hH (by rfl) 34 (oka_i (sj (P := fun i => oka 79 1 34 (20 + 8 * i)) hj (by decide +kernel))).2 (vp_in_nI (by omega) (by decide)) ?_
                        rw [nI_clamp (by omega)]
                        show Z 0 62 [(2, .int 3), (0, .ref (19 + 8 * j)), (1, .int (nI k))] [] (z_ui (z_ui μ (22 + 8 * j) 3 2) (20 + 8 * j) k ((μ.1 (20 + 8 * j) k) - 1))
                        refine z_rcs0 hc hH 2 (pc' := 64) (lv' := [(2, .int 3), (0, .ref (19 + 8 * j)), (1, .int (nI k))]) (st' := [.ref (19 + 8 * j), .ref (19 + 8 * j)]) (by rfl) ?_
                        refine zq_gfi hc hH (by rfl) (ci := 2) (f := 5) (by rfl) (sj (P := fun i => okf 79 2 5 (19 + 8 * i)) hj (by decide +kernel)) (by rfl) ?_
                        refine zV1 (Z := Z) (Eq.trans (ui_o (by first | decide | omega)) (ui_o (by first | decide | omega))) ?_
                        refine z_rcs0 hc hH 2 (pc' := 69) (lv' := [(2, .int 3), (0, .ref (19 + 8 * j)), (1, .int (nI k))]) (st' := [.int ((μ.1 (19 + 8 * j) 5) - 1), .ref (19 + 8 * j)]) (by rfl) ?_
                        refine zq_pfi hc hH (by rfl) (ci := 2) (f := 5) (by rfl) (sj (P := fun i => okf 79 2 5 (19 + 8 * i)) hj (by decide +kernel)) (by rfl) ?_
                        show Z 0 72 [(2, .int 3), (0, .ref (19 + 8 * j)), (1, .int (nI k))] [] (z_ui (z_ui (z_ui μ (22 + 8 * j) 3 2) (20 + 8 * j) k ((μ.1 (20 + 8 * j) k) - 1)) (19 + 8 * j) 5 ((μ.1 (19 + 8 * j) 5) - 1))
                        refine z_rcs0 hc hH 1 (pc' := 73) (lv' := [(2, .int 3), (0, .ref (19 + 8 * j)), (1, .int (nI k))]) (st' := [.int 1]) (by rfl) ?_
                        exact hr 0 73 _ _ _ (some (.int 1)) (by decide +kernel) (z_rx_ok hH (by rfl)) (⟨(by first | with_reducible rfl | (simp only [h1, h2, h3, h4, h5, h6, h7, h13, h14, h15, h17, cond_true, cond_false]; done) | rfl), (by unfold aTm; simp only [h1, h2, h3, h4, h5, h6, h7, h13, h14, h15, h17, cond_true, cond_false])⟩)
                · have h13 : (decide ((μ.1 (23 + 8 * j) 2) = (nI k))) = true := decide_eq_true (cn_ne.mp h13)
                  refine z_rcs hc hH 1 (pc' := 46) (lv' := [(2, .int 2), (0, .ref (19 + 8 * j)), (1, .int (nI k))]) (st' := [.ref (19 + 8 * j)]) (μ' := μ) (by rfl) ?_
                  refine zq_gfr hc hH (by rfl) (ci := 2) (f := 2) (q := 22 + 8 * j) (by rfl) (sj (P := fun i => okf 79 2 2 (19 + 8 * i)) hj (by decide +kernel)) (by rfl) (sj (P := fun i => Nat.beq (z_gr (19 + 8 * i) 2) (22 + 8 * i)) hj (by decide +kernel)) ?_
                  refine z_rcs hc hH 2 (pc' := 51) (lv' := [(2, .int 2), (0, .ref (19 + 8 * j)), (1, .int (nI k))]) (st' := [.int 2, .int 2, .ref (22 + 8 * j)]) (μ' := μ) (by rfl) ?_
                  refine zq_iast hc hH (by rfl) 4 (oka_i (sj (P := fun i => oka 79 1 4 (22 + 8 * i)) hj (by decide +kernel))).2 (show vp_in (nI 2) 4 from vp_in_nI (by decide) (by decide)) ?_
                  rw [show (2 : Int32).toNatClampNeg = 2 from rfl]
                  show Z 0 52 [(2, .int 2), (0, .ref (19 + 8 * j)), (1, .int (nI k))] [] (z_ui μ (22 + 8 * j) 2 2)
                  refine z_rcs0 hc hH 1 (pc' := 53) (lv' := [(2, .int 2), (0, .ref (19 + 8 * j)), (1, .int (nI k))]) (st' := [.ref (19 + 8 * j)]) (by rfl) ?_
                  refine zq_gfr hc hH (by rfl) (ci := 2) (f := 0) (q := 20 + 8 * j) (by rfl) (sj (P := fun i => okf 79 2 0 (19 + 8 * i)) hj (by decide +kernel)) (by rfl) (sj (P := fun i => Nat.beq (z_gr (19 + 8 * i) 0) (20 + 8 * i)) hj (by decide +kernel)) ?_
                  refine z_rcs0 hc hH 2 (pc' := 58) (lv' := [(2, .int 2), (0, .ref (19 + 8 * j)), (1, .int (nI k))]) (st' := [.int (nI k), .ref (20 + 8 * j), .int (nI k), .ref (20 + 8 * j)]) (by rfl) ?_
                  refine zq_iald hc hH (by rfl) 34 (oka_i (sj (P := fun i => oka 79 1 34 (20 + 8 * i)) hj (by decide +kernel))) (vp_in_nI (by omega) (by decide)) ?_
                  rw [nI_clamp (by omega)]
                  refine zV1 (Z := Z) (ui_o (by first | decide | omega)) ?_
                  refine z_rcs0 hc hH 2 (pc' := 61) (lv' := [(2, .int 2), (0, .ref (19 + 8 * j)), (1, .int (nI k))]) (st' := [.int ((μ.1 (20 + 8 * j) k) - 1), .int (nI k), .ref (20 + 8 * j)]) (by rfl) ?_
                  refine zq_iast hc hH (by rfl) 34 (oka_i (sj (P := fun i => oka 79 1 34 (20 + 8 * i)) hj (by decide +kernel))).2 (vp_in_nI (by omega) (by decide)) ?_
                  rw [nI_clamp (by omega)]
                  show Z 0 62 [(2, .int 2), (0, .ref (19 + 8 * j)), (1, .int (nI k))] [] (z_ui (z_ui μ (22 + 8 * j) 2 2) (20 + 8 * j) k ((μ.1 (20 + 8 * j) k) - 1))
                  refine z_rcs0 hc hH 2 (pc' := 64) (lv' := [(2, .int 2), (0, .ref (19 + 8 * j)), (1, .int (nI k))]) (st' := [.ref (19 + 8 * j), .ref (19 + 8 * j)]) (by rfl) ?_
                  refine zq_gfi hc hH (by rfl) (ci := 2) (f := 5) (by rfl) (sj (P := fun i => okf 79 2 5 (19 + 8 * i)) hj (by decide +kernel)) (by rfl) ?_
                  refine zV1 (Z := Z) (Eq.trans (ui_o (by first | decide | omega)) (ui_o (by first | decide | omega))) ?_
                  refine z_rcs0 hc hH 2 (pc' := 69) (lv' := [(2, .int 2), (0, .ref (19 + 8 * j)), (1, .int (nI k))]) (st' := [.int ((μ.1 (19 + 8 * j) 5) - 1), .ref (19 + 8 * j)]) (by rfl) ?_
                  refine zq_pfi hc hH (by rfl) (ci := 2) (f := 5) (by rfl) (sj (P := fun i => okf 79 2 5 (19 + 8 * i)) hj (by decide +kernel)) (by rfl) ?_
                  show Z 0 72 [(2, .int 2), (0, .ref (19 + 8 * j)), (1, .int (nI k))] [] (z_ui (z_ui (z_ui μ (22 + 8 * j) 2 2) (20 + 8 * j) k ((μ.1 (20 + 8 * j) k) - 1)) (19 + 8 * j) 5 ((μ.1 (19 + 8 * j) 5) - 1))
                  refine z_rcs0 hc hH 1 (pc' := 73) (lv' := [(2, .int 2), (0, .ref (19 + 8 * j)), (1, .int (nI k))]) (st' := [.int 1]) (by rfl) ?_
                  exact hr 0 73 _ _ _ (some (.int 1)) (by decide +kernel) (z_rx_ok hH (by rfl)) (⟨(by first | with_reducible rfl | (simp only [h1, h2, h3, h4, h5, h6, h7, h13, cond_true, cond_false]; done) | rfl), (by unfold aTm; simp only [h1, h2, h3, h4, h5, h6, h7, h13, cond_true, cond_false])⟩)
          · have h5 : (decide ((μ.1 (22 + 8 * j) 1) = 1)) = true := decide_eq_true (cn_ne.mp h5)
            refine z_rcs hc hH 1 (pc' := 36) (lv' := [(2, .int 1), (0, .ref (19 + 8 * j)), (1, .int (nI k))]) (st' := [.ref (19 + 8 * j)]) (μ' := μ) (by rfl) ?_
            refine zq_gfr hc hH (by rfl) (ci := 2) (f := 3) (q := 23 + 8 * j) (by rfl) (sj (P := fun i => okf 79 2 3 (19 + 8 * i)) hj (by decide +kernel)) (by rfl) (sj (P := fun i => Nat.beq (z_gr (19 + 8 * i) 3) (23 + 8 * i)) hj (by decide +kernel)) ?_
            refine z_rcs hc hH 1 (pc' := 40) (lv' := [(2, .int 1), (0, .ref (19 + 8 * j)), (1, .int (nI k))]) (st' := [.int 1, .ref (23 + 8 * j)]) (μ' := μ) (by rfl) ?_
            refine zq_iald hc hH (by rfl) 4 (oka_i (sj (P := fun i => oka 79 1 4 (23 + 8 * i)) hj (by decide +kernel))) (show vp_in (nI 1) 4 from vp_in_nI (by decide) (by decide)) ?_
            rw [show (1 : Int32).toNatClampNeg = 1 from rfl]
            refine z_rcs hc hH 1 (pc' := 42) (lv' := [(2, .int 1), (0, .ref (19 + 8 * j)), (1, .int (nI k))]) (st' := [.int (nI k), .int (μ.1 (23 + 8 * j) 1)]) (μ' := μ) (by rfl) ?_
            refine zq_ic hc hH (by rfl) (tg := 74) (by rfl) (fun h19 => ?_) (fun h19 => ?_)
            · have h19 : (decide ((μ.1 (23 + 8 * j) 1) = (nI k))) = false := decide_eq_false (cm_ne.mp h19)
              refine z_rcs hc hH 4 (pc' := 14) (lv' := [(2, .int 2), (0, .ref (19 + 8 * j)), (1, .int (nI k))]) (st' := [.ref (19 + 8 * j), .int 2]) (μ' := μ) (by rfl) ?_
              refine zq_gfi hc hH (by rfl) (ci := 2) (f := 4) (by rfl) (sj (P := fun i => okf 79 2 4 (19 + 8 * i)) hj (by decide +kernel)) (by rfl) ?_
              refine zq_ic hc hH (by rfl) (tg := 80) (by rfl) (fun h20 => ?_) (fun h20 => ?_)
              · have h20 : (decide ((μ.1 (19 + 8 * j) 4) ≤ (2 : Int32))) = true := decide_eq_true (cm_ge.mp h20)
                refine z_rcs hc hH 1 (pc' := 81) (lv' := [(2, .int 2), (0, .ref (19 + 8 * j)), (1, .int (nI k))]) (st' := [.int 0]) (μ' := μ) (by rfl) ?_
                exact hr 0 81 _ _ _ (some (.int 0)) (by decide +kernel) (z_rx_ok hH (by rfl)) (⟨(by first | with_reducible rfl | (simp only [h1, h2, h3, h4, h5, h19, h20, cond_true, cond_false]; done) | rfl), (by unfold aTm; simp only [h1, h2, h3, h4, h5, h19, h20, cond_true, cond_false])⟩)
              · have h20 : (decide ((μ.1 (19 + 8 * j) 4) ≤ (2 : Int32))) = false := decide_eq_false (cn_ge.mp h20)
                refine z_rcs hc hH 4 (pc' := 26) (lv' := [(2, .int 2), (0, .ref (19 + 8 * j)), (1, .int (nI k))]) (st' := [.ref (19 + 8 * j)]) (μ' := μ) (by rfl) ?_
                refine zq_gfr hc hH (by rfl) (ci := 2) (f := 2) (q := 22 + 8 * j) (by rfl) (sj (P := fun i => okf 79 2 2 (19 + 8 * i)) hj (by decide +kernel)) (by rfl) (sj (P := fun i => Nat.beq (z_gr (19 + 8 * i) 2) (22 + 8 * i)) hj (by decide +kernel)) ?_
                refine z_rcs hc hH 1 (pc' := 30) (lv' := [(2, .int 2), (0, .ref (19 + 8 * j)), (1, .int (nI k))]) (st' := [.int 2, .ref (22 + 8 * j)]) (μ' := μ) (by rfl) ?_
                refine zq_iald hc hH (by rfl) 4 (oka_i (sj (P := fun i => oka 79 1 4 (22 + 8 * i)) hj (by decide +kernel))) (show vp_in (nI 2) 4 from vp_in_nI (by decide) (by decide)) ?_
                rw [show (2 : Int32).toNatClampNeg = 2 from rfl]
                refine z_rcs hc hH 1 (pc' := 32) (lv' := [(2, .int 2), (0, .ref (19 + 8 * j)), (1, .int (nI k))]) (st' := [.int 1, .int (μ.1 (22 + 8 * j) 2)]) (μ' := μ) (by rfl) ?_
                refine zq_ic hc hH (by rfl) (tg := 74) (by rfl) (fun h21 => ?_) (fun h21 => ?_)
                · have h21 : (decide ((μ.1 (22 + 8 * j) 2) = 1)) = false := decide_eq_false (cm_ne.mp h21)
                  refine z_rcs hc hH 4 (pc' := 14) (lv' := [(2, .int 3), (0, .ref (19 + 8 * j)), (1, .int (nI k))]) (st' := [.ref (19 + 8 * j), .int 3]) (μ' := μ) (by rfl) ?_
                  refine zq_gfi hc hH (by rfl) (ci := 2) (f := 4) (by rfl) (sj (P := fun i => okf 79 2 4 (19 + 8 * i)) hj (by decide +kernel)) (by rfl) ?_
                  refine zq_ic hc hH (by rfl) (tg := 80) (by rfl) (fun h22 => ?_) (fun h22 => ?_)
                  · have h22 : (decide ((μ.1 (19 + 8 * j) 4) ≤ (3 : Int32))) = true := decide_eq_true (cm_ge.mp h22)
                    refine z_rcs hc hH 1 (pc' := 81) (lv' := [(2, .int 3), (0, .ref (19 + 8 * j)), (1, .int (nI k))]) (st' := [.int 0]) (μ' := μ) (by rfl) ?_
                    exact hr 0 81 _ _ _ (some (.int 0)) (by decide +kernel) (z_rx_ok hH (by rfl)) (⟨(by first | with_reducible rfl | (simp only [h1, h2, h3, h4, h5, h19, h20, h21, h22, cond_true, cond_false]; done) | rfl), (by unfold aTm; simp only [h1, h2, h3, h4, h5, h19, h20, h21, h22, cond_true, cond_false])⟩)
                  · have h22 : (decide ((μ.1 (19 + 8 * j) 4) ≤ (3 : Int32))) = false := decide_eq_false (cn_ge.mp h22)
                    refine z_rcs hc hH 4 (pc' := 26) (lv' := [(2, .int 3), (0, .ref (19 + 8 * j)), (1, .int (nI k))]) (st' := [.ref (19 + 8 * j)]) (μ' := μ) (by rfl) ?_
                    refine zq_gfr hc hH (by rfl) (ci := 2) (f := 2) (q := 22 + 8 * j) (by rfl) (sj (P := fun i => okf 79 2 2 (19 + 8 * i)) hj (by decide +kernel)) (by rfl) (sj (P := fun i => Nat.beq (z_gr (19 + 8 * i) 2) (22 + 8 * i)) hj (by decide +kernel)) ?_
                    refine z_rcs hc hH 1 (pc' := 30) (lv' := [(2, .int 3), (0, .ref (19 + 8 * j)), (1, .int (nI k))]) (st' := [.int 3, .ref (22 + 8 * j)]) (μ' := μ) (by rfl) ?_
                    refine zq_iald hc hH (by rfl) 4 (oka_i (sj (P := fun i => oka 79 1 4 (22 + 8 * i)) hj (by decide +kernel))) (show vp_in (nI 3) 4 from vp_in_nI (by decide) (by decide)) ?_
                    rw [show (3 : Int32).toNatClampNeg = 3 from rfl]
                    refine z_rcs hc hH 1 (pc' := 32) (lv' := [(2, .int 3), (0, .ref (19 + 8 * j)), (1, .int (nI k))]) (st' := [.int 1, .int (μ.1 (22 + 8 * j) 3)]) (μ' := μ) (by rfl) ?_
                    refine zq_ic hc hH (by rfl) (tg := 74) (by rfl) (fun h23 => ?_) (fun h23 => ?_)
                    · have h23 : (decide ((μ.1 (22 + 8 * j) 3) = 1)) = false := decide_eq_false (cm_ne.mp h23)
                      refine z_rcs hc hH 4 (pc' := 14) (lv' := [(2, .int 4), (0, .ref (19 + 8 * j)), (1, .int (nI k))]) (st' := [.ref (19 + 8 * j), .int 4]) (μ' := μ) (by rfl) ?_
                      refine zq_gfi hc hH (by rfl) (ci := 2) (f := 4) (by rfl) (sj (P := fun i => okf 79 2 4 (19 + 8 * i)) hj (by decide +kernel)) (by rfl) ?_
                      refine zq_ic hc hH (by rfl) (tg := 80) (by rfl) (fun h24 => ?_) (fun h24 => ?_)
                      · have h24 : (decide ((μ.1 (19 + 8 * j) 4) ≤ (4 : Int32))) = true := decide_eq_true (cm_ge.mp h24)
                        refine z_rcs hc hH 1 (pc' := 81) (lv' := [(2, .int 4), (0, .ref (19 + 8 * j)), (1, .int (nI k))]) (st' := [.int 0]) (μ' := μ) (by rfl) ?_
                        exact hr 0 81 _ _ _ (some (.int 0)) (by decide +kernel) (z_rx_ok hH (by rfl)) (⟨(by first | with_reducible rfl | (simp only [h1, h2, h3, h4, h5, h19, h20, h21, h22, h23, h24, cond_true, cond_false]; done) | rfl), (by unfold aTm; simp only [h1, h2, h3, h4, h5, h19, h20, h21, h22, h23, h24, cond_true, cond_false])⟩)
                      · have h24 : (decide ((μ.1 (19 + 8 * j) 4) ≤ (4 : Int32))) = false := decide_eq_false (cn_ge.mp h24)
                        refine z_rcs hc hH 4 (pc' := 81) (lv' := [(2, .int 4), (0, .ref (19 + 8 * j)), (1, .int (nI k))]) (st' := [.int 0]) (μ' := μ) (by rfl) ?_
                        exact hr 0 81 _ _ _ (some (.int 0)) (by decide +kernel) (z_rx_ok hH (by rfl)) (⟨(by first | with_reducible rfl | (simp only [h1, h2, h3, h4, h5, h19, h20, h21, h22, h23, h24, cond_true, cond_false]; done) | rfl), (by unfold aTm; simp only [h1, h2, h3, h4, h5, h19, h20, h21, h22, h23, h24, cond_true, cond_false])⟩)
                    · have h23 : (decide ((μ.1 (22 + 8 * j) 3) = 1)) = true := decide_eq_true (cn_ne.mp h23)
                      refine z_rcs hc hH 1 (pc' := 36) (lv' := [(2, .int 3), (0, .ref (19 + 8 * j)), (1, .int (nI k))]) (st' := [.ref (19 + 8 * j)]) (μ' := μ) (by rfl) ?_
                      refine zq_gfr hc hH (by rfl) (ci := 2) (f := 3) (q := 23 + 8 * j) (by rfl) (sj (P := fun i => okf 79 2 3 (19 + 8 * i)) hj (by decide +kernel)) (by rfl) (sj (P := fun i => Nat.beq (z_gr (19 + 8 * i) 3) (23 + 8 * i)) hj (by decide +kernel)) ?_
                      refine z_rcs hc hH 1 (pc' := 40) (lv' := [(2, .int 3), (0, .ref (19 + 8 * j)), (1, .int (nI k))]) (st' := [.int 3, .ref (23 + 8 * j)]) (μ' := μ) (by rfl) ?_
                      refine zq_iald hc hH (by rfl) 4 (oka_i (sj (P := fun i => oka 79 1 4 (23 + 8 * i)) hj (by decide +kernel))) (show vp_in (nI 3) 4 from vp_in_nI (by decide) (by decide)) ?_
                      rw [show (3 : Int32).toNatClampNeg = 3 from rfl]
                      refine z_rcs hc hH 1 (pc' := 42) (lv' := [(2, .int 3), (0, .ref (19 + 8 * j)), (1, .int (nI k))]) (st' := [.int (nI k), .int (μ.1 (23 + 8 * j) 3)]) (μ' := μ) (by rfl) ?_
                      refine zq_ic hc hH (by rfl) (tg := 74) (by rfl) (fun h25 => ?_) (fun h25 => ?_)
                      · have h25 : (decide ((μ.1 (23 + 8 * j) 3) = (nI k))) = false := decide_eq_false (cm_ne.mp h25)
                        refine z_rcs hc hH 4 (pc' := 14) (lv' := [(2, .int 4), (0, .ref (19 + 8 * j)), (1, .int (nI k))]) (st' := [.ref (19 + 8 * j), .int 4]) (μ' := μ) (by rfl) ?_
                        refine zq_gfi hc hH (by rfl) (ci := 2) (f := 4) (by rfl) (sj (P := fun i => okf 79 2 4 (19 + 8 * i)) hj (by decide +kernel)) (by rfl) ?_
                        refine zq_ic hc hH (by rfl) (tg := 80) (by rfl) (fun h26 => ?_) (fun h26 => ?_)
                        · have h26 : (decide ((μ.1 (19 + 8 * j) 4) ≤ (4 : Int32))) = true := decide_eq_true (cm_ge.mp h26)
                          refine z_rcs hc hH 1 (pc' := 81) (lv' := [(2, .int 4), (0, .ref (19 + 8 * j)), (1, .int (nI k))]) (st' := [.int 0]) (μ' := μ) (by rfl) ?_
                          exact hr 0 81 _ _ _ (some (.int 0)) (by decide +kernel) (z_rx_ok hH (by rfl)) (⟨(by first | with_reducible rfl | (simp only [h1, h2, h3, h4, h5, h19, h20, h21, h22, h23, h25, h26, cond_true, cond_false]; done) | rfl), (by unfold aTm; simp only [h1, h2, h3, h4, h5, h19, h20, h21, h22, h23, h25, h26, cond_true, cond_false])⟩)
                        · have h26 : (decide ((μ.1 (19 + 8 * j) 4) ≤ (4 : Int32))) = false := decide_eq_false (cn_ge.mp h26)
                          refine z_rcs hc hH 4 (pc' := 81) (lv' := [(2, .int 4), (0, .ref (19 + 8 * j)), (1, .int (nI k))]) (st' := [.int 0]) (μ' := μ) (by rfl) ?_
                          exact hr 0 81 _ _ _ (some (.int 0)) (by decide +kernel) (z_rx_ok hH (by rfl)) (⟨(by first | with_reducible rfl | (simp only [h1, h2, h3, h4, h5, h19, h20, h21, h22, h23, h25, h26, cond_true, cond_false]; done) | rfl), (by unfold aTm; simp only [h1, h2, h3, h4, h5, h19, h20, h21, h22, h23, h25, h26, cond_true, cond_false])⟩)
                      · have h25 : (decide ((μ.1 (23 + 8 * j) 3) = (nI k))) = true := decide_eq_true (cn_ne.mp h25)
                        refine z_rcs hc hH 1 (pc' := 46) (lv' := [(2, .int 3), (0, .ref (19 + 8 * j)), (1, .int (nI k))]) (st' := [.ref (19 + 8 * j)]) (μ' := μ) (by rfl) ?_
                        refine zq_gfr hc hH (by rfl) (ci := 2) (f := 2) (q := 22 + 8 * j) (by rfl) (sj (P := fun i => okf 79 2 2 (19 + 8 * i)) hj (by decide +kernel)) (by rfl) (sj (P := fun i => Nat.beq (z_gr (19 + 8 * i) 2) (22 + 8 * i)) hj (by decide +kernel)) ?_
                        refine z_rcs hc hH 2 (pc' := 51) (lv' := [(2, .int 3), (0, .ref (19 + 8 * j)), (1, .int (nI k))]) (st' := [.int 2, .int 3, .ref (22 + 8 * j)]) (μ' := μ) (by rfl) ?_
                        refine zq_iast hc hH (by rfl) 4 (oka_i (sj (P := fun i => oka 79 1 4 (22 + 8 * i)) hj (by decide +kernel))).2 (show vp_in (nI 3) 4 from vp_in_nI (by decide) (by decide)) ?_
                        rw [show (3 : Int32).toNatClampNeg = 3 from rfl]
                        show Z 0 52 [(2, .int 3), (0, .ref (19 + 8 * j)), (1, .int (nI k))] [] (z_ui μ (22 + 8 * j) 3 2)
                        refine z_rcs0 hc hH 1 (pc' := 53) (lv' := [(2, .int 3), (0, .ref (19 + 8 * j)), (1, .int (nI k))]) (st' := [.ref (19 + 8 * j)]) (by rfl) ?_
                        refine zq_gfr hc hH (by rfl) (ci := 2) (f := 0) (q := 20 + 8 * j) (by rfl) (sj (P := fun i => okf 79 2 0 (19 + 8 * i)) hj (by decide +kernel)) (by rfl) (sj (P := fun i => Nat.beq (z_gr (19 + 8 * i) 0) (20 + 8 * i)) hj (by decide +kernel)) ?_
                        refine z_rcs0 hc hH 2 (pc' := 58) (lv' := [(2, .int 3), (0, .ref (19 + 8 * j)), (1, .int (nI k))]) (st' := [.int (nI k), .ref (20 + 8 * j), .int (nI k), .ref (20 + 8 * j)]) (by rfl) ?_
                        refine zq_iald hc hH (by rfl) 34 (oka_i (sj (P := fun i => oka 79 1 34 (20 + 8 * i)) hj (by decide +kernel))) (vp_in_nI (by omega) (by decide)) ?_
                        rw [nI_clamp (by omega)]
                        refine zV1 (Z := Z) (ui_o (by first | decide | omega)) ?_
                        refine z_rcs0 hc hH 2 (pc' := 61) (lv' := [(2, .int 3), (0, .ref (19 + 8 * j)), (1, .int (nI k))]) (st' := [.int ((μ.1 (20 + 8 * j) k) - 1), .int (nI k), .ref (20 + 8 * j)]) (by rfl) ?_
                        refine zq_iast hc hH (by rfl) 34 (oka_i (sj (P := fun i => oka 79 1 34 (20 + 8 * i)) hj (by decide +kernel))).2 (vp_in_nI (by omega) (by decide)) ?_
                        rw [nI_clamp (by omega)]
                        show Z 0 62 [(2, .int 3), (0, .ref (19 + 8 * j)), (1, .int (nI k))] [] (z_ui (z_ui μ (22 + 8 * j) 3 2) (20 + 8 * j) k ((μ.1 (20 + 8 * j) k) - 1))
                        refine z_rcs0 hc hH 2 (pc' := 64) (lv' := [(2, .int 3), (0, .ref (19 + 8 * j)), (1, .int (nI k))]) (st' := [.ref (19 + 8 * j), .ref (19 + 8 * j)]) (by rfl) ?_
                        refine zq_gfi hc hH (by rfl) (ci := 2) (f := 5) (by rfl) (sj (P := fun i => okf 79 2 5 (19 + 8 * i)) hj (by decide +kernel)) (by rfl) ?_
                        refine zV1 (Z := Z) (Eq.trans (ui_o (by first | decide | omega)) (ui_o (by first | decide | omega))) ?_
                        refine z_rcs0 hc hH 2 (pc' := 69) (lv' := [(2, .int 3), (0, .ref (19 + 8 * j)), (1, .int (nI k))]) (st' := [.int ((μ.1 (19 + 8 * j) 5) - 1), .ref (19 + 8 * j)]) (by rfl) ?_
                        refine zq_pfi hc hH (by rfl) (ci := 2) (f := 5) (by rfl) (sj (P := fun i => okf 79 2 5 (19 + 8 * i)) hj (by decide +kernel)) (by rfl) ?_
                        show Z 0 72 [(2, .int 3), (0, .ref (19 + 8 * j)), (1, .int (nI k))] [] (z_ui (z_ui (z_ui μ (22 + 8 * j) 3 2) (20 + 8 * j) k ((μ.1 (20 + 8 * j) k) - 1)) (19 + 8 * j) 5 ((μ.1 (19 + 8 * j) 5) - 1))
                        refine z_rcs0 hc hH 1 (pc' := 73) (lv' := [(2, .int 3), (0, .ref (19 + 8 * j)), (1, .int (nI k))]) (st' := [.int 1]) (by rfl) ?_
                        exact hr 0 73 _ _ _ (some (.int 1)) (by decide +kernel) (z_rx_ok hH (by rfl)) (⟨(by first | with_reducible rfl | (simp only [h1, h2, h3, h4, h5, h19, h20, h21, h22, h23, h25, cond_true, cond_false]; done) | rfl), (by unfold aTm; simp only [h1, h2, h3, h4, h5, h19, h20, h21, h22, h23, h25, cond_true, cond_false])⟩)
                · have h21 : (decide ((μ.1 (22 + 8 * j) 2) = 1)) = true := decide_eq_true (cn_ne.mp h21)
                  refine z_rcs hc hH 1 (pc' := 36) (lv' := [(2, .int 2), (0, .ref (19 + 8 * j)), (1, .int (nI k))]) (st' := [.ref (19 + 8 * j)]) (μ' := μ) (by rfl) ?_
                  refine zq_gfr hc hH (by rfl) (ci := 2) (f := 3) (q := 23 + 8 * j) (by rfl) (sj (P := fun i => okf 79 2 3 (19 + 8 * i)) hj (by decide +kernel)) (by rfl) (sj (P := fun i => Nat.beq (z_gr (19 + 8 * i) 3) (23 + 8 * i)) hj (by decide +kernel)) ?_
                  refine z_rcs hc hH 1 (pc' := 40) (lv' := [(2, .int 2), (0, .ref (19 + 8 * j)), (1, .int (nI k))]) (st' := [.int 2, .ref (23 + 8 * j)]) (μ' := μ) (by rfl) ?_
                  refine zq_iald hc hH (by rfl) 4 (oka_i (sj (P := fun i => oka 79 1 4 (23 + 8 * i)) hj (by decide +kernel))) (show vp_in (nI 2) 4 from vp_in_nI (by decide) (by decide)) ?_
                  rw [show (2 : Int32).toNatClampNeg = 2 from rfl]
                  refine z_rcs hc hH 1 (pc' := 42) (lv' := [(2, .int 2), (0, .ref (19 + 8 * j)), (1, .int (nI k))]) (st' := [.int (nI k), .int (μ.1 (23 + 8 * j) 2)]) (μ' := μ) (by rfl) ?_
                  refine zq_ic hc hH (by rfl) (tg := 74) (by rfl) (fun h27 => ?_) (fun h27 => ?_)
                  · have h27 : (decide ((μ.1 (23 + 8 * j) 2) = (nI k))) = false := decide_eq_false (cm_ne.mp h27)
                    refine z_rcs hc hH 4 (pc' := 14) (lv' := [(2, .int 3), (0, .ref (19 + 8 * j)), (1, .int (nI k))]) (st' := [.ref (19 + 8 * j), .int 3]) (μ' := μ) (by rfl) ?_
                    refine zq_gfi hc hH (by rfl) (ci := 2) (f := 4) (by rfl) (sj (P := fun i => okf 79 2 4 (19 + 8 * i)) hj (by decide +kernel)) (by rfl) ?_
                    refine zq_ic hc hH (by rfl) (tg := 80) (by rfl) (fun h28 => ?_) (fun h28 => ?_)
                    · have h28 : (decide ((μ.1 (19 + 8 * j) 4) ≤ (3 : Int32))) = true := decide_eq_true (cm_ge.mp h28)
                      refine z_rcs hc hH 1 (pc' := 81) (lv' := [(2, .int 3), (0, .ref (19 + 8 * j)), (1, .int (nI k))]) (st' := [.int 0]) (μ' := μ) (by rfl) ?_
                      exact hr 0 81 _ _ _ (some (.int 0)) (by decide +kernel) (z_rx_ok hH (by rfl)) (⟨(by first | with_reducible rfl | (simp only [h1, h2, h3, h4, h5, h19, h20, h21, h27, h28, cond_true, cond_false]; done) | rfl), (by unfold aTm; simp only [h1, h2, h3, h4, h5, h19, h20, h21, h27, h28, cond_true, cond_false])⟩)
                    · have h28 : (decide ((μ.1 (19 + 8 * j) 4) ≤ (3 : Int32))) = false := decide_eq_false (cn_ge.mp h28)
                      refine z_rcs hc hH 4 (pc' := 26) (lv' := [(2, .int 3), (0, .ref (19 + 8 * j)), (1, .int (nI k))]) (st' := [.ref (19 + 8 * j)]) (μ' := μ) (by rfl) ?_
                      refine zq_gfr hc hH (by rfl) (ci := 2) (f := 2) (q := 22 + 8 * j) (by rfl) (sj (P := fun i => okf 79 2 2 (19 + 8 * i)) hj (by decide +kernel)) (by rfl) (sj (P := fun i => Nat.beq (z_gr (19 + 8 * i) 2) (22 + 8 * i)) hj (by decide +kernel)) ?_
                      refine z_rcs hc hH 1 (pc' := 30) (lv' := [(2, .int 3), (0, .ref (19 + 8 * j)), (1, .int (nI k))]) (st' := [.int 3, .ref (22 + 8 * j)]) (μ' := μ) (by rfl) ?_
                      refine zq_iald hc hH (by rfl) 4 (oka_i (sj (P := fun i => oka 79 1 4 (22 + 8 * i)) hj (by decide +kernel))) (show vp_in (nI 3) 4 from vp_in_nI (by decide) (by decide)) ?_
                      rw [show (3 : Int32).toNatClampNeg = 3 from rfl]
                      refine z_rcs hc hH 1 (pc' := 32) (lv' := [(2, .int 3), (0, .ref (19 + 8 * j)), (1, .int (nI k))]) (st' := [.int 1, .int (μ.1 (22 + 8 * j) 3)]) (μ' := μ) (by rfl) ?_
                      refine zq_ic hc hH (by rfl) (tg := 74) (by rfl) (fun h29 => ?_) (fun h29 => ?_)
                      · have h29 : (decide ((μ.1 (22 + 8 * j) 3) = 1)) = false := decide_eq_false (cm_ne.mp h29)
                        refine z_rcs hc hH 4 (pc' := 14) (lv' := [(2, .int 4), (0, .ref (19 + 8 * j)), (1, .int (nI k))]) (st' := [.ref (19 + 8 * j), .int 4]) (μ' := μ) (by rfl) ?_
                        refine zq_gfi hc hH (by rfl) (ci := 2) (f := 4) (by rfl) (sj (P := fun i => okf 79 2 4 (19 + 8 * i)) hj (by decide +kernel)) (by rfl) ?_
                        refine zq_ic hc hH (by rfl) (tg := 80) (by rfl) (fun h30 => ?_) (fun h30 => ?_)
                        · have h30 : (decide ((μ.1 (19 + 8 * j) 4) ≤ (4 : Int32))) = true := decide_eq_true (cm_ge.mp h30)
                          refine z_rcs hc hH 1 (pc' := 81) (lv' := [(2, .int 4), (0, .ref (19 + 8 * j)), (1, .int (nI k))]) (st' := [.int 0]) (μ' := μ) (by rfl) ?_
                          exact hr 0 81 _ _ _ (some (.int 0)) (by decide +kernel) (z_rx_ok hH (by rfl)) (⟨(by first | with_reducible rfl | (simp only [h1, h2, h3, h4, h5, h19, h20, h21, h27, h28, h29, h30, cond_true, cond_false]; done) | rfl), (by unfold aTm; simp only [h1, h2, h3, h4, h5, h19, h20, h21, h27, h28, h29, h30, cond_true, cond_false])⟩)
                        · have h30 : (decide ((μ.1 (19 + 8 * j) 4) ≤ (4 : Int32))) = false := decide_eq_false (cn_ge.mp h30)
                          refine z_rcs hc hH 4 (pc' := 81) (lv' := [(2, .int 4), (0, .ref (19 + 8 * j)), (1, .int (nI k))]) (st' := [.int 0]) (μ' := μ) (by rfl) ?_
                          exact hr 0 81 _ _ _ (some (.int 0)) (by decide +kernel) (z_rx_ok hH (by rfl)) (⟨(by first | with_reducible rfl | (simp only [h1, h2, h3, h4, h5, h19, h20, h21, h27, h28, h29, h30, cond_true, cond_false]; done) | rfl), (by unfold aTm; simp only [h1, h2, h3, h4, h5, h19, h20, h21, h27, h28, h29, h30, cond_true, cond_false])⟩)
                      · have h29 : (decide ((μ.1 (22 + 8 * j) 3) = 1)) = true := decide_eq_true (cn_ne.mp h29)
                        refine z_rcs hc hH 1 (pc' := 36) (lv' := [(2, .int 3), (0, .ref (19 + 8 * j)), (1, .int (nI k))]) (st' := [.ref (19 + 8 * j)]) (μ' := μ) (by rfl) ?_
                        refine zq_gfr hc hH (by rfl) (ci := 2) (f := 3) (q := 23 + 8 * j) (by rfl) (sj (P := fun i => okf 79 2 3 (19 + 8 * i)) hj (by decide +kernel)) (by rfl) (sj (P := fun i => Nat.beq (z_gr (19 + 8 * i) 3) (23 + 8 * i)) hj (by decide +kernel)) ?_
                        refine z_rcs hc hH 1 (pc' := 40) (lv' := [(2, .int 3), (0, .ref (19 + 8 * j)), (1, .int (nI k))]) (st' := [.int 3, .ref (23 + 8 * j)]) (μ' := μ) (by rfl) ?_
                        refine zq_iald hc hH (by rfl) 4 (oka_i (sj (P := fun i => oka 79 1 4 (23 + 8 * i)) hj (by decide +kernel))) (show vp_in (nI 3) 4 from vp_in_nI (by decide) (by decide)) ?_
                        rw [show (3 : Int32).toNatClampNeg = 3 from rfl]
                        refine z_rcs hc hH 1 (pc' := 42) (lv' := [(2, .int 3), (0, .ref (19 + 8 * j)), (1, .int (nI k))]) (st' := [.int (nI k), .int (μ.1 (23 + 8 * j) 3)]) (μ' := μ) (by rfl) ?_
                        refine zq_ic hc hH (by rfl) (tg := 74) (by rfl) (fun h31 => ?_) (fun h31 => ?_)
                        · have h31 : (decide ((μ.1 (23 + 8 * j) 3) = (nI k))) = false := decide_eq_false (cm_ne.mp h31)
                          refine z_rcs hc hH 4 (pc' := 14) (lv' := [(2, .int 4), (0, .ref (19 + 8 * j)), (1, .int (nI k))]) (st' := [.ref (19 + 8 * j), .int 4]) (μ' := μ) (by rfl) ?_
                          refine zq_gfi hc hH (by rfl) (ci := 2) (f := 4) (by rfl) (sj (P := fun i => okf 79 2 4 (19 + 8 * i)) hj (by decide +kernel)) (by rfl) ?_
                          refine zq_ic hc hH (by rfl) (tg := 80) (by rfl) (fun h32 => ?_) (fun h32 => ?_)
                          · have h32 : (decide ((μ.1 (19 + 8 * j) 4) ≤ (4 : Int32))) = true := decide_eq_true (cm_ge.mp h32)
                            refine z_rcs hc hH 1 (pc' := 81) (lv' := [(2, .int 4), (0, .ref (19 + 8 * j)), (1, .int (nI k))]) (st' := [.int 0]) (μ' := μ) (by rfl) ?_
                            exact hr 0 81 _ _ _ (some (.int 0)) (by decide +kernel) (z_rx_ok hH (by rfl)) (⟨(by first | with_reducible rfl | (simp only [h1, h2, h3, h4, h5, h19, h20, h21, h27, h28, h29, h31, h32, cond_true, cond_false]; done) | rfl), (by unfold aTm; simp only [h1, h2, h3, h4, h5, h19, h20, h21, h27, h28, h29, h31, h32, cond_true, cond_false])⟩)
                          · have h32 : (decide ((μ.1 (19 + 8 * j) 4) ≤ (4 : Int32))) = false := decide_eq_false (cn_ge.mp h32)
                            refine z_rcs hc hH 4 (pc' := 81) (lv' := [(2, .int 4), (0, .ref (19 + 8 * j)), (1, .int (nI k))]) (st' := [.int 0]) (μ' := μ) (by rfl) ?_
                            exact hr 0 81 _ _ _ (some (.int 0)) (by decide +kernel) (z_rx_ok hH (by rfl)) (⟨(by first | with_reducible rfl | (simp only [h1, h2, h3, h4, h5, h19, h20, h21, h27, h28, h29, h31, h32, cond_true, cond_false]; done) | rfl), (by unfold aTm; simp only [h1, h2, h3, h4, h5, h19, h20, h21, h27, h28, h29, h31, h32, cond_true, cond_false])⟩)
                        · have h31 : (decide ((μ.1 (23 + 8 * j) 3) = (nI k))) = true := decide_eq_true (cn_ne.mp h31)
                          refine z_rcs hc hH 1 (pc' := 46) (lv' := [(2, .int 3), (0, .ref (19 + 8 * j)), (1, .int (nI k))]) (st' := [.ref (19 + 8 * j)]) (μ' := μ) (by rfl) ?_
                          refine zq_gfr hc hH (by rfl) (ci := 2) (f := 2) (q := 22 + 8 * j) (by rfl) (sj (P := fun i => okf 79 2 2 (19 + 8 * i)) hj (by decide +kernel)) (by rfl) (sj (P := fun i => Nat.beq (z_gr (19 + 8 * i) 2) (22 + 8 * i)) hj (by decide +kernel)) ?_
                          refine z_rcs hc hH 2 (pc' := 51) (lv' := [(2, .int 3), (0, .ref (19 + 8 * j)), (1, .int (nI k))]) (st' := [.int 2, .int 3, .ref (22 + 8 * j)]) (μ' := μ) (by rfl) ?_
                          refine zq_iast hc hH (by rfl) 4 (oka_i (sj (P := fun i => oka 79 1 4 (22 + 8 * i)) hj (by decide +kernel))).2 (show vp_in (nI 3) 4 from vp_in_nI (by decide) (by decide)) ?_
                          rw [show (3 : Int32).toNatClampNeg = 3 from rfl]
                          show Z 0 52 [(2, .int 3), (0, .ref (19 + 8 * j)), (1, .int (nI k))] [] (z_ui μ (22 + 8 * j) 3 2)
                          refine z_rcs0 hc hH 1 (pc' := 53) (lv' := [(2, .int 3), (0, .ref (19 + 8 * j)), (1, .int (nI k))]) (st' := [.ref (19 + 8 * j)]) (by rfl) ?_
                          refine zq_gfr hc hH (by rfl) (ci := 2) (f := 0) (q := 20 + 8 * j) (by rfl) (sj (P := fun i => okf 79 2 0 (19 + 8 * i)) hj (by decide +kernel)) (by rfl) (sj (P := fun i => Nat.beq (z_gr (19 + 8 * i) 0) (20 + 8 * i)) hj (by decide +kernel)) ?_
                          refine z_rcs0 hc hH 2 (pc' := 58) (lv' := [(2, .int 3), (0, .ref (19 + 8 * j)), (1, .int (nI k))]) (st' := [.int (nI k), .ref (20 + 8 * j), .int (nI k), .ref (20 + 8 * j)]) (by rfl) ?_
                          refine zq_iald hc hH (by rfl) 34 (oka_i (sj (P := fun i => oka 79 1 34 (20 + 8 * i)) hj (by decide +kernel))) (vp_in_nI (by omega) (by decide)) ?_
                          rw [nI_clamp (by omega)]
                          refine zV1 (Z := Z) (ui_o (by first | decide | omega)) ?_
                          refine z_rcs0 hc hH 2 (pc' := 61) (lv' := [(2, .int 3), (0, .ref (19 + 8 * j)), (1, .int (nI k))]) (st' := [.int ((μ.1 (20 + 8 * j) k) - 1), .int (nI k), .ref (20 + 8 * j)]) (by rfl) ?_
                          refine zq_iast hc hH (by rfl) 34 (oka_i (sj (P := fun i => oka 79 1 34 (20 + 8 * i)) hj (by decide +kernel))).2 (vp_in_nI (by omega) (by decide)) ?_
                          rw [nI_clamp (by omega)]
                          show Z 0 62 [(2, .int 3), (0, .ref (19 + 8 * j)), (1, .int (nI k))] [] (z_ui (z_ui μ (22 + 8 * j) 3 2) (20 + 8 * j) k ((μ.1 (20 + 8 * j) k) - 1))
                          refine z_rcs0 hc hH 2 (pc' := 64) (lv' := [(2, .int 3), (0, .ref (19 + 8 * j)), (1, .int (nI k))]) (st' := [.ref (19 + 8 * j), .ref (19 + 8 * j)]) (by rfl) ?_
                          refine zq_gfi hc hH (by rfl) (ci := 2) (f := 5) (by rfl) (sj (P := fun i => okf 79 2 5 (19 + 8 * i)) hj (by decide +kernel)) (by rfl) ?_
                          refine zV1 (Z := Z) (Eq.trans (ui_o (by first | decide | omega)) (ui_o (by first | decide | omega))) ?_
                          refine z_rcs0 hc hH 2 (pc' := 69) (lv' := [(2, .int 3), (0, .ref (19 + 8 * j)), (1, .int (nI k))]) (st' := [.int ((μ.1 (19 + 8 * j) 5) - 1), .ref (19 + 8 * j)]) (by rfl) ?_
                          refine zq_pfi hc hH (by rfl) (ci := 2) (f := 5) (by rfl) (sj (P := fun i => okf 79 2 5 (19 + 8 * i)) hj (by decide +kernel)) (by rfl) ?_
                          show Z 0 72 [(2, .int 3), (0, .ref (19 + 8 * j)), (1, .int (nI k))] [] (z_ui (z_ui (z_ui μ (22 + 8 * j) 3 2) (20 + 8 * j) k ((μ.1 (20 + 8 * j) k) - 1)) (19 + 8 * j) 5 ((μ.1 (19 + 8 * j) 5) - 1))
                          refine z_rcs0 hc hH 1 (pc' := 73) (lv' := [(2, .int 3), (0, .ref (19 + 8 * j)), (1, .int (nI k))]) (st' := [.int 1]) (by rfl) ?_
                          exact hr 0 73 _ _ _ (some (.int 1)) (by decide +kernel) (z_rx_ok hH (by rfl)) (⟨(by first | with_reducible rfl | (simp only [h1, h2, h3, h4, h5, h19, h20, h21, h27, h28, h29, h31, cond_true, cond_false]; done) | rfl), (by unfold aTm; simp only [h1, h2, h3, h4, h5, h19, h20, h21, h27, h28, h29, h31, cond_true, cond_false])⟩)
                  · have h27 : (decide ((μ.1 (23 + 8 * j) 2) = (nI k))) = true := decide_eq_true (cn_ne.mp h27)
                    refine z_rcs hc hH 1 (pc' := 46) (lv' := [(2, .int 2), (0, .ref (19 + 8 * j)), (1, .int (nI k))]) (st' := [.ref (19 + 8 * j)]) (μ' := μ) (by rfl) ?_
                    refine zq_gfr hc hH (by rfl) (ci := 2) (f := 2) (q := 22 + 8 * j) (by rfl) (sj (P := fun i => okf 79 2 2 (19 + 8 * i)) hj (by decide +kernel)) (by rfl) (sj (P := fun i => Nat.beq (z_gr (19 + 8 * i) 2) (22 + 8 * i)) hj (by decide +kernel)) ?_
                    refine z_rcs hc hH 2 (pc' := 51) (lv' := [(2, .int 2), (0, .ref (19 + 8 * j)), (1, .int (nI k))]) (st' := [.int 2, .int 2, .ref (22 + 8 * j)]) (μ' := μ) (by rfl) ?_
                    refine zq_iast hc hH (by rfl) 4 (oka_i (sj (P := fun i => oka 79 1 4 (22 + 8 * i)) hj (by decide +kernel))).2 (show vp_in (nI 2) 4 from vp_in_nI (by decide) (by decide)) ?_
                    rw [show (2 : Int32).toNatClampNeg = 2 from rfl]
                    show Z 0 52 [(2, .int 2), (0, .ref (19 + 8 * j)), (1, .int (nI k))] [] (z_ui μ (22 + 8 * j) 2 2)
                    refine z_rcs0 hc hH 1 (pc' := 53) (lv' := [(2, .int 2), (0, .ref (19 + 8 * j)), (1, .int (nI k))]) (st' := [.ref (19 + 8 * j)]) (by rfl) ?_
                    refine zq_gfr hc hH (by rfl) (ci := 2) (f := 0) (q := 20 + 8 * j) (by rfl) (sj (P := fun i => okf 79 2 0 (19 + 8 * i)) hj (by decide +kernel)) (by rfl) (sj (P := fun i => Nat.beq (z_gr (19 + 8 * i) 0) (20 + 8 * i)) hj (by decide +kernel)) ?_
                    refine z_rcs0 hc hH 2 (pc' := 58) (lv' := [(2, .int 2), (0, .ref (19 + 8 * j)), (1, .int (nI k))]) (st' := [.int (nI k), .ref (20 + 8 * j), .int (nI k), .ref (20 + 8 * j)]) (by rfl) ?_
                    refine zq_iald hc hH (by rfl) 34 (oka_i (sj (P := fun i => oka 79 1 34 (20 + 8 * i)) hj (by decide +kernel))) (vp_in_nI (by omega) (by decide)) ?_
                    rw [nI_clamp (by omega)]
                    refine zV1 (Z := Z) (ui_o (by first | decide | omega)) ?_
                    refine z_rcs0 hc hH 2 (pc' := 61) (lv' := [(2, .int 2), (0, .ref (19 + 8 * j)), (1, .int (nI k))]) (st' := [.int ((μ.1 (20 + 8 * j) k) - 1), .int (nI k), .ref (20 + 8 * j)]) (by rfl) ?_
                    refine zq_iast hc hH (by rfl) 34 (oka_i (sj (P := fun i => oka 79 1 34 (20 + 8 * i)) hj (by decide +kernel))).2 (vp_in_nI (by omega) (by decide)) ?_
                    rw [nI_clamp (by omega)]
                    show Z 0 62 [(2, .int 2), (0, .ref (19 + 8 * j)), (1, .int (nI k))] [] (z_ui (z_ui μ (22 + 8 * j) 2 2) (20 + 8 * j) k ((μ.1 (20 + 8 * j) k) - 1))
                    refine z_rcs0 hc hH 2 (pc' := 64) (lv' := [(2, .int 2), (0, .ref (19 + 8 * j)), (1, .int (nI k))]) (st' := [.ref (19 + 8 * j), .ref (19 + 8 * j)]) (by rfl) ?_
                    refine zq_gfi hc hH (by rfl) (ci := 2) (f := 5) (by rfl) (sj (P := fun i => okf 79 2 5 (19 + 8 * i)) hj (by decide +kernel)) (by rfl) ?_
                    refine zV1 (Z := Z) (Eq.trans (ui_o (by first | decide | omega)) (ui_o (by first | decide | omega))) ?_
                    refine z_rcs0 hc hH 2 (pc' := 69) (lv' := [(2, .int 2), (0, .ref (19 + 8 * j)), (1, .int (nI k))]) (st' := [.int ((μ.1 (19 + 8 * j) 5) - 1), .ref (19 + 8 * j)]) (by rfl) ?_
                    refine zq_pfi hc hH (by rfl) (ci := 2) (f := 5) (by rfl) (sj (P := fun i => okf 79 2 5 (19 + 8 * i)) hj (by decide +kernel)) (by rfl) ?_
                    show Z 0 72 [(2, .int 2), (0, .ref (19 + 8 * j)), (1, .int (nI k))] [] (z_ui (z_ui (z_ui μ (22 + 8 * j) 2 2) (20 + 8 * j) k ((μ.1 (20 + 8 * j) k) - 1)) (19 + 8 * j) 5 ((μ.1 (19 + 8 * j) 5) - 1))
                    refine z_rcs0 hc hH 1 (pc' := 73) (lv' := [(2, .int 2), (0, .ref (19 + 8 * j)), (1, .int (nI k))]) (st' := [.int 1]) (by rfl) ?_
                    exact hr 0 73 _ _ _ (some (.int 1)) (by decide +kernel) (z_rx_ok hH (by rfl)) (⟨(by first | with_reducible rfl | (simp only [h1, h2, h3, h4, h5, h19, h20, h21, h27, cond_true, cond_false]; done) | rfl), (by unfold aTm; simp only [h1, h2, h3, h4, h5, h19, h20, h21, h27, cond_true, cond_false])⟩)
            · have h19 : (decide ((μ.1 (23 + 8 * j) 1) = (nI k))) = true := decide_eq_true (cn_ne.mp h19)
              refine z_rcs hc hH 1 (pc' := 46) (lv' := [(2, .int 1), (0, .ref (19 + 8 * j)), (1, .int (nI k))]) (st' := [.ref (19 + 8 * j)]) (μ' := μ) (by rfl) ?_
              refine zq_gfr hc hH (by rfl) (ci := 2) (f := 2) (q := 22 + 8 * j) (by rfl) (sj (P := fun i => okf 79 2 2 (19 + 8 * i)) hj (by decide +kernel)) (by rfl) (sj (P := fun i => Nat.beq (z_gr (19 + 8 * i) 2) (22 + 8 * i)) hj (by decide +kernel)) ?_
              refine z_rcs hc hH 2 (pc' := 51) (lv' := [(2, .int 1), (0, .ref (19 + 8 * j)), (1, .int (nI k))]) (st' := [.int 2, .int 1, .ref (22 + 8 * j)]) (μ' := μ) (by rfl) ?_
              refine zq_iast hc hH (by rfl) 4 (oka_i (sj (P := fun i => oka 79 1 4 (22 + 8 * i)) hj (by decide +kernel))).2 (show vp_in (nI 1) 4 from vp_in_nI (by decide) (by decide)) ?_
              rw [show (1 : Int32).toNatClampNeg = 1 from rfl]
              show Z 0 52 [(2, .int 1), (0, .ref (19 + 8 * j)), (1, .int (nI k))] [] (z_ui μ (22 + 8 * j) 1 2)
              refine z_rcs0 hc hH 1 (pc' := 53) (lv' := [(2, .int 1), (0, .ref (19 + 8 * j)), (1, .int (nI k))]) (st' := [.ref (19 + 8 * j)]) (by rfl) ?_
              refine zq_gfr hc hH (by rfl) (ci := 2) (f := 0) (q := 20 + 8 * j) (by rfl) (sj (P := fun i => okf 79 2 0 (19 + 8 * i)) hj (by decide +kernel)) (by rfl) (sj (P := fun i => Nat.beq (z_gr (19 + 8 * i) 0) (20 + 8 * i)) hj (by decide +kernel)) ?_
              refine z_rcs0 hc hH 2 (pc' := 58) (lv' := [(2, .int 1), (0, .ref (19 + 8 * j)), (1, .int (nI k))]) (st' := [.int (nI k), .ref (20 + 8 * j), .int (nI k), .ref (20 + 8 * j)]) (by rfl) ?_
              refine zq_iald hc hH (by rfl) 34 (oka_i (sj (P := fun i => oka 79 1 34 (20 + 8 * i)) hj (by decide +kernel))) (vp_in_nI (by omega) (by decide)) ?_
              rw [nI_clamp (by omega)]
              refine zV1 (Z := Z) (ui_o (by first | decide | omega)) ?_
              refine z_rcs0 hc hH 2 (pc' := 61) (lv' := [(2, .int 1), (0, .ref (19 + 8 * j)), (1, .int (nI k))]) (st' := [.int ((μ.1 (20 + 8 * j) k) - 1), .int (nI k), .ref (20 + 8 * j)]) (by rfl) ?_
              refine zq_iast hc hH (by rfl) 34 (oka_i (sj (P := fun i => oka 79 1 34 (20 + 8 * i)) hj (by decide +kernel))).2 (vp_in_nI (by omega) (by decide)) ?_
              rw [nI_clamp (by omega)]
              show Z 0 62 [(2, .int 1), (0, .ref (19 + 8 * j)), (1, .int (nI k))] [] (z_ui (z_ui μ (22 + 8 * j) 1 2) (20 + 8 * j) k ((μ.1 (20 + 8 * j) k) - 1))
              refine z_rcs0 hc hH 2 (pc' := 64) (lv' := [(2, .int 1), (0, .ref (19 + 8 * j)), (1, .int (nI k))]) (st' := [.ref (19 + 8 * j), .ref (19 + 8 * j)]) (by rfl) ?_
              refine zq_gfi hc hH (by rfl) (ci := 2) (f := 5) (by rfl) (sj (P := fun i => okf 79 2 5 (19 + 8 * i)) hj (by decide +kernel)) (by rfl) ?_
              refine zV1 (Z := Z) (Eq.trans (ui_o (by first | decide | omega)) (ui_o (by first | decide | omega))) ?_
              refine z_rcs0 hc hH 2 (pc' := 69) (lv' := [(2, .int 1), (0, .ref (19 + 8 * j)), (1, .int (nI k))]) (st' := [.int ((μ.1 (19 + 8 * j) 5) - 1), .ref (19 + 8 * j)]) (by rfl) ?_
              refine zq_pfi hc hH (by rfl) (ci := 2) (f := 5) (by rfl) (sj (P := fun i => okf 79 2 5 (19 + 8 * i)) hj (by decide +kernel)) (by rfl) ?_
              show Z 0 72 [(2, .int 1), (0, .ref (19 + 8 * j)), (1, .int (nI k))] [] (z_ui (z_ui (z_ui μ (22 + 8 * j) 1 2) (20 + 8 * j) k ((μ.1 (20 + 8 * j) k) - 1)) (19 + 8 * j) 5 ((μ.1 (19 + 8 * j) 5) - 1))
              refine z_rcs0 hc hH 1 (pc' := 73) (lv' := [(2, .int 1), (0, .ref (19 + 8 * j)), (1, .int (nI k))]) (st' := [.int 1]) (by rfl) ?_
              exact hr 0 73 _ _ _ (some (.int 1)) (by decide +kernel) (z_rx_ok hH (by rfl)) (⟨(by first | with_reducible rfl | (simp only [h1, h2, h3, h4, h5, h19, cond_true, cond_false]; done) | rfl), (by unfold aTm; simp only [h1, h2, h3, h4, h5, h19, cond_true, cond_false])⟩)
      · have h3 : (decide ((μ.1 (22 + 8 * j) 0) = 1)) = true := decide_eq_true (cn_ne.mp h3)
        refine z_rcs hc hH 1 (pc' := 36) (lv' := [(2, .int 0), (0, .ref (19 + 8 * j)), (1, .int (nI k))]) (st' := [.ref (19 + 8 * j)]) (μ' := μ) (by rfl) ?_
        refine zq_gfr hc hH (by rfl) (ci := 2) (f := 3) (q := 23 + 8 * j) (by rfl) (sj (P := fun i => okf 79 2 3 (19 + 8 * i)) hj (by decide +kernel)) (by rfl) (sj (P := fun i => Nat.beq (z_gr (19 + 8 * i) 3) (23 + 8 * i)) hj (by decide +kernel)) ?_
        refine z_rcs hc hH 1 (pc' := 40) (lv' := [(2, .int 0), (0, .ref (19 + 8 * j)), (1, .int (nI k))]) (st' := [.int 0, .ref (23 + 8 * j)]) (μ' := μ) (by rfl) ?_
        refine zq_iald hc hH (by rfl) 4 (oka_i (sj (P := fun i => oka 79 1 4 (23 + 8 * i)) hj (by decide +kernel))) (show vp_in (nI 0) 4 from vp_in_nI (by decide) (by decide)) ?_
        rw [show (0 : Int32).toNatClampNeg = 0 from rfl]
        refine z_rcs hc hH 1 (pc' := 42) (lv' := [(2, .int 0), (0, .ref (19 + 8 * j)), (1, .int (nI k))]) (st' := [.int (nI k), .int (μ.1 (23 + 8 * j) 0)]) (μ' := μ) (by rfl) ?_
        refine zq_ic hc hH (by rfl) (tg := 74) (by rfl) (fun h33 => ?_) (fun h33 => ?_)
        · have h33 : (decide ((μ.1 (23 + 8 * j) 0) = (nI k))) = false := decide_eq_false (cm_ne.mp h33)
          refine z_rcs hc hH 4 (pc' := 14) (lv' := [(2, .int 1), (0, .ref (19 + 8 * j)), (1, .int (nI k))]) (st' := [.ref (19 + 8 * j), .int 1]) (μ' := μ) (by rfl) ?_
          refine zq_gfi hc hH (by rfl) (ci := 2) (f := 4) (by rfl) (sj (P := fun i => okf 79 2 4 (19 + 8 * i)) hj (by decide +kernel)) (by rfl) ?_
          refine zq_ic hc hH (by rfl) (tg := 80) (by rfl) (fun h34 => ?_) (fun h34 => ?_)
          · have h34 : (decide ((μ.1 (19 + 8 * j) 4) ≤ (1 : Int32))) = true := decide_eq_true (cm_ge.mp h34)
            refine z_rcs hc hH 1 (pc' := 81) (lv' := [(2, .int 1), (0, .ref (19 + 8 * j)), (1, .int (nI k))]) (st' := [.int 0]) (μ' := μ) (by rfl) ?_
            exact hr 0 81 _ _ _ (some (.int 0)) (by decide +kernel) (z_rx_ok hH (by rfl)) (⟨(by first | with_reducible rfl | (simp only [h1, h2, h3, h33, h34, cond_true, cond_false]; done) | rfl), (by unfold aTm; simp only [h1, h2, h3, h33, h34, cond_true, cond_false])⟩)
          · have h34 : (decide ((μ.1 (19 + 8 * j) 4) ≤ (1 : Int32))) = false := decide_eq_false (cn_ge.mp h34)
            refine z_rcs hc hH 4 (pc' := 26) (lv' := [(2, .int 1), (0, .ref (19 + 8 * j)), (1, .int (nI k))]) (st' := [.ref (19 + 8 * j)]) (μ' := μ) (by rfl) ?_
            refine zq_gfr hc hH (by rfl) (ci := 2) (f := 2) (q := 22 + 8 * j) (by rfl) (sj (P := fun i => okf 79 2 2 (19 + 8 * i)) hj (by decide +kernel)) (by rfl) (sj (P := fun i => Nat.beq (z_gr (19 + 8 * i) 2) (22 + 8 * i)) hj (by decide +kernel)) ?_
            refine z_rcs hc hH 1 (pc' := 30) (lv' := [(2, .int 1), (0, .ref (19 + 8 * j)), (1, .int (nI k))]) (st' := [.int 1, .ref (22 + 8 * j)]) (μ' := μ) (by rfl) ?_
            refine zq_iald hc hH (by rfl) 4 (oka_i (sj (P := fun i => oka 79 1 4 (22 + 8 * i)) hj (by decide +kernel))) (show vp_in (nI 1) 4 from vp_in_nI (by decide) (by decide)) ?_
            rw [show (1 : Int32).toNatClampNeg = 1 from rfl]
            refine z_rcs hc hH 1 (pc' := 32) (lv' := [(2, .int 1), (0, .ref (19 + 8 * j)), (1, .int (nI k))]) (st' := [.int 1, .int (μ.1 (22 + 8 * j) 1)]) (μ' := μ) (by rfl) ?_
            refine zq_ic hc hH (by rfl) (tg := 74) (by rfl) (fun h35 => ?_) (fun h35 => ?_)
            · have h35 : (decide ((μ.1 (22 + 8 * j) 1) = 1)) = false := decide_eq_false (cm_ne.mp h35)
              refine z_rcs hc hH 4 (pc' := 14) (lv' := [(2, .int 2), (0, .ref (19 + 8 * j)), (1, .int (nI k))]) (st' := [.ref (19 + 8 * j), .int 2]) (μ' := μ) (by rfl) ?_
              refine zq_gfi hc hH (by rfl) (ci := 2) (f := 4) (by rfl) (sj (P := fun i => okf 79 2 4 (19 + 8 * i)) hj (by decide +kernel)) (by rfl) ?_
              refine zq_ic hc hH (by rfl) (tg := 80) (by rfl) (fun h36 => ?_) (fun h36 => ?_)
              · have h36 : (decide ((μ.1 (19 + 8 * j) 4) ≤ (2 : Int32))) = true := decide_eq_true (cm_ge.mp h36)
                refine z_rcs hc hH 1 (pc' := 81) (lv' := [(2, .int 2), (0, .ref (19 + 8 * j)), (1, .int (nI k))]) (st' := [.int 0]) (μ' := μ) (by rfl) ?_
                exact hr 0 81 _ _ _ (some (.int 0)) (by decide +kernel) (z_rx_ok hH (by rfl)) (⟨(by first | with_reducible rfl | (simp only [h1, h2, h3, h33, h34, h35, h36, cond_true, cond_false]; done) | rfl), (by unfold aTm; simp only [h1, h2, h3, h33, h34, h35, h36, cond_true, cond_false])⟩)
              · have h36 : (decide ((μ.1 (19 + 8 * j) 4) ≤ (2 : Int32))) = false := decide_eq_false (cn_ge.mp h36)
                refine z_rcs hc hH 4 (pc' := 26) (lv' := [(2, .int 2), (0, .ref (19 + 8 * j)), (1, .int (nI k))]) (st' := [.ref (19 + 8 * j)]) (μ' := μ) (by rfl) ?_
                refine zq_gfr hc hH (by rfl) (ci := 2) (f := 2) (q := 22 + 8 * j) (by rfl) (sj (P := fun i => okf 79 2 2 (19 + 8 * i)) hj (by decide +kernel)) (by rfl) (sj (P := fun i => Nat.beq (z_gr (19 + 8 * i) 2) (22 + 8 * i)) hj (by decide +kernel)) ?_
                refine z_rcs hc hH 1 (pc' := 30) (lv' := [(2, .int 2), (0, .ref (19 + 8 * j)), (1, .int (nI k))]) (st' := [.int 2, .ref (22 + 8 * j)]) (μ' := μ) (by rfl) ?_
                refine zq_iald hc hH (by rfl) 4 (oka_i (sj (P := fun i => oka 79 1 4 (22 + 8 * i)) hj (by decide +kernel))) (show vp_in (nI 2) 4 from vp_in_nI (by decide) (by decide)) ?_
                rw [show (2 : Int32).toNatClampNeg = 2 from rfl]
                refine z_rcs hc hH 1 (pc' := 32) (lv' := [(2, .int 2), (0, .ref (19 + 8 * j)), (1, .int (nI k))]) (st' := [.int 1, .int (μ.1 (22 + 8 * j) 2)]) (μ' := μ) (by rfl) ?_
                refine zq_ic hc hH (by rfl) (tg := 74) (by rfl) (fun h37 => ?_) (fun h37 => ?_)
                · have h37 : (decide ((μ.1 (22 + 8 * j) 2) = 1)) = false := decide_eq_false (cm_ne.mp h37)
                  refine z_rcs hc hH 4 (pc' := 14) (lv' := [(2, .int 3), (0, .ref (19 + 8 * j)), (1, .int (nI k))]) (st' := [.ref (19 + 8 * j), .int 3]) (μ' := μ) (by rfl) ?_
                  refine zq_gfi hc hH (by rfl) (ci := 2) (f := 4) (by rfl) (sj (P := fun i => okf 79 2 4 (19 + 8 * i)) hj (by decide +kernel)) (by rfl) ?_
                  refine zq_ic hc hH (by rfl) (tg := 80) (by rfl) (fun h38 => ?_) (fun h38 => ?_)
                  · have h38 : (decide ((μ.1 (19 + 8 * j) 4) ≤ (3 : Int32))) = true := decide_eq_true (cm_ge.mp h38)
                    refine z_rcs hc hH 1 (pc' := 81) (lv' := [(2, .int 3), (0, .ref (19 + 8 * j)), (1, .int (nI k))]) (st' := [.int 0]) (μ' := μ) (by rfl) ?_
                    exact hr 0 81 _ _ _ (some (.int 0)) (by decide +kernel) (z_rx_ok hH (by rfl)) (⟨(by first | with_reducible rfl | (simp only [h1, h2, h3, h33, h34, h35, h36, h37, h38, cond_true, cond_false]; done) | rfl), (by unfold aTm; simp only [h1, h2, h3, h33, h34, h35, h36, h37, h38, cond_true, cond_false])⟩)
                  · have h38 : (decide ((μ.1 (19 + 8 * j) 4) ≤ (3 : Int32))) = false := decide_eq_false (cn_ge.mp h38)
                    refine z_rcs hc hH 4 (pc' := 26) (lv' := [(2, .int 3), (0, .ref (19 + 8 * j)), (1, .int (nI k))]) (st' := [.ref (19 + 8 * j)]) (μ' := μ) (by rfl) ?_
                    refine zq_gfr hc hH (by rfl) (ci := 2) (f := 2) (q := 22 + 8 * j) (by rfl) (sj (P := fun i => okf 79 2 2 (19 + 8 * i)) hj (by decide +kernel)) (by rfl) (sj (P := fun i => Nat.beq (z_gr (19 + 8 * i) 2) (22 + 8 * i)) hj (by decide +kernel)) ?_
                    refine z_rcs hc hH 1 (pc' := 30) (lv' := [(2, .int 3), (0, .ref (19 + 8 * j)), (1, .int (nI k))]) (st' := [.int 3, .ref (22 + 8 * j)]) (μ' := μ) (by rfl) ?_
                    refine zq_iald hc hH (by rfl) 4 (oka_i (sj (P := fun i => oka 79 1 4 (22 + 8 * i)) hj (by decide +kernel))) (show vp_in (nI 3) 4 from vp_in_nI (by decide) (by decide)) ?_
                    rw [show (3 : Int32).toNatClampNeg = 3 from rfl]
                    refine z_rcs hc hH 1 (pc' := 32) (lv' := [(2, .int 3), (0, .ref (19 + 8 * j)), (1, .int (nI k))]) (st' := [.int 1, .int (μ.1 (22 + 8 * j) 3)]) (μ' := μ) (by rfl) ?_
                    refine zq_ic hc hH (by rfl) (tg := 74) (by rfl) (fun h39 => ?_) (fun h39 => ?_)
                    · have h39 : (decide ((μ.1 (22 + 8 * j) 3) = 1)) = false := decide_eq_false (cm_ne.mp h39)
                      refine z_rcs hc hH 4 (pc' := 14) (lv' := [(2, .int 4), (0, .ref (19 + 8 * j)), (1, .int (nI k))]) (st' := [.ref (19 + 8 * j), .int 4]) (μ' := μ) (by rfl) ?_
                      refine zq_gfi hc hH (by rfl) (ci := 2) (f := 4) (by rfl) (sj (P := fun i => okf 79 2 4 (19 + 8 * i)) hj (by decide +kernel)) (by rfl) ?_
                      refine zq_ic hc hH (by rfl) (tg := 80) (by rfl) (fun h40 => ?_) (fun h40 => ?_)
                      · have h40 : (decide ((μ.1 (19 + 8 * j) 4) ≤ (4 : Int32))) = true := decide_eq_true (cm_ge.mp h40)
                        refine z_rcs hc hH 1 (pc' := 81) (lv' := [(2, .int 4), (0, .ref (19 + 8 * j)), (1, .int (nI k))]) (st' := [.int 0]) (μ' := μ) (by rfl) ?_
                        exact hr 0 81 _ _ _ (some (.int 0)) (by decide +kernel) (z_rx_ok hH (by rfl)) (⟨(by first | with_reducible rfl | (simp only [h1, h2, h3, h33, h34, h35, h36, h37, h38, h39, h40, cond_true, cond_false]; done) | rfl), (by unfold aTm; simp only [h1, h2, h3, h33, h34, h35, h36, h37, h38, h39, h40, cond_true, cond_false])⟩)
                      · have h40 : (decide ((μ.1 (19 + 8 * j) 4) ≤ (4 : Int32))) = false := decide_eq_false (cn_ge.mp h40)
                        refine z_rcs hc hH 4 (pc' := 81) (lv' := [(2, .int 4), (0, .ref (19 + 8 * j)), (1, .int (nI k))]) (st' := [.int 0]) (μ' := μ) (by rfl) ?_
                        exact hr 0 81 _ _ _ (some (.int 0)) (by decide +kernel) (z_rx_ok hH (by rfl)) (⟨(by first | with_reducible rfl | (simp only [h1, h2, h3, h33, h34, h35, h36, h37, h38, h39, h40, cond_true, cond_false]; done) | rfl), (by unfold aTm; simp only [h1, h2, h3, h33, h34, h35, h36, h37, h38, h39, h40, cond_true, cond_false])⟩)
                    · have h39 : (decide ((μ.1 (22 + 8 * j) 3) = 1)) = true := decide_eq_true (cn_ne.mp h39)
                      refine z_rcs hc hH 1 (pc' := 36) (lv' := [(2, .int 3), (0, .ref (19 + 8 * j)), (1, .int (nI k))]) (st' := [.ref (19 + 8 * j)]) (μ' := μ) (by rfl) ?_
                      refine zq_gfr hc hH (by rfl) (ci := 2) (f := 3) (q := 23 + 8 * j) (by rfl) (sj (P := fun i => okf 79 2 3 (19 + 8 * i)) hj (by decide +kernel)) (by rfl) (sj (P := fun i => Nat.beq (z_gr (19 + 8 * i) 3) (23 + 8 * i)) hj (by decide +kernel)) ?_
                      refine z_rcs hc hH 1 (pc' := 40) (lv' := [(2, .int 3), (0, .ref (19 + 8 * j)), (1, .int (nI k))]) (st' := [.int 3, .ref (23 + 8 * j)]) (μ' := μ) (by rfl) ?_
                      refine zq_iald hc hH (by rfl) 4 (oka_i (sj (P := fun i => oka 79 1 4 (23 + 8 * i)) hj (by decide +kernel))) (show vp_in (nI 3) 4 from vp_in_nI (by decide) (by decide)) ?_
                      rw [show (3 : Int32).toNatClampNeg = 3 from rfl]
                      refine z_rcs hc hH 1 (pc' := 42) (lv' := [(2, .int 3), (0, .ref (19 + 8 * j)), (1, .int (nI k))]) (st' := [.int (nI k), .int (μ.1 (23 + 8 * j) 3)]) (μ' := μ) (by rfl) ?_
                      refine zq_ic hc hH (by rfl) (tg := 74) (by rfl) (fun h41 => ?_) (fun h41 => ?_)
                      · have h41 : (decide ((μ.1 (23 + 8 * j) 3) = (nI k))) = false := decide_eq_false (cm_ne.mp h41)
                        refine z_rcs hc hH 4 (pc' := 14) (lv' := [(2, .int 4), (0, .ref (19 + 8 * j)), (1, .int (nI k))]) (st' := [.ref (19 + 8 * j), .int 4]) (μ' := μ) (by rfl) ?_
                        refine zq_gfi hc hH (by rfl) (ci := 2) (f := 4) (by rfl) (sj (P := fun i => okf 79 2 4 (19 + 8 * i)) hj (by decide +kernel)) (by rfl) ?_
                        refine zq_ic hc hH (by rfl) (tg := 80) (by rfl) (fun h42 => ?_) (fun h42 => ?_)
                        · have h42 : (decide ((μ.1 (19 + 8 * j) 4) ≤ (4 : Int32))) = true := decide_eq_true (cm_ge.mp h42)
                          refine z_rcs hc hH 1 (pc' := 81) (lv' := [(2, .int 4), (0, .ref (19 + 8 * j)), (1, .int (nI k))]) (st' := [.int 0]) (μ' := μ) (by rfl) ?_
                          exact hr 0 81 _ _ _ (some (.int 0)) (by decide +kernel) (z_rx_ok hH (by rfl)) (⟨(by first | with_reducible rfl | (simp only [h1, h2, h3, h33, h34, h35, h36, h37, h38, h39, h41, h42, cond_true, cond_false]; done) | rfl), (by unfold aTm; simp only [h1, h2, h3, h33, h34, h35, h36, h37, h38, h39, h41, h42, cond_true, cond_false])⟩)
                        · have h42 : (decide ((μ.1 (19 + 8 * j) 4) ≤ (4 : Int32))) = false := decide_eq_false (cn_ge.mp h42)
                          refine z_rcs hc hH 4 (pc' := 81) (lv' := [(2, .int 4), (0, .ref (19 + 8 * j)), (1, .int (nI k))]) (st' := [.int 0]) (μ' := μ) (by rfl) ?_
                          exact hr 0 81 _ _ _ (some (.int 0)) (by decide +kernel) (z_rx_ok hH (by rfl)) (⟨(by first | with_reducible rfl | (simp only [h1, h2, h3, h33, h34, h35, h36, h37, h38, h39, h41, h42, cond_true, cond_false]; done) | rfl), (by unfold aTm; simp only [h1, h2, h3, h33, h34, h35, h36, h37, h38, h39, h41, h42, cond_true, cond_false])⟩)
                      · have h41 : (decide ((μ.1 (23 + 8 * j) 3) = (nI k))) = true := decide_eq_true (cn_ne.mp h41)
                        refine z_rcs hc hH 1 (pc' := 46) (lv' := [(2, .int 3), (0, .ref (19 + 8 * j)), (1, .int (nI k))]) (st' := [.ref (19 + 8 * j)]) (μ' := μ) (by rfl) ?_
                        refine zq_gfr hc hH (by rfl) (ci := 2) (f := 2) (q := 22 + 8 * j) (by rfl) (sj (P := fun i => okf 79 2 2 (19 + 8 * i)) hj (by decide +kernel)) (by rfl) (sj (P := fun i => Nat.beq (z_gr (19 + 8 * i) 2) (22 + 8 * i)) hj (by decide +kernel)) ?_
                        refine z_rcs hc hH 2 (pc' := 51) (lv' := [(2, .int 3), (0, .ref (19 + 8 * j)), (1, .int (nI k))]) (st' := [.int 2, .int 3, .ref (22 + 8 * j)]) (μ' := μ) (by rfl) ?_
                        refine zq_iast hc hH (by rfl) 4 (oka_i (sj (P := fun i => oka 79 1 4 (22 + 8 * i)) hj (by decide +kernel))).2 (show vp_in (nI 3) 4 from vp_in_nI (by decide) (by decide)) ?_
                        rw [show (3 : Int32).toNatClampNeg = 3 from rfl]
                        show Z 0 52 [(2, .int 3), (0, .ref (19 + 8 * j)), (1, .int (nI k))] [] (z_ui μ (22 + 8 * j) 3 2)
                        refine z_rcs0 hc hH 1 (pc' := 53) (lv' := [(2, .int 3), (0, .ref (19 + 8 * j)), (1, .int (nI k))]) (st' := [.ref (19 + 8 * j)]) (by rfl) ?_
                        refine zq_gfr hc hH (by rfl) (ci := 2) (f := 0) (q := 20 + 8 * j) (by rfl) (sj (P := fun i => okf 79 2 0 (19 + 8 * i)) hj (by decide +kernel)) (by rfl) (sj (P := fun i => Nat.beq (z_gr (19 + 8 * i) 0) (20 + 8 * i)) hj (by decide +kernel)) ?_
                        refine z_rcs0 hc hH 2 (pc' := 58) (lv' := [(2, .int 3), (0, .ref (19 + 8 * j)), (1, .int (nI k))]) (st' := [.int (nI k), .ref (20 + 8 * j), .int (nI k), .ref (20 + 8 * j)]) (by rfl) ?_
                        refine zq_iald hc hH (by rfl) 34 (oka_i (sj (P := fun i => oka 79 1 34 (20 + 8 * i)) hj (by decide +kernel))) (vp_in_nI (by omega) (by decide)) ?_
                        rw [nI_clamp (by omega)]
                        refine zV1 (Z := Z) (ui_o (by first | decide | omega)) ?_
                        refine z_rcs0 hc hH 2 (pc' := 61) (lv' := [(2, .int 3), (0, .ref (19 + 8 * j)), (1, .int (nI k))]) (st' := [.int ((μ.1 (20 + 8 * j) k) - 1), .int (nI k), .ref (20 + 8 * j)]) (by rfl) ?_
                        refine zq_iast hc hH (by rfl) 34 (oka_i (sj (P := fun i => oka 79 1 34 (20 + 8 * i)) hj (by decide +kernel))).2 (vp_in_nI (by omega) (by decide)) ?_
                        rw [nI_clamp (by omega)]
                        show Z 0 62 [(2, .int 3), (0, .ref (19 + 8 * j)), (1, .int (nI k))] [] (z_ui (z_ui μ (22 + 8 * j) 3 2) (20 + 8 * j) k ((μ.1 (20 + 8 * j) k) - 1))
                        refine z_rcs0 hc hH 2 (pc' := 64) (lv' := [(2, .int 3), (0, .ref (19 + 8 * j)), (1, .int (nI k))]) (st' := [.ref (19 + 8 * j), .ref (19 + 8 * j)]) (by rfl) ?_
                        refine zq_gfi hc hH (by rfl) (ci := 2) (f := 5) (by rfl) (sj (P := fun i => okf 79 2 5 (19 + 8 * i)) hj (by decide +kernel)) (by rfl) ?_
                        refine zV1 (Z := Z) (Eq.trans (ui_o (by first | decide | omega)) (ui_o (by first | decide | omega))) ?_
                        refine z_rcs0 hc hH 2 (pc' := 69) (lv' := [(2, .int 3), (0, .ref (19 + 8 * j)), (1, .int (nI k))]) (st' := [.int ((μ.1 (19 + 8 * j) 5) - 1), .ref (19 + 8 * j)]) (by rfl) ?_
                        refine zq_pfi hc hH (by rfl) (ci := 2) (f := 5) (by rfl) (sj (P := fun i => okf 79 2 5 (19 + 8 * i)) hj (by decide +kernel)) (by rfl) ?_
                        show Z 0 72 [(2, .int 3), (0, .ref (19 + 8 * j)), (1, .int (nI k))] [] (z_ui (z_ui (z_ui μ (22 + 8 * j) 3 2) (20 + 8 * j) k ((μ.1 (20 + 8 * j) k) - 1)) (19 + 8 * j) 5 ((μ.1 (19 + 8 * j) 5) - 1))
                        refine z_rcs0 hc hH 1 (pc' := 73) (lv' := [(2, .int 3), (0, .ref (19 + 8 * j)), (1, .int (nI k))]) (st' := [.int 1]) (by rfl) ?_
                        exact hr 0 73 _ _ _ (some (.int 1)) (by decide +kernel) (z_rx_ok hH (by rfl)) (⟨(by first | with_reducible rfl | (simp only [h1, h2, h3, h33, h34, h35, h36, h37, h38, h39, h41, cond_true, cond_false]; done) | rfl), (by unfold aTm; simp only [h1, h2, h3, h33, h34, h35, h36, h37, h38, h39, h41, cond_true, cond_false])⟩)
                · have h37 : (decide ((μ.1 (22 + 8 * j) 2) = 1)) = true := decide_eq_true (cn_ne.mp h37)
                  refine z_rcs hc hH 1 (pc' := 36) (lv' := [(2, .int 2), (0, .ref (19 + 8 * j)), (1, .int (nI k))]) (st' := [.ref (19 + 8 * j)]) (μ' := μ) (by rfl) ?_
                  refine zq_gfr hc hH (by rfl) (ci := 2) (f := 3) (q := 23 + 8 * j) (by rfl) (sj (P := fun i => okf 79 2 3 (19 + 8 * i)) hj (by decide +kernel)) (by rfl) (sj (P := fun i => Nat.beq (z_gr (19 + 8 * i) 3) (23 + 8 * i)) hj (by decide +kernel)) ?_
                  refine z_rcs hc hH 1 (pc' := 40) (lv' := [(2, .int 2), (0, .ref (19 + 8 * j)), (1, .int (nI k))]) (st' := [.int 2, .ref (23 + 8 * j)]) (μ' := μ) (by rfl) ?_
                  refine zq_iald hc hH (by rfl) 4 (oka_i (sj (P := fun i => oka 79 1 4 (23 + 8 * i)) hj (by decide +kernel))) (show vp_in (nI 2) 4 from vp_in_nI (by decide) (by decide)) ?_
                  rw [show (2 : Int32).toNatClampNeg = 2 from rfl]
                  refine z_rcs hc hH 1 (pc' := 42) (lv' := [(2, .int 2), (0, .ref (19 + 8 * j)), (1, .int (nI k))]) (st' := [.int (nI k), .int (μ.1 (23 + 8 * j) 2)]) (μ' := μ) (by rfl) ?_
                  refine zq_ic hc hH (by rfl) (tg := 74) (by rfl) (fun h43 => ?_) (fun h43 => ?_)
                  · have h43 : (decide ((μ.1 (23 + 8 * j) 2) = (nI k))) = false := decide_eq_false (cm_ne.mp h43)
                    refine z_rcs hc hH 4 (pc' := 14) (lv' := [(2, .int 3), (0, .ref (19 + 8 * j)), (1, .int (nI k))]) (st' := [.ref (19 + 8 * j), .int 3]) (μ' := μ) (by rfl) ?_
                    refine zq_gfi hc hH (by rfl) (ci := 2) (f := 4) (by rfl) (sj (P := fun i => okf 79 2 4 (19 + 8 * i)) hj (by decide +kernel)) (by rfl) ?_
                    refine zq_ic hc hH (by rfl) (tg := 80) (by rfl) (fun h44 => ?_) (fun h44 => ?_)
                    · have h44 : (decide ((μ.1 (19 + 8 * j) 4) ≤ (3 : Int32))) = true := decide_eq_true (cm_ge.mp h44)
                      refine z_rcs hc hH 1 (pc' := 81) (lv' := [(2, .int 3), (0, .ref (19 + 8 * j)), (1, .int (nI k))]) (st' := [.int 0]) (μ' := μ) (by rfl) ?_
                      exact hr 0 81 _ _ _ (some (.int 0)) (by decide +kernel) (z_rx_ok hH (by rfl)) (⟨(by first | with_reducible rfl | (simp only [h1, h2, h3, h33, h34, h35, h36, h37, h43, h44, cond_true, cond_false]; done) | rfl), (by unfold aTm; simp only [h1, h2, h3, h33, h34, h35, h36, h37, h43, h44, cond_true, cond_false])⟩)
                    · have h44 : (decide ((μ.1 (19 + 8 * j) 4) ≤ (3 : Int32))) = false := decide_eq_false (cn_ge.mp h44)
                      refine z_rcs hc hH 4 (pc' := 26) (lv' := [(2, .int 3), (0, .ref (19 + 8 * j)), (1, .int (nI k))]) (st' := [.ref (19 + 8 * j)]) (μ' := μ) (by rfl) ?_
                      refine zq_gfr hc hH (by rfl) (ci := 2) (f := 2) (q := 22 + 8 * j) (by rfl) (sj (P := fun i => okf 79 2 2 (19 + 8 * i)) hj (by decide +kernel)) (by rfl) (sj (P := fun i => Nat.beq (z_gr (19 + 8 * i) 2) (22 + 8 * i)) hj (by decide +kernel)) ?_
                      refine z_rcs hc hH 1 (pc' := 30) (lv' := [(2, .int 3), (0, .ref (19 + 8 * j)), (1, .int (nI k))]) (st' := [.int 3, .ref (22 + 8 * j)]) (μ' := μ) (by rfl) ?_
                      refine zq_iald hc hH (by rfl) 4 (oka_i (sj (P := fun i => oka 79 1 4 (22 + 8 * i)) hj (by decide +kernel))) (show vp_in (nI 3) 4 from vp_in_nI (by decide) (by decide)) ?_
                      rw [show (3 : Int32).toNatClampNeg = 3 from rfl]
                      refine z_rcs hc hH 1 (pc' := 32) (lv' := [(2, .int 3), (0, .ref (19 + 8 * j)), (1, .int (nI k))]) (st' := [.int 1, .int (μ.1 (22 + 8 * j) 3)]) (μ' := μ) (by rfl) ?_
                      refine zq_ic hc hH (by rfl) (tg := 74) (by rfl) (fun h45 => ?_) (fun h45 => ?_)
                      · have h45 : (decide ((μ.1 (22 + 8 * j) 3) = 1)) = false := decide_eq_false (cm_ne.mp h45)
                        refine z_rcs hc hH 4 (pc' := 14) (lv' := [(2, .int 4), (0, .ref (19 + 8 * j)), (1, .int (nI k))]) (st' := [.ref (19 + 8 * j), .int 4]) (μ' := μ) (by rfl) ?_
                        refine zq_gfi hc hH (by rfl) (ci := 2) (f := 4) (by rfl) (sj (P := fun i => okf 79 2 4 (19 + 8 * i)) hj (by decide +kernel)) (by rfl) ?_
                        refine zq_ic hc hH (by rfl) (tg := 80) (by rfl) (fun h46 => ?_) (fun h46 => ?_)
                        · have h46 : (decide ((μ.1 (19 + 8 * j) 4) ≤ (4 : Int32))) = true := decide_eq_true (cm_ge.mp h46)
                          refine z_rcs hc hH 1 (pc' := 81) (lv' := [(2, .int 4), (0, .ref (19 + 8 * j)), (1, .int (nI k))]) (st' := [.int 0]) (μ' := μ) (by rfl) ?_
                          exact hr 0 81 _ _ _ (some (.int 0)) (by decide +kernel) (z_rx_ok hH (by rfl)) (⟨(by first | with_reducible rfl | (simp only [h1, h2, h3, h33, h34, h35, h36, h37, h43, h44, h45, h46, cond_true, cond_false]; done) | rfl), (by unfold aTm; simp only [h1, h2, h3, h33, h34, h35, h36, h37, h43, h44, h45, h46, cond_true, cond_false])⟩)
                        · have h46 : (decide ((μ.1 (19 + 8 * j) 4) ≤ (4 : Int32))) = false := decide_eq_false (cn_ge.mp h46)
                          refine z_rcs hc hH 4 (pc' := 81) (lv' := [(2, .int 4), (0, .ref (19 + 8 * j)), (1, .int (nI k))]) (st' := [.int 0]) (μ' := μ) (by rfl) ?_
                          exact hr 0 81 _ _ _ (some (.int 0)) (by decide +kernel) (z_rx_ok hH (by rfl)) (⟨(by first | with_reducible rfl | (simp only [h1, h2, h3, h33, h34, h35, h36, h37, h43, h44, h45, h46, cond_true, cond_false]; done) | rfl), (by unfold aTm; simp only [h1, h2, h3, h33, h34, h35, h36, h37, h43, h44, h45, h46, cond_true, cond_false])⟩)
                      · have h45 : (decide ((μ.1 (22 + 8 * j) 3) = 1)) = true := decide_eq_true (cn_ne.mp h45)
                        refine z_rcs hc hH 1 (pc' := 36) (lv' := [(2, .int 3), (0, .ref (19 + 8 * j)), (1, .int (nI k))]) (st' := [.ref (19 + 8 * j)]) (μ' := μ) (by rfl) ?_
                        refine zq_gfr hc hH (by rfl) (ci := 2) (f := 3) (q := 23 + 8 * j) (by rfl) (sj (P := fun i => okf 79 2 3 (19 + 8 * i)) hj (by decide +kernel)) (by rfl) (sj (P := fun i => Nat.beq (z_gr (19 + 8 * i) 3) (23 + 8 * i)) hj (by decide +kernel)) ?_
                        refine z_rcs hc hH 1 (pc' := 40) (lv' := [(2, .int 3), (0, .ref (19 + 8 * j)), (1, .int (nI k))]) (st' := [.int 3, .ref (23 + 8 * j)]) (μ' := μ) (by rfl) ?_
                        refine zq_iald hc hH (by rfl) 4 (oka_i (sj (P := fun i => oka 79 1 4 (23 + 8 * i)) hj (by decide +kernel))) (show vp_in (nI 3) 4 from vp_in_nI (by decide) (by decide)) ?_
                        rw [show (3 : Int32).toNatClampNeg = 3 from rfl]
                        refine z_rcs hc hH 1 (pc' := 42) (lv' := [(2, .int 3), (0, .ref (19 + 8 * j)), (1, .int (nI k))]) (st' := [.int (nI k), .int (μ.1 (23 + 8 * j) 3)]) (μ' := μ) (by rfl) ?_
                        refine zq_ic hc hH (by rfl) (tg := 74) (by rfl) (fun h47 => ?_) (fun h47 => ?_)
                        · have h47 : (decide ((μ.1 (23 + 8 * j) 3) = (nI k))) = false := decide_eq_false (cm_ne.mp h47)
                          refine z_rcs hc hH 4 (pc' := 14) (lv' := [(2, .int 4), (0, .ref (19 + 8 * j)), (1, .int (nI k))]) (st' := [.ref (19 + 8 * j), .int 4]) (μ' := μ) (by rfl) ?_
                          refine zq_gfi hc hH (by rfl) (ci := 2) (f := 4) (by rfl) (sj (P := fun i => okf 79 2 4 (19 + 8 * i)) hj (by decide +kernel)) (by rfl) ?_
                          refine zq_ic hc hH (by rfl) (tg := 80) (by rfl) (fun h48 => ?_) (fun h48 => ?_)
                          · have h48 : (decide ((μ.1 (19 + 8 * j) 4) ≤ (4 : Int32))) = true := decide_eq_true (cm_ge.mp h48)
                            refine z_rcs hc hH 1 (pc' := 81) (lv' := [(2, .int 4), (0, .ref (19 + 8 * j)), (1, .int (nI k))]) (st' := [.int 0]) (μ' := μ) (by rfl) ?_
                            exact hr 0 81 _ _ _ (some (.int 0)) (by decide +kernel) (z_rx_ok hH (by rfl)) (⟨(by first | with_reducible rfl | (simp only [h1, h2, h3, h33, h34, h35, h36, h37, h43, h44, h45, h47, h48, cond_true, cond_false]; done) | rfl), (by unfold aTm; simp only [h1, h2, h3, h33, h34, h35, h36, h37, h43, h44, h45, h47, h48, cond_true, cond_false])⟩)
                          · have h48 : (decide ((μ.1 (19 + 8 * j) 4) ≤ (4 : Int32))) = false := decide_eq_false (cn_ge.mp h48)
                            refine z_rcs hc hH 4 (pc' := 81) (lv' := [(2, .int 4), (0, .ref (19 + 8 * j)), (1, .int (nI k))]) (st' := [.int 0]) (μ' := μ) (by rfl) ?_
                            exact hr 0 81 _ _ _ (some (.int 0)) (by decide +kernel) (z_rx_ok hH (by rfl)) (⟨(by first | with_reducible rfl | (simp only [h1, h2, h3, h33, h34, h35, h36, h37, h43, h44, h45, h47, h48, cond_true, cond_false]; done) | rfl), (by unfold aTm; simp only [h1, h2, h3, h33, h34, h35, h36, h37, h43, h44, h45, h47, h48, cond_true, cond_false])⟩)
                        · have h47 : (decide ((μ.1 (23 + 8 * j) 3) = (nI k))) = true := decide_eq_true (cn_ne.mp h47)
                          refine z_rcs hc hH 1 (pc' := 46) (lv' := [(2, .int 3), (0, .ref (19 + 8 * j)), (1, .int (nI k))]) (st' := [.ref (19 + 8 * j)]) (μ' := μ) (by rfl) ?_
                          refine zq_gfr hc hH (by rfl) (ci := 2) (f := 2) (q := 22 + 8 * j) (by rfl) (sj (P := fun i => okf 79 2 2 (19 + 8 * i)) hj (by decide +kernel)) (by rfl) (sj (P := fun i => Nat.beq (z_gr (19 + 8 * i) 2) (22 + 8 * i)) hj (by decide +kernel)) ?_
                          refine z_rcs hc hH 2 (pc' := 51) (lv' := [(2, .int 3), (0, .ref (19 + 8 * j)), (1, .int (nI k))]) (st' := [.int 2, .int 3, .ref (22 + 8 * j)]) (μ' := μ) (by rfl) ?_
                          refine zq_iast hc hH (by rfl) 4 (oka_i (sj (P := fun i => oka 79 1 4 (22 + 8 * i)) hj (by decide +kernel))).2 (show vp_in (nI 3) 4 from vp_in_nI (by decide) (by decide)) ?_
                          rw [show (3 : Int32).toNatClampNeg = 3 from rfl]
                          show Z 0 52 [(2, .int 3), (0, .ref (19 + 8 * j)), (1, .int (nI k))] [] (z_ui μ (22 + 8 * j) 3 2)
                          refine z_rcs0 hc hH 1 (pc' := 53) (lv' := [(2, .int 3), (0, .ref (19 + 8 * j)), (1, .int (nI k))]) (st' := [.ref (19 + 8 * j)]) (by rfl) ?_
                          refine zq_gfr hc hH (by rfl) (ci := 2) (f := 0) (q := 20 + 8 * j) (by rfl) (sj (P := fun i => okf 79 2 0 (19 + 8 * i)) hj (by decide +kernel)) (by rfl) (sj (P := fun i => Nat.beq (z_gr (19 + 8 * i) 0) (20 + 8 * i)) hj (by decide +kernel)) ?_
                          refine z_rcs0 hc hH 2 (pc' := 58) (lv' := [(2, .int 3), (0, .ref (19 + 8 * j)), (1, .int (nI k))]) (st' := [.int (nI k), .ref (20 + 8 * j), .int (nI k), .ref (20 + 8 * j)]) (by rfl) ?_
                          refine zq_iald hc hH (by rfl) 34 (oka_i (sj (P := fun i => oka 79 1 34 (20 + 8 * i)) hj (by decide +kernel))) (vp_in_nI (by omega) (by decide)) ?_
                          rw [nI_clamp (by omega)]
                          refine zV1 (Z := Z) (ui_o (by first | decide | omega)) ?_
                          refine z_rcs0 hc hH 2 (pc' := 61) (lv' := [(2, .int 3), (0, .ref (19 + 8 * j)), (1, .int (nI k))]) (st' := [.int ((μ.1 (20 + 8 * j) k) - 1), .int (nI k), .ref (20 + 8 * j)]) (by rfl) ?_
                          refine zq_iast hc hH (by rfl) 34 (oka_i (sj (P := fun i => oka 79 1 34 (20 + 8 * i)) hj (by decide +kernel))).2 (vp_in_nI (by omega) (by decide)) ?_
                          rw [nI_clamp (by omega)]
                          show Z 0 62 [(2, .int 3), (0, .ref (19 + 8 * j)), (1, .int (nI k))] [] (z_ui (z_ui μ (22 + 8 * j) 3 2) (20 + 8 * j) k ((μ.1 (20 + 8 * j) k) - 1))
                          refine z_rcs0 hc hH 2 (pc' := 64) (lv' := [(2, .int 3), (0, .ref (19 + 8 * j)), (1, .int (nI k))]) (st' := [.ref (19 + 8 * j), .ref (19 + 8 * j)]) (by rfl) ?_
                          refine zq_gfi hc hH (by rfl) (ci := 2) (f := 5) (by rfl) (sj (P := fun i => okf 79 2 5 (19 + 8 * i)) hj (by decide +kernel)) (by rfl) ?_
                          refine zV1 (Z := Z) (Eq.trans (ui_o (by first | decide | omega)) (ui_o (by first | decide | omega))) ?_
                          refine z_rcs0 hc hH 2 (pc' := 69) (lv' := [(2, .int 3), (0, .ref (19 + 8 * j)), (1, .int (nI k))]) (st' := [.int ((μ.1 (19 + 8 * j) 5) - 1), .ref (19 + 8 * j)]) (by rfl) ?_
                          refine zq_pfi hc hH (by rfl) (ci := 2) (f := 5) (by rfl) (sj (P := fun i => okf 79 2 5 (19 + 8 * i)) hj (by decide +kernel)) (by rfl) ?_
                          show Z 0 72 [(2, .int 3), (0, .ref (19 + 8 * j)), (1, .int (nI k))] [] (z_ui (z_ui (z_ui μ (22 + 8 * j) 3 2) (20 + 8 * j) k ((μ.1 (20 + 8 * j) k) - 1)) (19 + 8 * j) 5 ((μ.1 (19 + 8 * j) 5) - 1))
                          refine z_rcs0 hc hH 1 (pc' := 73) (lv' := [(2, .int 3), (0, .ref (19 + 8 * j)), (1, .int (nI k))]) (st' := [.int 1]) (by rfl) ?_
                          exact hr 0 73 _ _ _ (some (.int 1)) (by decide +kernel) (z_rx_ok hH (by rfl)) (⟨(by first | with_reducible rfl | (simp only [h1, h2, h3, h33, h34, h35, h36, h37, h43, h44, h45, h47, cond_true, cond_false]; done) | rfl), (by unfold aTm; simp only [h1, h2, h3, h33, h34, h35, h36, h37, h43, h44, h45, h47, cond_true, cond_false])⟩)
                  · have h43 : (decide ((μ.1 (23 + 8 * j) 2) = (nI k))) = true := decide_eq_true (cn_ne.mp h43)
                    refine z_rcs hc hH 1 (pc' := 46) (lv' := [(2, .int 2), (0, .ref (19 + 8 * j)), (1, .int (nI k))]) (st' := [.ref (19 + 8 * j)]) (μ' := μ) (by rfl) ?_
                    refine zq_gfr hc hH (by rfl) (ci := 2) (f := 2) (q := 22 + 8 * j) (by rfl) (sj (P := fun i => okf 79 2 2 (19 + 8 * i)) hj (by decide +kernel)) (by rfl) (sj (P := fun i => Nat.beq (z_gr (19 + 8 * i) 2) (22 + 8 * i)) hj (by decide +kernel)) ?_
                    refine z_rcs hc hH 2 (pc' := 51) (lv' := [(2, .int 2), (0, .ref (19 + 8 * j)), (1, .int (nI k))]) (st' := [.int 2, .int 2, .ref (22 + 8 * j)]) (μ' := μ) (by rfl) ?_
                    refine zq_iast hc hH (by rfl) 4 (oka_i (sj (P := fun i => oka 79 1 4 (22 + 8 * i)) hj (by decide +kernel))).2 (show vp_in (nI 2) 4 from vp_in_nI (by decide) (by decide)) ?_
                    rw [show (2 : Int32).toNatClampNeg = 2 from rfl]
                    show Z 0 52 [(2, .int 2), (0, .ref (19 + 8 * j)), (1, .int (nI k))] [] (z_ui μ (22 + 8 * j) 2 2)
                    refine z_rcs0 hc hH 1 (pc' := 53) (lv' := [(2, .int 2), (0, .ref (19 + 8 * j)), (1, .int (nI k))]) (st' := [.ref (19 + 8 * j)]) (by rfl) ?_
                    refine zq_gfr hc hH (by rfl) (ci := 2) (f := 0) (q := 20 + 8 * j) (by rfl) (sj (P := fun i => okf 79 2 0 (19 + 8 * i)) hj (by decide +kernel)) (by rfl) (sj (P := fun i => Nat.beq (z_gr (19 + 8 * i) 0) (20 + 8 * i)) hj (by decide +kernel)) ?_
                    refine z_rcs0 hc hH 2 (pc' := 58) (lv' := [(2, .int 2), (0, .ref (19 + 8 * j)), (1, .int (nI k))]) (st' := [.int (nI k), .ref (20 + 8 * j), .int (nI k), .ref (20 + 8 * j)]) (by rfl) ?_
                    refine zq_iald hc hH (by rfl) 34 (oka_i (sj (P := fun i => oka 79 1 34 (20 + 8 * i)) hj (by decide +kernel))) (vp_in_nI (by omega) (by decide)) ?_
                    rw [nI_clamp (by omega)]
                    refine zV1 (Z := Z) (ui_o (by first | decide | omega)) ?_
                    refine z_rcs0 hc hH 2 (pc' := 61) (lv' := [(2, .int 2), (0, .ref (19 + 8 * j)), (1, .int (nI k))]) (st' := [.int ((μ.1 (20 + 8 * j) k) - 1), .int (nI k), .ref (20 + 8 * j)]) (by rfl) ?_
                    refine zq_iast hc hH (by rfl) 34 (oka_i (sj (P := fun i => oka 79 1 34 (20 + 8 * i)) hj (by decide +kernel))).2 (vp_in_nI (by omega) (by decide)) ?_
                    rw [nI_clamp (by omega)]
                    show Z 0 62 [(2, .int 2), (0, .ref (19 + 8 * j)), (1, .int (nI k))] [] (z_ui (z_ui μ (22 + 8 * j) 2 2) (20 + 8 * j) k ((μ.1 (20 + 8 * j) k) - 1))
                    refine z_rcs0 hc hH 2 (pc' := 64) (lv' := [(2, .int 2), (0, .ref (19 + 8 * j)), (1, .int (nI k))]) (st' := [.ref (19 + 8 * j), .ref (19 + 8 * j)]) (by rfl) ?_
                    refine zq_gfi hc hH (by rfl) (ci := 2) (f := 5) (by rfl) (sj (P := fun i => okf 79 2 5 (19 + 8 * i)) hj (by decide +kernel)) (by rfl) ?_
                    refine zV1 (Z := Z) (Eq.trans (ui_o (by first | decide | omega)) (ui_o (by first | decide | omega))) ?_
                    refine z_rcs0 hc hH 2 (pc' := 69) (lv' := [(2, .int 2), (0, .ref (19 + 8 * j)), (1, .int (nI k))]) (st' := [.int ((μ.1 (19 + 8 * j) 5) - 1), .ref (19 + 8 * j)]) (by rfl) ?_
                    refine zq_pfi hc hH (by rfl) (ci := 2) (f := 5) (by rfl) (sj (P := fun i => okf 79 2 5 (19 + 8 * i)) hj (by decide +kernel)) (by rfl) ?_
                    show Z 0 72 [(2, .int 2), (0, .ref (19 + 8 * j)), (1, .int (nI k))] [] (z_ui (z_ui (z_ui μ (22 + 8 * j) 2 2) (20 + 8 * j) k ((μ.1 (20 + 8 * j) k) - 1)) (19 + 8 * j) 5 ((μ.1 (19 + 8 * j) 5) - 1))
                    refine z_rcs0 hc hH 1 (pc' := 73) (lv' := [(2, .int 2), (0, .ref (19 + 8 * j)), (1, .int (nI k))]) (st' := [.int 1]) (by rfl) ?_
                    exact hr 0 73 _ _ _ (some (.int 1)) (by decide +kernel) (z_rx_ok hH (by rfl)) (⟨(by first | with_reducible rfl | (simp only [h1, h2, h3, h33, h34, h35, h36, h37, h43, cond_true, cond_false]; done) | rfl), (by unfold aTm; simp only [h1, h2, h3, h33, h34, h35, h36, h37, h43, cond_true, cond_false])⟩)
            · have h35 : (decide ((μ.1 (22 + 8 * j) 1) = 1)) = true := decide_eq_true (cn_ne.mp h35)
              refine z_rcs hc hH 1 (pc' := 36) (lv' := [(2, .int 1), (0, .ref (19 + 8 * j)), (1, .int (nI k))]) (st' := [.ref (19 + 8 * j)]) (μ' := μ) (by rfl) ?_
              refine zq_gfr hc hH (by rfl) (ci := 2) (f := 3) (q := 23 + 8 * j) (by rfl) (sj (P := fun i => okf 79 2 3 (19 + 8 * i)) hj (by decide +kernel)) (by rfl) (sj (P := fun i => Nat.beq (z_gr (19 + 8 * i) 3) (23 + 8 * i)) hj (by decide +kernel)) ?_
              refine z_rcs hc hH 1 (pc' := 40) (lv' := [(2, .int 1), (0, .ref (19 + 8 * j)), (1, .int (nI k))]) (st' := [.int 1, .ref (23 + 8 * j)]) (μ' := μ) (by rfl) ?_
              refine zq_iald hc hH (by rfl) 4 (oka_i (sj (P := fun i => oka 79 1 4 (23 + 8 * i)) hj (by decide +kernel))) (show vp_in (nI 1) 4 from vp_in_nI (by decide) (by decide)) ?_
              rw [show (1 : Int32).toNatClampNeg = 1 from rfl]
              refine z_rcs hc hH 1 (pc' := 42) (lv' := [(2, .int 1), (0, .ref (19 + 8 * j)), (1, .int (nI k))]) (st' := [.int (nI k), .int (μ.1 (23 + 8 * j) 1)]) (μ' := μ) (by rfl) ?_
              refine zq_ic hc hH (by rfl) (tg := 74) (by rfl) (fun h49 => ?_) (fun h49 => ?_)
              · have h49 : (decide ((μ.1 (23 + 8 * j) 1) = (nI k))) = false := decide_eq_false (cm_ne.mp h49)
                refine z_rcs hc hH 4 (pc' := 14) (lv' := [(2, .int 2), (0, .ref (19 + 8 * j)), (1, .int (nI k))]) (st' := [.ref (19 + 8 * j), .int 2]) (μ' := μ) (by rfl) ?_
                refine zq_gfi hc hH (by rfl) (ci := 2) (f := 4) (by rfl) (sj (P := fun i => okf 79 2 4 (19 + 8 * i)) hj (by decide +kernel)) (by rfl) ?_
                refine zq_ic hc hH (by rfl) (tg := 80) (by rfl) (fun h50 => ?_) (fun h50 => ?_)
                · have h50 : (decide ((μ.1 (19 + 8 * j) 4) ≤ (2 : Int32))) = true := decide_eq_true (cm_ge.mp h50)
                  refine z_rcs hc hH 1 (pc' := 81) (lv' := [(2, .int 2), (0, .ref (19 + 8 * j)), (1, .int (nI k))]) (st' := [.int 0]) (μ' := μ) (by rfl) ?_
                  exact hr 0 81 _ _ _ (some (.int 0)) (by decide +kernel) (z_rx_ok hH (by rfl)) (⟨(by first | with_reducible rfl | (simp only [h1, h2, h3, h33, h34, h35, h49, h50, cond_true, cond_false]; done) | rfl), (by unfold aTm; simp only [h1, h2, h3, h33, h34, h35, h49, h50, cond_true, cond_false])⟩)
                · have h50 : (decide ((μ.1 (19 + 8 * j) 4) ≤ (2 : Int32))) = false := decide_eq_false (cn_ge.mp h50)
                  refine z_rcs hc hH 4 (pc' := 26) (lv' := [(2, .int 2), (0, .ref (19 + 8 * j)), (1, .int (nI k))]) (st' := [.ref (19 + 8 * j)]) (μ' := μ) (by rfl) ?_
                  refine zq_gfr hc hH (by rfl) (ci := 2) (f := 2) (q := 22 + 8 * j) (by rfl) (sj (P := fun i => okf 79 2 2 (19 + 8 * i)) hj (by decide +kernel)) (by rfl) (sj (P := fun i => Nat.beq (z_gr (19 + 8 * i) 2) (22 + 8 * i)) hj (by decide +kernel)) ?_
                  refine z_rcs hc hH 1 (pc' := 30) (lv' := [(2, .int 2), (0, .ref (19 + 8 * j)), (1, .int (nI k))]) (st' := [.int 2, .ref (22 + 8 * j)]) (μ' := μ) (by rfl) ?_
                  refine zq_iald hc hH (by rfl) 4 (oka_i (sj (P := fun i => oka 79 1 4 (22 + 8 * i)) hj (by decide +kernel))) (show vp_in (nI 2) 4 from vp_in_nI (by decide) (by decide)) ?_
                  rw [show (2 : Int32).toNatClampNeg = 2 from rfl]
                  refine z_rcs hc hH 1 (pc' := 32) (lv' := [(2, .int 2), (0, .ref (19 + 8 * j)), (1, .int (nI k))]) (st' := [.int 1, .int (μ.1 (22 + 8 * j) 2)]) (μ' := μ) (by rfl) ?_
                  refine zq_ic hc hH (by rfl) (tg := 74) (by rfl) (fun h51 => ?_) (fun h51 => ?_)
                  · have h51 : (decide ((μ.1 (22 + 8 * j) 2) = 1)) = false := decide_eq_false (cm_ne.mp h51)
                    refine z_rcs hc hH 4 (pc' := 14) (lv' := [(2, .int 3), (0, .ref (19 + 8 * j)), (1, .int (nI k))]) (st' := [.ref (19 + 8 * j), .int 3]) (μ' := μ) (by rfl) ?_
                    refine zq_gfi hc hH (by rfl) (ci := 2) (f := 4) (by rfl) (sj (P := fun i => okf 79 2 4 (19 + 8 * i)) hj (by decide +kernel)) (by rfl) ?_
                    refine zq_ic hc hH (by rfl) (tg := 80) (by rfl) (fun h52 => ?_) (fun h52 => ?_)
                    · have h52 : (decide ((μ.1 (19 + 8 * j) 4) ≤ (3 : Int32))) = true := decide_eq_true (cm_ge.mp h52)
                      refine z_rcs hc hH 1 (pc' := 81) (lv' := [(2, .int 3), (0, .ref (19 + 8 * j)), (1, .int (nI k))]) (st' := [.int 0]) (μ' := μ) (by rfl) ?_
                      exact hr 0 81 _ _ _ (some (.int 0)) (by decide +kernel) (z_rx_ok hH (by rfl)) (⟨(by first | with_reducible rfl | (simp only [h1, h2, h3, h33, h34, h35, h49, h50, h51, h52, cond_true, cond_false]; done) | rfl), (by unfold aTm; simp only [h1, h2, h3, h33, h34, h35, h49, h50, h51, h52, cond_true, cond_false])⟩)
                    · have h52 : (decide ((μ.1 (19 + 8 * j) 4) ≤ (3 : Int32))) = false := decide_eq_false (cn_ge.mp h52)
                      refine z_rcs hc hH 4 (pc' := 26) (lv' := [(2, .int 3), (0, .ref (19 + 8 * j)), (1, .int (nI k))]) (st' := [.ref (19 + 8 * j)]) (μ' := μ) (by rfl) ?_
                      refine zq_gfr hc hH (by rfl) (ci := 2) (f := 2) (q := 22 + 8 * j) (by rfl) (sj (P := fun i => okf 79 2 2 (19 + 8 * i)) hj (by decide +kernel)) (by rfl) (sj (P := fun i => Nat.beq (z_gr (19 + 8 * i) 2) (22 + 8 * i)) hj (by decide +kernel)) ?_
                      refine z_rcs hc hH 1 (pc' := 30) (lv' := [(2, .int 3), (0, .ref (19 + 8 * j)), (1, .int (nI k))]) (st' := [.int 3, .ref (22 + 8 * j)]) (μ' := μ) (by rfl) ?_
                      refine zq_iald hc hH (by rfl) 4 (oka_i (sj (P := fun i => oka 79 1 4 (22 + 8 * i)) hj (by decide +kernel))) (show vp_in (nI 3) 4 from vp_in_nI (by decide) (by decide)) ?_
                      rw [show (3 : Int32).toNatClampNeg = 3 from rfl]
                      refine z_rcs hc hH 1 (pc' := 32) (lv' := [(2, .int 3), (0, .ref (19 + 8 * j)), (1, .int (nI k))]) (st' := [.int 1, .int (μ.1 (22 + 8 * j) 3)]) (μ' := μ) (by rfl) ?_
                      refine zq_ic hc hH (by rfl) (tg := 74) (by rfl) (fun h53 => ?_) (fun h53 => ?_)
                      · have h53 : (decide ((μ.1 (22 + 8 * j) 3) = 1)) = false := decide_eq_false (cm_ne.mp h53)
                        refine z_rcs hc hH 4 (pc' := 14) (lv' := [(2, .int 4), (0, .ref (19 + 8 * j)), (1, .int (nI k))]) (st' := [.ref (19 + 8 * j), .int 4]) (μ' := μ) (by rfl) ?_
                        refine zq_gfi hc hH (by rfl) (ci := 2) (f := 4) (by rfl) (sj (P := fun i => okf 79 2 4 (19 + 8 * i)) hj (by decide +kernel)) (by rfl) ?_
                        refine zq_ic hc hH (by rfl) (tg := 80) (by rfl) (fun h54 => ?_) (fun h54 => ?_)
                        · have h54 : (decide ((μ.1 (19 + 8 * j) 4) ≤ (4 : Int32))) = true := decide_eq_true (cm_ge.mp h54)
                          refine z_rcs hc hH 1 (pc' := 81) (lv' := [(2, .int 4), (0, .ref (19 + 8 * j)), (1, .int (nI k))]) (st' := [.int 0]) (μ' := μ) (by rfl) ?_
                          exact hr 0 81 _ _ _ (some (.int 0)) (by decide +kernel) (z_rx_ok hH (by rfl)) (⟨(by first | with_reducible rfl | (simp only [h1, h2, h3, h33, h34, h35, h49, h50, h51, h52, h53, h54, cond_true, cond_false]; done) | rfl), (by unfold aTm; simp only [h1, h2, h3, h33, h34, h35, h49, h50, h51, h52, h53, h54, cond_true, cond_false])⟩)
                        · have h54 : (decide ((μ.1 (19 + 8 * j) 4) ≤ (4 : Int32))) = false := decide_eq_false (cn_ge.mp h54)
                          refine z_rcs hc hH 4 (pc' := 81) (lv' := [(2, .int 4), (0, .ref (19 + 8 * j)), (1, .int (nI k))]) (st' := [.int 0]) (μ' := μ) (by rfl) ?_
                          exact hr 0 81 _ _ _ (some (.int 0)) (by decide +kernel) (z_rx_ok hH (by rfl)) (⟨(by first | with_reducible rfl | (simp only [h1, h2, h3, h33, h34, h35, h49, h50, h51, h52, h53, h54, cond_true, cond_false]; done) | rfl), (by unfold aTm; simp only [h1, h2, h3, h33, h34, h35, h49, h50, h51, h52, h53, h54, cond_true, cond_false])⟩)
                      · have h53 : (decide ((μ.1 (22 + 8 * j) 3) = 1)) = true := decide_eq_true (cn_ne.mp h53)
                        refine z_rcs hc hH 1 (pc' := 36) (lv' := [(2, .int 3), (0, .ref (19 + 8 * j)), (1, .int (nI k))]) (st' := [.ref (19 + 8 * j)]) (μ' := μ) (by rfl) ?_
                        refine zq_gfr hc hH (by rfl) (ci := 2) (f := 3) (q := 23 + 8 * j) (by rfl) (sj (P := fun i => okf 79 2 3 (19 + 8 * i)) hj (by decide +kernel)) (by rfl) (sj (P := fun i => Nat.beq (z_gr (19 + 8 * i) 3) (23 + 8 * i)) hj (by decide +kernel)) ?_
                        refine z_rcs hc hH 1 (pc' := 40) (lv' := [(2, .int 3), (0, .ref (19 + 8 * j)), (1, .int (nI k))]) (st' := [.int 3, .ref (23 + 8 * j)]) (μ' := μ) (by rfl) ?_
                        refine zq_iald hc hH (by rfl) 4 (oka_i (sj (P := fun i => oka 79 1 4 (23 + 8 * i)) hj (by decide +kernel))) (show vp_in (nI 3) 4 from vp_in_nI (by decide) (by decide)) ?_
                        rw [show (3 : Int32).toNatClampNeg = 3 from rfl]
                        refine z_rcs hc hH 1 (pc' := 42) (lv' := [(2, .int 3), (0, .ref (19 + 8 * j)), (1, .int (nI k))]) (st' := [.int (nI k), .int (μ.1 (23 + 8 * j) 3)]) (μ' := μ) (by rfl) ?_
                        refine zq_ic hc hH (by rfl) (tg := 74) (by rfl) (fun h55 => ?_) (fun h55 => ?_)
                        · have h55 : (decide ((μ.1 (23 + 8 * j) 3) = (nI k))) = false := decide_eq_false (cm_ne.mp h55)
                          refine z_rcs hc hH 4 (pc' := 14) (lv' := [(2, .int 4), (0, .ref (19 + 8 * j)), (1, .int (nI k))]) (st' := [.ref (19 + 8 * j), .int 4]) (μ' := μ) (by rfl) ?_
                          refine zq_gfi hc hH (by rfl) (ci := 2) (f := 4) (by rfl) (sj (P := fun i => okf 79 2 4 (19 + 8 * i)) hj (by decide +kernel)) (by rfl) ?_
                          refine zq_ic hc hH (by rfl) (tg := 80) (by rfl) (fun h56 => ?_) (fun h56 => ?_)
                          · have h56 : (decide ((μ.1 (19 + 8 * j) 4) ≤ (4 : Int32))) = true := decide_eq_true (cm_ge.mp h56)
                            refine z_rcs hc hH 1 (pc' := 81) (lv' := [(2, .int 4), (0, .ref (19 + 8 * j)), (1, .int (nI k))]) (st' := [.int 0]) (μ' := μ) (by rfl) ?_
                            exact hr 0 81 _ _ _ (some (.int 0)) (by decide +kernel) (z_rx_ok hH (by rfl)) (⟨(by first | with_reducible rfl | (simp only [h1, h2, h3, h33, h34, h35, h49, h50, h51, h52, h53, h55, h56, cond_true, cond_false]; done) | rfl), (by unfold aTm; simp only [h1, h2, h3, h33, h34, h35, h49, h50, h51, h52, h53, h55, h56, cond_true, cond_false])⟩)
                          · have h56 : (decide ((μ.1 (19 + 8 * j) 4) ≤ (4 : Int32))) = false := decide_eq_false (cn_ge.mp h56)
                            refine z_rcs hc hH 4 (pc' := 81) (lv' := [(2, .int 4), (0, .ref (19 + 8 * j)), (1, .int (nI k))]) (st' := [.int 0]) (μ' := μ) (by rfl) ?_
                            exact hr 0 81 _ _ _ (some (.int 0)) (by decide +kernel) (z_rx_ok hH (by rfl)) (⟨(by first | with_reducible rfl | (simp only [h1, h2, h3, h33, h34, h35, h49, h50, h51, h52, h53, h55, h56, cond_true, cond_false]; done) | rfl), (by unfold aTm; simp only [h1, h2, h3, h33, h34, h35, h49, h50, h51, h52, h53, h55, h56, cond_true, cond_false])⟩)
                        · have h55 : (decide ((μ.1 (23 + 8 * j) 3) = (nI k))) = true := decide_eq_true (cn_ne.mp h55)
                          refine z_rcs hc hH 1 (pc' := 46) (lv' := [(2, .int 3), (0, .ref (19 + 8 * j)), (1, .int (nI k))]) (st' := [.ref (19 + 8 * j)]) (μ' := μ) (by rfl) ?_
                          refine zq_gfr hc hH (by rfl) (ci := 2) (f := 2) (q := 22 + 8 * j) (by rfl) (sj (P := fun i => okf 79 2 2 (19 + 8 * i)) hj (by decide +kernel)) (by rfl) (sj (P := fun i => Nat.beq (z_gr (19 + 8 * i) 2) (22 + 8 * i)) hj (by decide +kernel)) ?_
                          refine z_rcs hc hH 2 (pc' := 51) (lv' := [(2, .int 3), (0, .ref (19 + 8 * j)), (1, .int (nI k))]) (st' := [.int 2, .int 3, .ref (22 + 8 * j)]) (μ' := μ) (by rfl) ?_
                          refine zq_iast hc hH (by rfl) 4 (oka_i (sj (P := fun i => oka 79 1 4 (22 + 8 * i)) hj (by decide +kernel))).2 (show vp_in (nI 3) 4 from vp_in_nI (by decide) (by decide)) ?_
                          rw [show (3 : Int32).toNatClampNeg = 3 from rfl]
                          show Z 0 52 [(2, .int 3), (0, .ref (19 + 8 * j)), (1, .int (nI k))] [] (z_ui μ (22 + 8 * j) 3 2)
                          refine z_rcs0 hc hH 1 (pc' := 53) (lv' := [(2, .int 3), (0, .ref (19 + 8 * j)), (1, .int (nI k))]) (st' := [.ref (19 + 8 * j)]) (by rfl) ?_
                          refine zq_gfr hc hH (by rfl) (ci := 2) (f := 0) (q := 20 + 8 * j) (by rfl) (sj (P := fun i => okf 79 2 0 (19 + 8 * i)) hj (by decide +kernel)) (by rfl) (sj (P := fun i => Nat.beq (z_gr (19 + 8 * i) 0) (20 + 8 * i)) hj (by decide +kernel)) ?_
                          refine z_rcs0 hc hH 2 (pc' := 58) (lv' := [(2, .int 3), (0, .ref (19 + 8 * j)), (1, .int (nI k))]) (st' := [.int (nI k), .ref (20 + 8 * j), .int (nI k), .ref (20 + 8 * j)]) (by rfl) ?_
                          refine zq_iald hc hH (by rfl) 34 (oka_i (sj (P := fun i => oka 79 1 34 (20 + 8 * i)) hj (by decide +kernel))) (vp_in_nI (by omega) (by decide)) ?_
                          rw [nI_clamp (by omega)]
                          refine zV1 (Z := Z) (ui_o (by first | decide | omega)) ?_
                          refine z_rcs0 hc hH 2 (pc' := 61) (lv' := [(2, .int 3), (0, .ref (19 + 8 * j)), (1, .int (nI k))]) (st' := [.int ((μ.1 (20 + 8 * j) k) - 1), .int (nI k), .ref (20 + 8 * j)]) (by rfl) ?_
                          refine zq_iast hc hH (by rfl) 34 (oka_i (sj (P := fun i => oka 79 1 34 (20 + 8 * i)) hj (by decide +kernel))).2 (vp_in_nI (by omega) (by decide)) ?_
                          rw [nI_clamp (by omega)]
                          show Z 0 62 [(2, .int 3), (0, .ref (19 + 8 * j)), (1, .int (nI k))] [] (z_ui (z_ui μ (22 + 8 * j) 3 2) (20 + 8 * j) k ((μ.1 (20 + 8 * j) k) - 1))
                          refine z_rcs0 hc hH 2 (pc' := 64) (lv' := [(2, .int 3), (0, .ref (19 + 8 * j)), (1, .int (nI k))]) (st' := [.ref (19 + 8 * j), .ref (19 + 8 * j)]) (by rfl) ?_
                          refine zq_gfi hc hH (by rfl) (ci := 2) (f := 5) (by rfl) (sj (P := fun i => okf 79 2 5 (19 + 8 * i)) hj (by decide +kernel)) (by rfl) ?_
                          refine zV1 (Z := Z) (Eq.trans (ui_o (by first | decide | omega)) (ui_o (by first | decide | omega))) ?_
                          refine z_rcs0 hc hH 2 (pc' := 69) (lv' := [(2, .int 3), (0, .ref (19 + 8 * j)), (1, .int (nI k))]) (st' := [.int ((μ.1 (19 + 8 * j) 5) - 1), .ref (19 + 8 * j)]) (by rfl) ?_
                          refine zq_pfi hc hH (by rfl) (ci := 2) (f := 5) (by rfl) (sj (P := fun i => okf 79 2 5 (19 + 8 * i)) hj (by decide +kernel)) (by rfl) ?_
                          show Z 0 72 [(2, .int 3), (0, .ref (19 + 8 * j)), (1, .int (nI k))] [] (z_ui (z_ui (z_ui μ (22 + 8 * j) 3 2) (20 + 8 * j) k ((μ.1 (20 + 8 * j) k) - 1)) (19 + 8 * j) 5 ((μ.1 (19 + 8 * j) 5) - 1))
                          refine z_rcs0 hc hH 1 (pc' := 73) (lv' := [(2, .int 3), (0, .ref (19 + 8 * j)), (1, .int (nI k))]) (st' := [.int 1]) (by rfl) ?_
                          exact hr 0 73 _ _ _ (some (.int 1)) (by decide +kernel) (z_rx_ok hH (by rfl)) (⟨(by first | with_reducible rfl | (simp only [h1, h2, h3, h33, h34, h35, h49, h50, h51, h52, h53, h55, cond_true, cond_false]; done) | rfl), (by unfold aTm; simp only [h1, h2, h3, h33, h34, h35, h49, h50, h51, h52, h53, h55, cond_true, cond_false])⟩)
                  · have h51 : (decide ((μ.1 (22 + 8 * j) 2) = 1)) = true := decide_eq_true (cn_ne.mp h51)
                    refine z_rcs hc hH 1 (pc' := 36) (lv' := [(2, .int 2), (0, .ref (19 + 8 * j)), (1, .int (nI k))]) (st' := [.ref (19 + 8 * j)]) (μ' := μ) (by rfl) ?_
                    refine zq_gfr hc hH (by rfl) (ci := 2) (f := 3) (q := 23 + 8 * j) (by rfl) (sj (P := fun i => okf 79 2 3 (19 + 8 * i)) hj (by decide +kernel)) (by rfl) (sj (P := fun i => Nat.beq (z_gr (19 + 8 * i) 3) (23 + 8 * i)) hj (by decide +kernel)) ?_
                    refine z_rcs hc hH 1 (pc' := 40) (lv' := [(2, .int 2), (0, .ref (19 + 8 * j)), (1, .int (nI k))]) (st' := [.int 2, .ref (23 + 8 * j)]) (μ' := μ) (by rfl) ?_
                    refine zq_iald hc hH (by rfl) 4 (oka_i (sj (P := fun i => oka 79 1 4 (23 + 8 * i)) hj (by decide +kernel))) (show vp_in (nI 2) 4 from vp_in_nI (by decide) (by decide)) ?_
                    rw [show (2 : Int32).toNatClampNeg = 2 from rfl]
                    refine z_rcs hc hH 1 (pc' := 42) (lv' := [(2, .int 2), (0, .ref (19 + 8 * j)), (1, .int (nI k))]) (st' := [.int (nI k), .int (μ.1 (23 + 8 * j) 2)]) (μ' := μ) (by rfl) ?_
                    refine zq_ic hc hH (by rfl) (tg := 74) (by rfl) (fun h57 => ?_) (fun h57 => ?_)
                    · have h57 : (decide ((μ.1 (23 + 8 * j) 2) = (nI k))) = false := decide_eq_false (cm_ne.mp h57)
                      refine z_rcs hc hH 4 (pc' := 14) (lv' := [(2, .int 3), (0, .ref (19 + 8 * j)), (1, .int (nI k))]) (st' := [.ref (19 + 8 * j), .int 3]) (μ' := μ) (by rfl) ?_
                      refine zq_gfi hc hH (by rfl) (ci := 2) (f := 4) (by rfl) (sj (P := fun i => okf 79 2 4 (19 + 8 * i)) hj (by decide +kernel)) (by rfl) ?_
                      refine zq_ic hc hH (by rfl) (tg := 80) (by rfl) (fun h58 => ?_) (fun h58 => ?_)
                      · have h58 : (decide ((μ.1 (19 + 8 * j) 4) ≤ (3 : Int32))) = true := decide_eq_true (cm_ge.mp h58)
                        refine z_rcs hc hH 1 (pc' := 81) (lv' := [(2, .int 3), (0, .ref (19 + 8 * j)), (1, .int (nI k))]) (st' := [.int 0]) (μ' := μ) (by rfl) ?_
                        exact hr 0 81 _ _ _ (some (.int 0)) (by decide +kernel) (z_rx_ok hH (by rfl)) (⟨(by first | with_reducible rfl | (simp only [h1, h2, h3, h33, h34, h35, h49, h50, h51, h57, h58, cond_true, cond_false]; done) | rfl), (by unfold aTm; simp only [h1, h2, h3, h33, h34, h35, h49, h50, h51, h57, h58, cond_true, cond_false])⟩)
                      · have h58 : (decide ((μ.1 (19 + 8 * j) 4) ≤ (3 : Int32))) = false := decide_eq_false (cn_ge.mp h58)
                        refine z_rcs hc hH 4 (pc' := 26) (lv' := [(2, .int 3), (0, .ref (19 + 8 * j)), (1, .int (nI k))]) (st' := [.ref (19 + 8 * j)]) (μ' := μ) (by rfl) ?_
                        refine zq_gfr hc hH (by rfl) (ci := 2) (f := 2) (q := 22 + 8 * j) (by rfl) (sj (P := fun i => okf 79 2 2 (19 + 8 * i)) hj (by decide +kernel)) (by rfl) (sj (P := fun i => Nat.beq (z_gr (19 + 8 * i) 2) (22 + 8 * i)) hj (by decide +kernel)) ?_
                        refine z_rcs hc hH 1 (pc' := 30) (lv' := [(2, .int 3), (0, .ref (19 + 8 * j)), (1, .int (nI k))]) (st' := [.int 3, .ref (22 + 8 * j)]) (μ' := μ) (by rfl) ?_
                        refine zq_iald hc hH (by rfl) 4 (oka_i (sj (P := fun i => oka 79 1 4 (22 + 8 * i)) hj (by decide +kernel))) (show vp_in (nI 3) 4 from vp_in_nI (by decide) (by decide)) ?_
                        rw [show (3 : Int32).toNatClampNeg = 3 from rfl]
                        refine z_rcs hc hH 1 (pc' := 32) (lv' := [(2, .int 3), (0, .ref (19 + 8 * j)), (1, .int (nI k))]) (st' := [.int 1, .int (μ.1 (22 + 8 * j) 3)]) (μ' := μ) (by rfl) ?_
                        refine zq_ic hc hH (by rfl) (tg := 74) (by rfl) (fun h59 => ?_) (fun h59 => ?_)
                        · have h59 : (decide ((μ.1 (22 + 8 * j) 3) = 1)) = false := decide_eq_false (cm_ne.mp h59)
                          refine z_rcs hc hH 4 (pc' := 14) (lv' := [(2, .int 4), (0, .ref (19 + 8 * j)), (1, .int (nI k))]) (st' := [.ref (19 + 8 * j), .int 4]) (μ' := μ) (by rfl) ?_
                          refine zq_gfi hc hH (by rfl) (ci := 2) (f := 4) (by rfl) (sj (P := fun i => okf 79 2 4 (19 + 8 * i)) hj (by decide +kernel)) (by rfl) ?_
                          refine zq_ic hc hH (by rfl) (tg := 80) (by rfl) (fun h60 => ?_) (fun h60 => ?_)
                          · have h60 : (decide ((μ.1 (19 + 8 * j) 4) ≤ (4 : Int32))) = true := decide_eq_true (cm_ge.mp h60)
                            refine z_rcs hc hH 1 (pc' := 81) (lv' := [(2, .int 4), (0, .ref (19 + 8 * j)), (1, .int (nI k))]) (st' := [.int 0]) (μ' := μ) (by rfl) ?_
                            exact hr 0 81 _ _ _ (some (.int 0)) (by decide +kernel) (z_rx_ok hH (by rfl)) (⟨(by first | with_reducible rfl | (simp only [h1, h2, h3, h33, h34, h35, h49, h50, h51, h57, h58, h59, h60, cond_true, cond_false]; done) | rfl), (by unfold aTm; simp only [h1, h2, h3, h33, h34, h35, h49, h50, h51, h57, h58, h59, h60, cond_true, cond_false])⟩)
                          · have h60 : (decide ((μ.1 (19 + 8 * j) 4) ≤ (4 : Int32))) = false := decide_eq_false (cn_ge.mp h60)
                            refine z_rcs hc hH 4 (pc' := 81) (lv' := [(2, .int 4), (0, .ref (19 + 8 * j)), (1, .int (nI k))]) (st' := [.int 0]) (μ' := μ) (by rfl) ?_
                            exact hr 0 81 _ _ _ (some (.int 0)) (by decide +kernel) (z_rx_ok hH (by rfl)) (⟨(by first | with_reducible rfl | (simp only [h1, h2, h3, h33, h34, h35, h49, h50, h51, h57, h58, h59, h60, cond_true, cond_false]; done) | rfl), (by unfold aTm; simp only [h1, h2, h3, h33, h34, h35, h49, h50, h51, h57, h58, h59, h60, cond_true, cond_false])⟩)
                        · have h59 : (decide ((μ.1 (22 + 8 * j) 3) = 1)) = true := decide_eq_true (cn_ne.mp h59)
                          refine z_rcs hc hH 1 (pc' := 36) (lv' := [(2, .int 3), (0, .ref (19 + 8 * j)), (1, .int (nI k))]) (st' := [.ref (19 + 8 * j)]) (μ' := μ) (by rfl) ?_
                          refine zq_gfr hc hH (by rfl) (ci := 2) (f := 3) (q := 23 + 8 * j) (by rfl) (sj (P := fun i => okf 79 2 3 (19 + 8 * i)) hj (by decide +kernel)) (by rfl) (sj (P := fun i => Nat.beq (z_gr (19 + 8 * i) 3) (23 + 8 * i)) hj (by decide +kernel)) ?_
                          refine z_rcs hc hH 1 (pc' := 40) (lv' := [(2, .int 3), (0, .ref (19 + 8 * j)), (1, .int (nI k))]) (st' := [.int 3, .ref (23 + 8 * j)]) (μ' := μ) (by rfl) ?_
                          refine zq_iald hc hH (by rfl) 4 (oka_i (sj (P := fun i => oka 79 1 4 (23 + 8 * i)) hj (by decide +kernel))) (show vp_in (nI 3) 4 from vp_in_nI (by decide) (by decide)) ?_
                          rw [show (3 : Int32).toNatClampNeg = 3 from rfl]
                          refine z_rcs hc hH 1 (pc' := 42) (lv' := [(2, .int 3), (0, .ref (19 + 8 * j)), (1, .int (nI k))]) (st' := [.int (nI k), .int (μ.1 (23 + 8 * j) 3)]) (μ' := μ) (by rfl) ?_
                          refine zq_ic hc hH (by rfl) (tg := 74) (by rfl) (fun h61 => ?_) (fun h61 => ?_)
                          · have h61 : (decide ((μ.1 (23 + 8 * j) 3) = (nI k))) = false := decide_eq_false (cm_ne.mp h61)
                            refine z_rcs hc hH 4 (pc' := 14) (lv' := [(2, .int 4), (0, .ref (19 + 8 * j)), (1, .int (nI k))]) (st' := [.ref (19 + 8 * j), .int 4]) (μ' := μ) (by rfl) ?_
                            refine zq_gfi hc hH (by rfl) (ci := 2) (f := 4) (by rfl) (sj (P := fun i => okf 79 2 4 (19 + 8 * i)) hj (by decide +kernel)) (by rfl) ?_
                            refine zq_ic hc hH (by rfl) (tg := 80) (by rfl) (fun h62 => ?_) (fun h62 => ?_)
                            · have h62 : (decide ((μ.1 (19 + 8 * j) 4) ≤ (4 : Int32))) = true := decide_eq_true (cm_ge.mp h62)
                              refine z_rcs hc hH 1 (pc' := 81) (lv' := [(2, .int 4), (0, .ref (19 + 8 * j)), (1, .int (nI k))]) (st' := [.int 0]) (μ' := μ) (by rfl) ?_
                              exact hr 0 81 _ _ _ (some (.int 0)) (by decide +kernel) (z_rx_ok hH (by rfl)) (⟨(by first | with_reducible rfl | (simp only [h1, h2, h3, h33, h34, h35, h49, h50, h51, h57, h58, h59, h61, h62, cond_true, cond_false]; done) | rfl), (by unfold aTm; simp only [h1, h2, h3, h33, h34, h35, h49, h50, h51, h57, h58, h59, h61, h62, cond_true, cond_false])⟩)
                            · have h62 : (decide ((μ.1 (19 + 8 * j) 4) ≤ (4 : Int32))) = false := decide_eq_false (cn_ge.mp h62)
                              refine z_rcs hc hH 4 (pc' := 81) (lv' := [(2, .int 4), (0, .ref (19 + 8 * j)), (1, .int (nI k))]) (st' := [.int 0]) (μ' := μ) (by rfl) ?_
                              exact hr 0 81 _ _ _ (some (.int 0)) (by decide +kernel) (z_rx_ok hH (by rfl)) (⟨(by first | with_reducible rfl | (simp only [h1, h2, h3, h33, h34, h35, h49, h50, h51, h57, h58, h59, h61, h62, cond_true, cond_false]; done) | rfl), (by unfold aTm; simp only [h1, h2, h3, h33, h34, h35, h49, h50, h51, h57, h58, h59, h61, h62, cond_true, cond_false])⟩)
                          · have h61 : (decide ((μ.1 (23 + 8 * j) 3) = (nI k))) = true := decide_eq_true (cn_ne.mp h61)
                            refine z_rcs hc hH 1 (pc' := 46) (lv' := [(2, .int 3), (0, .ref (19 + 8 * j)), (1, .int (nI k))]) (st' := [.ref (19 + 8 * j)]) (μ' := μ) (by rfl) ?_
                            refine zq_gfr hc hH (by rfl) (ci := 2) (f := 2) (q := 22 + 8 * j) (by rfl) (sj (P := fun i => okf 79 2 2 (19 + 8 * i)) hj (by decide +kernel)) (by rfl) (sj (P := fun i => Nat.beq (z_gr (19 + 8 * i) 2) (22 + 8 * i)) hj (by decide +kernel)) ?_
                            refine z_rcs hc hH 2 (pc' := 51) (lv' := [(2, .int 3), (0, .ref (19 + 8 * j)), (1, .int (nI k))]) (st' := [.int 2, .int 3, .ref (22 + 8 * j)]) (μ' := μ) (by rfl) ?_
                            refine zq_iast hc hH (by rfl) 4 (oka_i (sj (P := fun i => oka 79 1 4 (22 + 8 * i)) hj (by decide +kernel))).2 (show vp_in (nI 3) 4 from vp_in_nI (by decide) (by decide)) ?_
                            rw [show (3 : Int32).toNatClampNeg = 3 from rfl]
                            show Z 0 52 [(2, .int 3), (0, .ref (19 + 8 * j)), (1, .int (nI k))] [] (z_ui μ (22 + 8 * j) 3 2)
                            refine z_rcs0 hc hH 1 (pc' := 53) (lv' := [(2, .int 3), (0, .ref (19 + 8 * j)), (1, .int (nI k))]) (st' := [.ref (19 + 8 * j)]) (by rfl) ?_
                            refine zq_gfr hc hH (by rfl) (ci := 2) (f := 0) (q := 20 + 8 * j) (by rfl) (sj (P := fun i => okf 79 2 0 (19 + 8 * i)) hj (by decide +kernel)) (by rfl) (sj (P := fun i => Nat.beq (z_gr (19 + 8 * i) 0) (20 + 8 * i)) hj (by decide +kernel)) ?_
                            refine z_rcs0 hc hH 2 (pc' := 58) (lv' := [(2, .int 3), (0, .ref (19 + 8 * j)), (1, .int (nI k))]) (st' := [.int (nI k), .ref (20 + 8 * j), .int (nI k), .ref (20 + 8 * j)]) (by rfl) ?_
                            refine zq_iald hc hH (by rfl) 34 (oka_i (sj (P := fun i => oka 79 1 34 (20 + 8 * i)) hj (by decide +kernel))) (vp_in_nI (by omega) (by decide)) ?_
                            rw [nI_clamp (by omega)]
                            refine zV1 (Z := Z) (ui_o (by first | decide | omega)) ?_
                            refine z_rcs0 hc hH 2 (pc' := 61) (lv' := [(2, .int 3), (0, .ref (19 + 8 * j)), (1, .int (nI k))]) (st' := [.int ((μ.1 (20 + 8 * j) k) - 1), .int (nI k), .ref (20 + 8 * j)]) (by rfl) ?_
                            refine zq_iast hc hH (by rfl) 34 (oka_i (sj (P := fun i => oka 79 1 34 (20 + 8 * i)) hj (by decide +kernel))).2 (vp_in_nI (by omega) (by decide)) ?_
                            rw [nI_clamp (by omega)]
                            show Z 0 62 [(2, .int 3), (0, .ref (19 + 8 * j)), (1, .int (nI k))] [] (z_ui (z_ui μ (22 + 8 * j) 3 2) (20 + 8 * j) k ((μ.1 (20 + 8 * j) k) - 1))
                            refine z_rcs0 hc hH 2 (pc' := 64) (lv' := [(2, .int 3), (0, .ref (19 + 8 * j)), (1, .int (nI k))]) (st' := [.ref (19 + 8 * j), .ref (19 + 8 * j)]) (by rfl) ?_
                            refine zq_gfi hc hH (by rfl) (ci := 2) (f := 5) (by rfl) (sj (P := fun i => okf 79 2 5 (19 + 8 * i)) hj (by decide +kernel)) (by rfl) ?_
                            refine zV1 (Z := Z) (Eq.trans (ui_o (by first | decide | omega)) (ui_o (by first | decide | omega))) ?_
                            refine z_rcs0 hc hH 2 (pc' := 69) (lv' := [(2, .int 3), (0, .ref (19 + 8 * j)), (1, .int (nI k))]) (st' := [.int ((μ.1 (19 + 8 * j) 5) - 1), .ref (19 + 8 * j)]) (by rfl) ?_
                            refine zq_pfi hc hH (by rfl) (ci := 2) (f := 5) (by rfl) (sj (P := fun i => okf 79 2 5 (19 + 8 * i)) hj (by decide +kernel)) (by rfl) ?_
                            show Z 0 72 [(2, .int 3), (0, .ref (19 + 8 * j)), (1, .int (nI k))] [] (z_ui (z_ui (z_ui μ (22 + 8 * j) 3 2) (20 + 8 * j) k ((μ.1 (20 + 8 * j) k) - 1)) (19 + 8 * j) 5 ((μ.1 (19 + 8 * j) 5) - 1))
                            refine z_rcs0 hc hH 1 (pc' := 73) (lv' := [(2, .int 3), (0, .ref (19 + 8 * j)), (1, .int (nI k))]) (st' := [.int 1]) (by rfl) ?_
                            exact hr 0 73 _ _ _ (some (.int 1)) (by decide +kernel) (z_rx_ok hH (by rfl)) (⟨(by first | with_reducible rfl | (simp only [h1, h2, h3, h33, h34, h35, h49, h50, h51, h57, h58, h59, h61, cond_true, cond_false]; done) | rfl), (by unfold aTm; simp only [h1, h2, h3, h33, h34, h35, h49, h50, h51, h57, h58, h59, h61, cond_true, cond_false])⟩)
                    · have h57 : (decide ((μ.1 (23 + 8 * j) 2) = (nI k))) = true := decide_eq_true (cn_ne.mp h57)
                      refine z_rcs hc hH 1 (pc' := 46) (lv' := [(2, .int 2), (0, .ref (19 + 8 * j)), (1, .int (nI k))]) (st' := [.ref (19 + 8 * j)]) (μ' := μ) (by rfl) ?_
                      refine zq_gfr hc hH (by rfl) (ci := 2) (f := 2) (q := 22 + 8 * j) (by rfl) (sj (P := fun i => okf 79 2 2 (19 + 8 * i)) hj (by decide +kernel)) (by rfl) (sj (P := fun i => Nat.beq (z_gr (19 + 8 * i) 2) (22 + 8 * i)) hj (by decide +kernel)) ?_
                      refine z_rcs hc hH 2 (pc' := 51) (lv' := [(2, .int 2), (0, .ref (19 + 8 * j)), (1, .int (nI k))]) (st' := [.int 2, .int 2, .ref (22 + 8 * j)]) (μ' := μ) (by rfl) ?_
                      refine zq_iast hc hH (by rfl) 4 (oka_i (sj (P := fun i => oka 79 1 4 (22 + 8 * i)) hj (by decide +kernel))).2 (show vp_in (nI 2) 4 from vp_in_nI (by decide) (by decide)) ?_
                      rw [show (2 : Int32).toNatClampNeg = 2 from rfl]
                      show Z 0 52 [(2, .int 2), (0, .ref (19 + 8 * j)), (1, .int (nI k))] [] (z_ui μ (22 + 8 * j) 2 2)
                      refine z_rcs0 hc hH 1 (pc' := 53) (lv' := [(2, .int 2), (0, .ref (19 + 8 * j)), (1, .int (nI k))]) (st' := [.ref (19 + 8 * j)]) (by rfl) ?_
                      refine zq_gfr hc hH (by rfl) (ci := 2) (f := 0) (q := 20 + 8 * j) (by rfl) (sj (P := fun i => okf 79 2 0 (19 + 8 * i)) hj (by decide +kernel)) (by rfl) (sj (P := fun i => Nat.beq (z_gr (19 + 8 * i) 0) (20 + 8 * i)) hj (by decide +kernel)) ?_
                      refine z_rcs0 hc hH 2 (pc' := 58) (lv' := [(2, .int 2), (0, .ref (19 + 8 * j)), (1, .int (nI k))]) (st' := [.int (nI k), .ref (20 + 8 * j), .int (nI k), .ref (20 + 8 * j)]) (by rfl) ?_
                      refine zq_iald hc hH (by rfl) 34 (oka_i (sj (P := fun i => oka 79 1 34 (20 + 8 * i)) hj (by decide +kernel))) (vp_in_nI (by omega) (by decide)) ?_
                      rw [nI_clamp (by omega)]
                      refine zV1 (Z := Z) (ui_o (by first | decide | omega)) ?_
                      refine z_rcs0 hc hH 2 (pc' := 61) (lv' := [(2, .int 2), (0, .ref (19 + 8 * j)), (1, .int (nI k))]) (st' := [.int ((μ.1 (20 + 8 * j) k) - 1), .int (nI k), .ref (20 + 8 * j)]) (by rfl) ?_
                      refine zq_iast hc hH (by rfl) 34 (oka_i (sj (P := fun i => oka 79 1 34 (20 + 8 * i)) hj (by decide +kernel))).2 (vp_in_nI (by omega) (by decide)) ?_
                      rw [nI_clamp (by omega)]
                      show Z 0 62 [(2, .int 2), (0, .ref (19 + 8 * j)), (1, .int (nI k))] [] (z_ui (z_ui μ (22 + 8 * j) 2 2) (20 + 8 * j) k ((μ.1 (20 + 8 * j) k) - 1))
                      refine z_rcs0 hc hH 2 (pc' := 64) (lv' := [(2, .int 2), (0, .ref (19 + 8 * j)), (1, .int (nI k))]) (st' := [.ref (19 + 8 * j), .ref (19 + 8 * j)]) (by rfl) ?_
                      refine zq_gfi hc hH (by rfl) (ci := 2) (f := 5) (by rfl) (sj (P := fun i => okf 79 2 5 (19 + 8 * i)) hj (by decide +kernel)) (by rfl) ?_
                      refine zV1 (Z := Z) (Eq.trans (ui_o (by first | decide | omega)) (ui_o (by first | decide | omega))) ?_
                      refine z_rcs0 hc hH 2 (pc' := 69) (lv' := [(2, .int 2), (0, .ref (19 + 8 * j)), (1, .int (nI k))]) (st' := [.int ((μ.1 (19 + 8 * j) 5) - 1), .ref (19 + 8 * j)]) (by rfl) ?_
                      refine zq_pfi hc hH (by rfl) (ci := 2) (f := 5) (by rfl) (sj (P := fun i => okf 79 2 5 (19 + 8 * i)) hj (by decide +kernel)) (by rfl) ?_
                      show Z 0 72 [(2, .int 2), (0, .ref (19 + 8 * j)), (1, .int (nI k))] [] (z_ui (z_ui (z_ui μ (22 + 8 * j) 2 2) (20 + 8 * j) k ((μ.1 (20 + 8 * j) k) - 1)) (19 + 8 * j) 5 ((μ.1 (19 + 8 * j) 5) - 1))
                      refine z_rcs0 hc hH 1 (pc' := 73) (lv' := [(2, .int 2), (0, .ref (19 + 8 * j)), (1, .int (nI k))]) (st' := [.int 1]) (by rfl) ?_
                      exact hr 0 73 _ _ _ (some (.int 1)) (by decide +kernel) (z_rx_ok hH (by rfl)) (⟨(by first | with_reducible rfl | (simp only [h1, h2, h3, h33, h34, h35, h49, h50, h51, h57, cond_true, cond_false]; done) | rfl), (by unfold aTm; simp only [h1, h2, h3, h33, h34, h35, h49, h50, h51, h57, cond_true, cond_false])⟩)
              · have h49 : (decide ((μ.1 (23 + 8 * j) 1) = (nI k))) = true := decide_eq_true (cn_ne.mp h49)
                refine z_rcs hc hH 1 (pc' := 46) (lv' := [(2, .int 1), (0, .ref (19 + 8 * j)), (1, .int (nI k))]) (st' := [.ref (19 + 8 * j)]) (μ' := μ) (by rfl) ?_
                refine zq_gfr hc hH (by rfl) (ci := 2) (f := 2) (q := 22 + 8 * j) (by rfl) (sj (P := fun i => okf 79 2 2 (19 + 8 * i)) hj (by decide +kernel)) (by rfl) (sj (P := fun i => Nat.beq (z_gr (19 + 8 * i) 2) (22 + 8 * i)) hj (by decide +kernel)) ?_
                refine z_rcs hc hH 2 (pc' := 51) (lv' := [(2, .int 1), (0, .ref (19 + 8 * j)), (1, .int (nI k))]) (st' := [.int 2, .int 1, .ref (22 + 8 * j)]) (μ' := μ) (by rfl) ?_
                refine zq_iast hc hH (by rfl) 4 (oka_i (sj (P := fun i => oka 79 1 4 (22 + 8 * i)) hj (by decide +kernel))).2 (show vp_in (nI 1) 4 from vp_in_nI (by decide) (by decide)) ?_
                rw [show (1 : Int32).toNatClampNeg = 1 from rfl]
                show Z 0 52 [(2, .int 1), (0, .ref (19 + 8 * j)), (1, .int (nI k))] [] (z_ui μ (22 + 8 * j) 1 2)
                refine z_rcs0 hc hH 1 (pc' := 53) (lv' := [(2, .int 1), (0, .ref (19 + 8 * j)), (1, .int (nI k))]) (st' := [.ref (19 + 8 * j)]) (by rfl) ?_
                refine zq_gfr hc hH (by rfl) (ci := 2) (f := 0) (q := 20 + 8 * j) (by rfl) (sj (P := fun i => okf 79 2 0 (19 + 8 * i)) hj (by decide +kernel)) (by rfl) (sj (P := fun i => Nat.beq (z_gr (19 + 8 * i) 0) (20 + 8 * i)) hj (by decide +kernel)) ?_
                refine z_rcs0 hc hH 2 (pc' := 58) (lv' := [(2, .int 1), (0, .ref (19 + 8 * j)), (1, .int (nI k))]) (st' := [.int (nI k), .ref (20 + 8 * j), .int (nI k), .ref (20 + 8 * j)]) (by rfl) ?_
                refine zq_iald hc hH (by rfl) 34 (oka_i (sj (P := fun i => oka 79 1 34 (20 + 8 * i)) hj (by decide +kernel))) (vp_in_nI (by omega) (by decide)) ?_
                rw [nI_clamp (by omega)]
                refine zV1 (Z := Z) (ui_o (by first | decide | omega)) ?_
                refine z_rcs0 hc hH 2 (pc' := 61) (lv' := [(2, .int 1), (0, .ref (19 + 8 * j)), (1, .int (nI k))]) (st' := [.int ((μ.1 (20 + 8 * j) k) - 1), .int (nI k), .ref (20 + 8 * j)]) (by rfl) ?_
                refine zq_iast hc hH (by rfl) 34 (oka_i (sj (P := fun i => oka 79 1 34 (20 + 8 * i)) hj (by decide +kernel))).2 (vp_in_nI (by omega) (by decide)) ?_
                rw [nI_clamp (by omega)]
                show Z 0 62 [(2, .int 1), (0, .ref (19 + 8 * j)), (1, .int (nI k))] [] (z_ui (z_ui μ (22 + 8 * j) 1 2) (20 + 8 * j) k ((μ.1 (20 + 8 * j) k) - 1))
                refine z_rcs0 hc hH 2 (pc' := 64) (lv' := [(2, .int 1), (0, .ref (19 + 8 * j)), (1, .int (nI k))]) (st' := [.ref (19 + 8 * j), .ref (19 + 8 * j)]) (by rfl) ?_
                refine zq_gfi hc hH (by rfl) (ci := 2) (f := 5) (by rfl) (sj (P := fun i => okf 79 2 5 (19 + 8 * i)) hj (by decide +kernel)) (by rfl) ?_
                refine zV1 (Z := Z) (Eq.trans (ui_o (by first | decide | omega)) (ui_o (by first | decide | omega))) ?_
                refine z_rcs0 hc hH 2 (pc' := 69) (lv' := [(2, .int 1), (0, .ref (19 + 8 * j)), (1, .int (nI k))]) (st' := [.int ((μ.1 (19 + 8 * j) 5) - 1), .ref (19 + 8 * j)]) (by rfl) ?_
                refine zq_pfi hc hH (by rfl) (ci := 2) (f := 5) (by rfl) (sj (P := fun i => okf 79 2 5 (19 + 8 * i)) hj (by decide +kernel)) (by rfl) ?_
                show Z 0 72 [(2, .int 1), (0, .ref (19 + 8 * j)), (1, .int (nI k))] [] (z_ui (z_ui (z_ui μ (22 + 8 * j) 1 2) (20 + 8 * j) k ((μ.1 (20 + 8 * j) k) - 1)) (19 + 8 * j) 5 ((μ.1 (19 + 8 * j) 5) - 1))
                refine z_rcs0 hc hH 1 (pc' := 73) (lv' := [(2, .int 1), (0, .ref (19 + 8 * j)), (1, .int (nI k))]) (st' := [.int 1]) (by rfl) ?_
                exact hr 0 73 _ _ _ (some (.int 1)) (by decide +kernel) (z_rx_ok hH (by rfl)) (⟨(by first | with_reducible rfl | (simp only [h1, h2, h3, h33, h34, h35, h49, cond_true, cond_false]; done) | rfl), (by unfold aTm; simp only [h1, h2, h3, h33, h34, h35, h49, cond_true, cond_false])⟩)
        · have h33 : (decide ((μ.1 (23 + 8 * j) 0) = (nI k))) = true := decide_eq_true (cn_ne.mp h33)
          refine z_rcs hc hH 1 (pc' := 46) (lv' := [(2, .int 0), (0, .ref (19 + 8 * j)), (1, .int (nI k))]) (st' := [.ref (19 + 8 * j)]) (μ' := μ) (by rfl) ?_
          refine zq_gfr hc hH (by rfl) (ci := 2) (f := 2) (q := 22 + 8 * j) (by rfl) (sj (P := fun i => okf 79 2 2 (19 + 8 * i)) hj (by decide +kernel)) (by rfl) (sj (P := fun i => Nat.beq (z_gr (19 + 8 * i) 2) (22 + 8 * i)) hj (by decide +kernel)) ?_
          refine z_rcs hc hH 2 (pc' := 51) (lv' := [(2, .int 0), (0, .ref (19 + 8 * j)), (1, .int (nI k))]) (st' := [.int 2, .int 0, .ref (22 + 8 * j)]) (μ' := μ) (by rfl) ?_
          refine zq_iast hc hH (by rfl) 4 (oka_i (sj (P := fun i => oka 79 1 4 (22 + 8 * i)) hj (by decide +kernel))).2 (show vp_in (nI 0) 4 from vp_in_nI (by decide) (by decide)) ?_
          rw [show (0 : Int32).toNatClampNeg = 0 from rfl]
          show Z 0 52 [(2, .int 0), (0, .ref (19 + 8 * j)), (1, .int (nI k))] [] (z_ui μ (22 + 8 * j) 0 2)
          refine z_rcs0 hc hH 1 (pc' := 53) (lv' := [(2, .int 0), (0, .ref (19 + 8 * j)), (1, .int (nI k))]) (st' := [.ref (19 + 8 * j)]) (by rfl) ?_
          refine zq_gfr hc hH (by rfl) (ci := 2) (f := 0) (q := 20 + 8 * j) (by rfl) (sj (P := fun i => okf 79 2 0 (19 + 8 * i)) hj (by decide +kernel)) (by rfl) (sj (P := fun i => Nat.beq (z_gr (19 + 8 * i) 0) (20 + 8 * i)) hj (by decide +kernel)) ?_
          refine z_rcs0 hc hH 2 (pc' := 58) (lv' := [(2, .int 0), (0, .ref (19 + 8 * j)), (1, .int (nI k))]) (st' := [.int (nI k), .ref (20 + 8 * j), .int (nI k), .ref (20 + 8 * j)]) (by rfl) ?_
          refine zq_iald hc hH (by rfl) 34 (oka_i (sj (P := fun i => oka 79 1 34 (20 + 8 * i)) hj (by decide +kernel))) (vp_in_nI (by omega) (by decide)) ?_
          rw [nI_clamp (by omega)]
          refine zV1 (Z := Z) (ui_o (by first | decide | omega)) ?_
          refine z_rcs0 hc hH 2 (pc' := 61) (lv' := [(2, .int 0), (0, .ref (19 + 8 * j)), (1, .int (nI k))]) (st' := [.int ((μ.1 (20 + 8 * j) k) - 1), .int (nI k), .ref (20 + 8 * j)]) (by rfl) ?_
          refine zq_iast hc hH (by rfl) 34 (oka_i (sj (P := fun i => oka 79 1 34 (20 + 8 * i)) hj (by decide +kernel))).2 (vp_in_nI (by omega) (by decide)) ?_
          rw [nI_clamp (by omega)]
          show Z 0 62 [(2, .int 0), (0, .ref (19 + 8 * j)), (1, .int (nI k))] [] (z_ui (z_ui μ (22 + 8 * j) 0 2) (20 + 8 * j) k ((μ.1 (20 + 8 * j) k) - 1))
          refine z_rcs0 hc hH 2 (pc' := 64) (lv' := [(2, .int 0), (0, .ref (19 + 8 * j)), (1, .int (nI k))]) (st' := [.ref (19 + 8 * j), .ref (19 + 8 * j)]) (by rfl) ?_
          refine zq_gfi hc hH (by rfl) (ci := 2) (f := 5) (by rfl) (sj (P := fun i => okf 79 2 5 (19 + 8 * i)) hj (by decide +kernel)) (by rfl) ?_
          refine zV1 (Z := Z) (Eq.trans (ui_o (by first | decide | omega)) (ui_o (by first | decide | omega))) ?_
          refine z_rcs0 hc hH 2 (pc' := 69) (lv' := [(2, .int 0), (0, .ref (19 + 8 * j)), (1, .int (nI k))]) (st' := [.int ((μ.1 (19 + 8 * j) 5) - 1), .ref (19 + 8 * j)]) (by rfl) ?_
          refine zq_pfi hc hH (by rfl) (ci := 2) (f := 5) (by rfl) (sj (P := fun i => okf 79 2 5 (19 + 8 * i)) hj (by decide +kernel)) (by rfl) ?_
          show Z 0 72 [(2, .int 0), (0, .ref (19 + 8 * j)), (1, .int (nI k))] [] (z_ui (z_ui (z_ui μ (22 + 8 * j) 0 2) (20 + 8 * j) k ((μ.1 (20 + 8 * j) k) - 1)) (19 + 8 * j) 5 ((μ.1 (19 + 8 * j) 5) - 1))
          refine z_rcs0 hc hH 1 (pc' := 73) (lv' := [(2, .int 0), (0, .ref (19 + 8 * j)), (1, .int (nI k))]) (st' := [.int 1]) (by rfl) ?_
          exact hr 0 73 _ _ _ (some (.int 1)) (by decide +kernel) (z_rx_ok hH (by rfl)) (⟨(by first | with_reducible rfl | (simp only [h1, h2, h3, h33, cond_true, cond_false]; done) | rfl), (by unfold aTm; simp only [h1, h2, h3, h33, cond_true, cond_false])⟩)
  · have h1 : (decide ((fr μ (20 + 8 * j) (nI k)) = 0)) = true := decide_eq_true (cn_ne.mp h1)
    refine z_rcs hc hH 1 (pc' := 9) (lv' := [(0, .ref (19 + 8 * j)), (1, .int (nI k))]) (st' := [.int 0]) (μ' := μ) (by rfl) ?_
    exact hr 0 9 _ _ _ (some (.int 0)) (by decide +kernel) (z_rx_ok hH (by rfl)) (⟨(by first | with_reducible rfl | (simp only [h1, cond_true, cond_false]; done) | rfl), (by unfold aTm; simp only [h1, cond_true, cond_false])⟩)

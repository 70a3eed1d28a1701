/-! the game: all that said so win, of the class -/
set_option maxRecDepth 8000
/-- but for the judge of the game -/
noncomputable def WOj (M W : zM) : Prop := ∀ r k, (r < 4 ∨ 7 < r) → W.1 r k = M.1 r k ∧ W.2.1 r k = M.2.1 r k
/-- but for the judge, points, bets on the table and records -/
noncomputable def WE (M W : zM) : Prop := ∀ r k, (r < 4 ∨ 7 < r) → (k ≠ 4 ∨ (r ≠ 18 ∧ r ≠ 26 ∧ r ≠ 34 ∧ r ≠ 42)) → (r ≠ 0 ∨ (k ≠ 12 ∧ k ≠ 6)) → (r ≠ 25 ∧ r ≠ 33 ∧ r ≠ 41 ∧ r ≠ 49) → W.1 r k = M.1 r k ∧ W.2.1 r k = M.2.1 r k
theorem WE_rf (μ : zM) : WE μ μ := fun _ _ _ _ _ _ => ⟨rfl, rfl⟩
theorem WE_wo {μ M W : zM} (h : WE μ M) (h2 : WOj M W) : WE μ W := fun r k a b c d => ⟨((h2 r k a).1).trans (h r k a b c d).1, ((h2 r k a).2).trans (h r k a b c d).2⟩
theorem WE_p {μ M : zM} (h : WE μ M) {u : Nat} (hu : u < 4) {x : Int32} : WE μ (z_ui M (18 + 8 * u) 4 x) := fun r k a b c d => ⟨by
  refine Eq.trans ?_ (h r k a b c d).1
  by_cases e : k = 4
  · exact ui_o (by first | decide | omega)
  · exact ui_k e, (h r k a b c d).2⟩
theorem WE_b {μ M : zM} (h : WE μ M) {x : Int32} : WE μ (z_ui M 0 12 x) := fun r k a b c d => ⟨by
  refine Eq.trans ?_ (h r k a b c d).1
  by_cases e : k = 12
  · exact ui_o (by first | decide | omega)
  · exact ui_k e, (h r k a b c d).2⟩
theorem WE_rc {μ M : zM} (h : WE μ M) {wc : Nat} (hw : wc < 4) {s pa go : Int32} : WE μ (rcW M wc s pa go) := fun r k a b c d => ⟨(rcW_o (by first | decide | omega)).trans (h r k a b c d).1, (rcW_j (by omega)).trans (h r k a b c d).2⟩
noncomputable def bqJ (μ : zM) : Q4 := (μ.1 4 0, μ.1 4 1, μ.1 4 2, μ.2.1 4 3)
theorem a_H_pt {M : zM} (h : a_H M) {u : Nat} (hu : u < 4) {x : Int32} : a_H (z_ui M (18 + 8 * u) 4 x) := by
  obtain rfl | rfl | rfl | rfl : u = 0 ∨ u = 1 ∨ u = 2 ∨ u = 3 := by omega
  all_goals exact a_H_ui h (bI_top _)
theorem a_H_rcW {M : zM} (h : a_H M) {wc : Nat} (hw : wc < 4) {s pa go : Int32} : a_H (rcW M wc s pa go) := by
  unfold rcW
  obtain rfl | rfl | rfl | rfl : wc = 0 ∨ wc = 1 ∨ wc = 2 ∨ wc = 3 := by omega
  all_goals exact a_H_ui (a_H_ui (a_H_uj (a_H_ui (a_H_ui (a_H_ui (a_H_ui (a_H_ui (a_H_ui h (bI_top _)) (bI_top _)) (bI_top _)) (bI_top _)) (bI_top _)) (bI_top _))) (bI_top _)) (bI_top _)
theorem rcW_6 {μ : zM} {wc : Nat} {s pa go : Int32} : (rcW μ wc s pa go).1 0 6 = nI (wc + 1) := by
  unfold rcW
  rw [ui_o (by first | decide | omega), ui_o (by first | decide | omega), uj_i, ui_o (by first | decide | omega), ui_o (by first | decide | omega), ui_o (by first | decide | omega), ui_o (by first | decide | omega), ui_o (by first | decide | omega), ui_s]
noncomputable def wA001 (W3 : zM) (t dl e u1 u2 u3 : Nat) (v3 : Q4) (μ : zM) : zM := eHB (z_ui (rcW (z_ui (z_ui W3 (18 + 8 * t) 4 ((μ.1 (18 + 8 * t) 4) - ((hnd (v3.1 * (bif decide ((nI u3) = (nI dl)) then (6 : Int32) else 4))) + (300 * (μ.1 0 11))))) (18 + 8 * u3) 4 ((μ.1 (18 + 8 * u3) 4) + (((hnd (v3.1 * (bif decide ((nI u3) = (nI dl)) then (6 : Int32) else 4))) + (300 * (μ.1 0 11))) + ((μ.1 0 12) * 1000)))) 0 (nI u3) (nI t) (((hnd (v3.1 * (bif decide ((nI u3) = (nI dl)) then (6 : Int32) else 4))) + (300 * (μ.1 0 11))) + ((μ.1 0 12) * 1000))) 0 12 0) (decide ((nI u3) = (nI dl))) (!(decide ((nI u3) = (nI dl)))) (xBk (z_ui (rcW (z_ui (z_ui W3 (18 + 8 * t) 4 ((μ.1 (18 + 8 * t) 4) - ((hnd (v3.1 * (bif decide ((nI u3) = (nI dl)) then (6 : Int32) else 4))) + (300 * (μ.1 0 11))))) (18 + 8 * u3) 4 ((μ.1 (18 + 8 * u3) 4) + (((hnd (v3.1 * (bif decide ((nI u3) = (nI dl)) then (6 : Int32) else 4))) + (300 * (μ.1 0 11))) + ((μ.1 0 12) * 1000)))) 0 (nI u3) (nI t) (((hnd (v3.1 * (bif decide ((nI u3) = (nI dl)) then (6 : Int32) else 4))) + (300 * (μ.1 0 11))) + ((μ.1 0 12) * 1000))) 0 12 0)) dl e (rcM (z_ui (rcW (z_ui (z_ui W3 (18 + 8 * t) 4 ((μ.1 (18 + 8 * t) 4) - ((hnd (v3.1 * (bif decide ((nI u3) = (nI dl)) then (6 : Int32) else 4))) + (300 * (μ.1 0 11))))) (18 + 8 * u3) 4 ((μ.1 (18 + 8 * u3) 4) + (((hnd (v3.1 * (bif decide ((nI u3) = (nI dl)) then (6 : Int32) else 4))) + (300 * (μ.1 0 11))) + ((μ.1 0 12) * 1000)))) 0 (nI u3) (nI t) (((hnd (v3.1 * (bif decide ((nI u3) = (nI dl)) then (6 : Int32) else 4))) + (300 * (μ.1 0 11))) + ((μ.1 0 12) * 1000))) 0 12 0))
theorem gc_winByTile001 (d : Nat) (hd : 11 ≤ d) (μ : zM) (t c u1 u2 u3 : Nat) (ht4 : t < 4) (ht : μ.1 0 8 = nI t) (hu1 : (t + 1) % 4 = u1) (hu14 : u1 < 4) (hu2 : (t + 2) % 4 = u2) (hu24 : u2 < 4) (hu3 : (t + 3) % 4 = u3) (hu34 : u3 < 4) (dl e : Nat) (hdl : μ.1 0 9 = nI dl) (hdl4 : dl < 4) (he : (dl + 1) % 4 = e) (h06 : μ.1 0 6 = nI 0) (hA0 : a_H μ) (hs1 : decide (μ.1 (18 + 8 * u1) 9 = 0) = true) (hs2 : decide (μ.1 (18 + 8 * u2) 9 = 0) = true) (hs3 : decide (μ.1 (18 + 8 * u3) 9 = 0) = false) (B3 : Q4 → Prop) (hwg3 : ∀ M, WE μ M → a_H M → ∀ d, 10 ≤ d → z_C d mi_X6_weighHand [.ref 0, .int (nI u3), .int 0] M (fun r W => ∃ v, B3 v ∧ r = some (.int v.1) ∧ WOj M W ∧ bqJ W = v ∧ a_H W)) : z_C d mi_X6_winByTile [.ref 0] μ (fun r μ' => r = none ∧ ∃ v3 W3, B3 v3 ∧ bqJ W3 = v3 ∧ WOj μ W3 ∧ μ' = wA001 W3 t dl e u1 u2 u3 v3 μ) := by
  refine z_C_in (by decide) (by omega) (fun d' Z ed hc hr => ?_)
  have hH : zH mi_X6_winByTile zt_X6_winByTile 79 6 7 := hh_X6_winByTile
  refine z_rcs hc hH 4 (pc' := 6) (lv' := [(1, .int 0), (0, .ref 0)]) (st' := [.ref 0, .int 300]) (μ' := μ) (by rfl) ?_
  refine zq_gfi hc hH (by rfl) (ci := 5) (f := 11) (by rfl) (by decide +kernel) (by rfl) ?_
  refine z_rcs hc hH 8 (pc' := 19) (lv' := [(3, .int 1), (2, .int (300 * (μ.1 0 11))), (1, .int 0), (0, .ref 0)]) (st' := [.ref 0]) (μ' := μ) (by rfl) ?_
  refine zq_gfi hc hH (by rfl) (ci := 5) (f := 8) (by rfl) (by decide +kernel) (by rfl) ?_
  rw [ht]
  refine z_rcs hc hH 2 (pc' := 24) (lv' := [(3, .int 1), (2, .int (300 * (μ.1 0 11))), (1, .int 0), (0, .ref 0)]) (st' := [.int ((nI t) + 1)]) (μ' := μ) (by rfl) ?_
  rw [show nI t + 1 = nI (t + 1) from by rw [show (1 : Int32) = nI 1 from rfl, nI_add]]
  refine z_rcs hc hH 2 (pc' := 26) (lv' := [(3, .int 1), (2, .int (300 * (μ.1 0 11))), (1, .int 0), (0, .ref 0)]) (st' := [.int ((nI (t + 1)) &&& 3)]) (μ' := μ) (by rfl) ?_
  rw [show nI (t + 1) &&& 3 = nI u1 from by rw [and3 (by omega), hu1]]
  refine z_rcs hc hH 3 (pc' := 31) (lv' := [(4, .int (nI u1)), (3, .int 1), (2, .int (300 * (μ.1 0 11))), (1, .int 0), (0, .ref 0)]) (st' := [.int (nI u1), .ref 0]) (μ' := μ) (by rfl) ?_
  refine zq_call hc (z_cx_ok hH (by rfl)) (gc_at4 d' (by omega) μ u1 hu14) (by decide +kernel) (fun r9 μ9 hq => ?_)
  obtain ⟨hμ9, rfl⟩ := hq
  rw [hμ9]
  clear hμ9 μ9
  show Z 0 34 [(4, .int (nI u1)), (3, .int 1), (2, .int (300 * (μ.1 0 11))), (1, .int 0), (0, .ref 0)] [.ref (18 + 8 * u1)] μ
  refine zq_gfi hc hH (by rfl) (ci := 1) (f := 9) (by rfl) (sj (P := fun i => okf 79 1 9 (18 + 8 * i)) hu14 (by decide +kernel)) (by rfl) ?_
  refine zq_if hc hH (by rfl) (tg := 43) (by rfl) (fun h1 => ?_) (fun h1 => ?_)
  · have h1 : (decide ((μ.1 (18 + 8 * u1) 9) = 0)) = false := decide_eq_false (cm_ne.mp h1)
    exact absurd (Eq.trans (Eq.symm (hs1)) h1) (by decide)
  · have h1 : (decide ((μ.1 (18 + 8 * u1) 9) = 0)) = true := decide_eq_true (cn_ne.mp h1)
    refine z_rcs hc hH 7 (pc' := 19) (lv' := [(3, .int 2), (4, .int (nI u1)), (2, .int (300 * (μ.1 0 11))), (1, .int 0), (0, .ref 0)]) (st' := [.ref 0]) (μ' := μ) (by rfl) ?_
    refine zq_gfi hc hH (by rfl) (ci := 5) (f := 8) (by rfl) (by decide +kernel) (by rfl) ?_
    rw [ht]
    refine z_rcs hc hH 2 (pc' := 24) (lv' := [(3, .int 2), (4, .int (nI u1)), (2, .int (300 * (μ.1 0 11))), (1, .int 0), (0, .ref 0)]) (st' := [.int ((nI t) + 2)]) (μ' := μ) (by rfl) ?_
    rw [show nI t + 2 = nI (t + 2) from by rw [show (2 : Int32) = nI 2 from rfl, nI_add]]
    refine z_rcs hc hH 2 (pc' := 26) (lv' := [(3, .int 2), (4, .int (nI u1)), (2, .int (300 * (μ.1 0 11))), (1, .int 0), (0, .ref 0)]) (st' := [.int ((nI (t + 2)) &&& 3)]) (μ' := μ) (by rfl) ?_
    rw [show nI (t + 2) &&& 3 = nI u2 from by rw [and3 (by omega), hu2]]
    refine z_rcs hc hH 3 (pc' := 31) (lv' := [(4, .int (nI u2)), (3, .int 2), (2, .int (300 * (μ.1 0 11))), (1, .int 0), (0, .ref 0)]) (st' := [.int (nI u2), .ref 0]) (μ' := μ) (by rfl) ?_
    refine zq_call hc (z_cx_ok hH (by rfl)) (gc_at4 d' (by omega) μ u2 hu24) (by decide +kernel) (fun r9 μ9 hq => ?_)
    obtain ⟨hμ9, rfl⟩ := hq
    rw [hμ9]
    clear hμ9 μ9
    show Z 0 34 [(4, .int (nI u2)), (3, .int 2), (2, .int (300 * (μ.1 0 11))), (1, .int 0), (0, .ref 0)] [.ref (18 + 8 * u2)] μ
    refine zq_gfi hc hH (by rfl) (ci := 1) (f := 9) (by rfl) (sj (P := fun i => okf 79 1 9 (18 + 8 * i)) hu24 (by decide +kernel)) (by rfl) ?_
    refine zq_if hc hH (by rfl) (tg := 43) (by rfl) (fun h2 => ?_) (fun h2 => ?_)
    · have h2 : (decide ((μ.1 (18 + 8 * u2) 9) = 0)) = false := decide_eq_false (cm_ne.mp h2)
      exact absurd (Eq.trans (Eq.symm (hs2)) h2) (by decide)
    · have h2 : (decide ((μ.1 (18 + 8 * u2) 9) = 0)) = true := decide_eq_true (cn_ne.mp h2)
      refine z_rcs hc hH 7 (pc' := 19) (lv' := [(3, .int 3), (4, .int (nI u2)), (2, .int (300 * (μ.1 0 11))), (1, .int 0), (0, .ref 0)]) (st' := [.ref 0]) (μ' := μ) (by rfl) ?_
      refine zq_gfi hc hH (by rfl) (ci := 5) (f := 8) (by rfl) (by decide +kernel) (by rfl) ?_
      rw [ht]
      refine z_rcs hc hH 2 (pc' := 24) (lv' := [(3, .int 3), (4, .int (nI u2)), (2, .int (300 * (μ.1 0 11))), (1, .int 0), (0, .ref 0)]) (st' := [.int ((nI t) + 3)]) (μ' := μ) (by rfl) ?_
      rw [show nI t + 3 = nI (t + 3) from by rw [show (3 : Int32) = nI 3 from rfl, nI_add]]
      refine z_rcs hc hH 2 (pc' := 26) (lv' := [(3, .int 3), (4, .int (nI u2)), (2, .int (300 * (μ.1 0 11))), (1, .int 0), (0, .ref 0)]) (st' := [.int ((nI (t + 3)) &&& 3)]) (μ' := μ) (by rfl) ?_
      rw [show nI (t + 3) &&& 3 = nI u3 from by rw [and3 (by omega), hu3]]
      refine z_rcs hc hH 3 (pc' := 31) (lv' := [(4, .int (nI u3)), (3, .int 3), (2, .int (300 * (μ.1 0 11))), (1, .int 0), (0, .ref 0)]) (st' := [.int (nI u3), .ref 0]) (μ' := μ) (by rfl) ?_
      refine zq_call hc (z_cx_ok hH (by rfl)) (gc_at4 d' (by omega) μ u3 hu34) (by decide +kernel) (fun r9 μ9 hq => ?_)
      obtain ⟨hμ9, rfl⟩ := hq
      rw [hμ9]
      clear hμ9 μ9
      show Z 0 34 [(4, .int (nI u3)), (3, .int 3), (2, .int (300 * (μ.1 0 11))), (1, .int 0), (0, .ref 0)] [.ref (18 + 8 * u3)] μ
      refine zq_gfi hc hH (by rfl) (ci := 1) (f := 9) (by rfl) (sj (P := fun i => okf 79 1 9 (18 + 8 * i)) hu34 (by decide +kernel)) (by rfl) ?_
      refine zq_if hc hH (by rfl) (tg := 43) (by rfl) (fun h3 => ?_) (fun h3 => ?_)
      · have h3 : (decide ((μ.1 (18 + 8 * u3) 9) = 0)) = false := decide_eq_false (cm_ne.mp h3)
        refine z_rcs hc hH 3 (pc' := 47) (lv' := [(4, .int (nI u3)), (3, .int 3), (2, .int (300 * (μ.1 0 11))), (1, .int 0), (0, .ref 0)]) (st' := [.int 0, .int (nI u3), .ref 0]) (μ' := μ) (by rfl) ?_
        refine zq_call hc (z_cx_ok hH (by rfl)) (hwg3 _ (WE_rf _) (hA0) d' (by omega)) (by decide +kernel) (fun r9 W3 hq => ?_)
        obtain ⟨v3, hB3, rfl, hO3, hv3, hA3⟩ := hq
        show Z 0 50 [(4, .int (nI u3)), (3, .int 3), (2, .int (300 * (μ.1 0 11))), (1, .int 0), (0, .ref 0)] [.int v3.1] W3
        refine z_rcs hc hH 2 (pc' := 53) (lv' := [(4, .int (nI u3)), (3, .int 3), (2, .int (300 * (μ.1 0 11))), (1, .int 0), (0, .ref 0)]) (st' := [.ref 0, .int (nI u3), .int v3.1]) (μ' := W3) (by rfl) ?_
        refine zq_gfi hc hH (by rfl) (ci := 5) (f := 9) (by rfl) (by decide +kernel) (by rfl) ?_
        rw [(hO3 _ _ (by omega)).1]
        rw [hdl]
        have hJ4 : Z 0 65 [(4, .int (nI u3)), (3, .int 3), (2, .int (300 * (μ.1 0 11))), (1, .int 0), (0, .ref 0)] [.int (bif decide ((nI u3) = (nI dl)) then (6 : Int32) else 4), .int v3.1] W3 := by
          refine z_rcs hc hH 1 (pc' := 66) (lv' := [(4, .int (nI u3)), (3, .int 3), (2, .int (300 * (μ.1 0 11))), (1, .int 0), (0, .ref 0)]) (st' := [.int (v3.1 * (bif decide ((nI u3) = (nI dl)) then (6 : Int32) else 4))]) (μ' := W3) (by rfl) ?_
          refine zq_call hc (z_cx_ok hH (by rfl)) (gc_hundreds d' (by omega) W3 (v3.1 * (bif decide ((nI u3) = (nI dl)) then (6 : Int32) else 4))) (by decide +kernel) (fun r9 μ9 hq => ?_)
          obtain ⟨hμ9, rfl⟩ := hq
          rw [hμ9]
          clear hμ9 μ9
          show Z 0 69 [(4, .int (nI u3)), (3, .int 3), (2, .int (300 * (μ.1 0 11))), (1, .int 0), (0, .ref 0)] [.int (hnd (v3.1 * (bif decide ((nI u3) = (nI dl)) then (6 : Int32) else 4)))] W3
          refine z_rcs hc hH 5 (pc' := 76) (lv' := [(5, .int ((hnd (v3.1 * (bif decide ((nI u3) = (nI dl)) then (6 : Int32) else 4))) + (300 * (μ.1 0 11)))), (4, .int (nI u3)), (3, .int 3), (2, .int (300 * (μ.1 0 11))), (1, .int 0), (0, .ref 0)]) (st' := [.ref 0, .int ((hnd (v3.1 * (bif decide ((nI u3) = (nI dl)) then (6 : Int32) else 4))) + (300 * (μ.1 0 11)))]) (μ' := W3) (by rfl) ?_
          refine zq_gfi hc hH (by rfl) (ci := 5) (f := 12) (by rfl) (by decide +kernel) (by rfl) ?_
          rw [(hO3 _ _ (by omega)).1]
          refine z_rcs hc hH 6 (pc' := 88) (lv' := [(6, .int (((hnd (v3.1 * (bif decide ((nI u3) = (nI dl)) then (6 : Int32) else 4))) + (300 * (μ.1 0 11))) + ((μ.1 0 12) * 1000))), (5, .int ((hnd (v3.1 * (bif decide ((nI u3) = (nI dl)) then (6 : Int32) else 4))) + (300 * (μ.1 0 11)))), (4, .int (nI u3)), (3, .int 3), (2, .int (300 * (μ.1 0 11))), (1, .int 0), (0, .ref 0)]) (st' := [.ref 0, .ref 0]) (μ' := W3) (by rfl) ?_
          refine zq_gfi hc hH (by rfl) (ci := 5) (f := 8) (by rfl) (by decide +kernel) (by rfl) ?_
          rw [(hO3 _ _ (by omega)).1]
          rw [ht]
          refine zq_call hc (z_cx_ok hH (by rfl)) (gc_at4 d' (by omega) W3 t ht4) (by decide +kernel) (fun r9 μ9 hq => ?_)
          obtain ⟨hμ9, rfl⟩ := hq
          rw [hμ9]
          clear hμ9 μ9
          show Z 0 94 [(6, .int (((hnd (v3.1 * (bif decide ((nI u3) = (nI dl)) then (6 : Int32) else 4))) + (300 * (μ.1 0 11))) + ((μ.1 0 12) * 1000))), (5, .int ((hnd (v3.1 * (bif decide ((nI u3) = (nI dl)) then (6 : Int32) else 4))) + (300 * (μ.1 0 11)))), (4, .int (nI u3)), (3, .int 3), (2, .int (300 * (μ.1 0 11))), (1, .int 0), (0, .ref 0)] [.ref (18 + 8 * t)] W3
          refine z_rcs hc hH 1 (pc' := 95) (lv' := [(6, .int (((hnd (v3.1 * (bif decide ((nI u3) = (nI dl)) then (6 : Int32) else 4))) + (300 * (μ.1 0 11))) + ((μ.1 0 12) * 1000))), (5, .int ((hnd (v3.1 * (bif decide ((nI u3) = (nI dl)) then (6 : Int32) else 4))) + (300 * (μ.1 0 11)))), (4, .int (nI u3)), (3, .int 3), (2, .int (300 * (μ.1 0 11))), (1, .int 0), (0, .ref 0)]) (st' := [.ref (18 + 8 * t), .ref (18 + 8 * t)]) (μ' := W3) (by rfl) ?_
          refine zq_gfi hc hH (by rfl) (ci := 1) (f := 4) (by rfl) (sj (P := fun i => okf 79 1 4 (18 + 8 * i)) ht4 (by decide +kernel)) (by rfl) ?_
          rw [(hO3 _ _ (by omega)).1]
          refine z_rcs hc hH 2 (pc' := 101) (lv' := [(6, .int (((hnd (v3.1 * (bif decide ((nI u3) = (nI dl)) then (6 : Int32) else 4))) + (300 * (μ.1 0 11))) + ((μ.1 0 12) * 1000))), (5, .int ((hnd (v3.1 * (bif decide ((nI u3) = (nI dl)) then (6 : Int32) else 4))) + (300 * (μ.1 0 11)))), (4, .int (nI u3)), (3, .int 3), (2, .int (300 * (μ.1 0 11))), (1, .int 0), (0, .ref 0)]) (st' := [.int ((μ.1 (18 + 8 * t) 4) - ((hnd (v3.1 * (bif decide ((nI u3) = (nI dl)) then (6 : Int32) else 4))) + (300 * (μ.1 0 11)))), .ref (18 + 8 * t)]) (μ' := W3) (by rfl) ?_
          refine zq_pfi hc hH (by rfl) (ci := 1) (f := 4) (by rfl) (sj (P := fun i => okf 79 1 4 (18 + 8 * i)) ht4 (by decide +kernel)) (by rfl) ?_
          show Z 0 104 [(6, .int (((hnd (v3.1 * (bif decide ((nI u3) = (nI dl)) then (6 : Int32) else 4))) + (300 * (μ.1 0 11))) + ((μ.1 0 12) * 1000))), (5, .int ((hnd (v3.1 * (bif decide ((nI u3) = (nI dl)) then (6 : Int32) else 4))) + (300 * (μ.1 0 11)))), (4, .int (nI u3)), (3, .int 3), (2, .int (300 * (μ.1 0 11))), (1, .int 0), (0, .ref 0)] [] (z_ui W3 (18 + 8 * t) 4 ((μ.1 (18 + 8 * t) 4) - ((hnd (v3.1 * (bif decide ((nI u3) = (nI dl)) then (6 : Int32) else 4))) + (300 * (μ.1 0 11)))))
          refine z_rcs0 hc hH 2 (pc' := 107) (lv' := [(6, .int (((hnd (v3.1 * (bif decide ((nI u3) = (nI dl)) then (6 : Int32) else 4))) + (300 * (μ.1 0 11))) + ((μ.1 0 12) * 1000))), (5, .int ((hnd (v3.1 * (bif decide ((nI u3) = (nI dl)) then (6 : Int32) else 4))) + (300 * (μ.1 0 11)))), (4, .int (nI u3)), (3, .int 3), (2, .int (300 * (μ.1 0 11))), (1, .int 0), (0, .ref 0)]) (st' := [.int (nI u3), .ref 0]) (by rfl) ?_
          refine zq_call hc (z_cx_ok hH (by rfl)) (gc_at4 d' (by omega) (z_ui W3 (18 + 8 * t) 4 ((μ.1 (18 + 8 * t) 4) - ((hnd (v3.1 * (bif decide ((nI u3) = (nI dl)) then (6 : Int32) else 4))) + (300 * (μ.1 0 11))))) u3 hu34) (by decide +kernel) (fun r9 μ9 hq => ?_)
          obtain ⟨hμ9, rfl⟩ := hq
          rw [hμ9]
          clear hμ9 μ9
          show Z 0 110 [(6, .int (((hnd (v3.1 * (bif decide ((nI u3) = (nI dl)) then (6 : Int32) else 4))) + (300 * (μ.1 0 11))) + ((μ.1 0 12) * 1000))), (5, .int ((hnd (v3.1 * (bif decide ((nI u3) = (nI dl)) then (6 : Int32) else 4))) + (300 * (μ.1 0 11)))), (4, .int (nI u3)), (3, .int 3), (2, .int (300 * (μ.1 0 11))), (1, .int 0), (0, .ref 0)] [.ref (18 + 8 * u3)] _
          refine z_rcs0 hc hH 1 (pc' := 111) (lv' := [(6, .int (((hnd (v3.1 * (bif decide ((nI u3) = (nI dl)) then (6 : Int32) else 4))) + (300 * (μ.1 0 11))) + ((μ.1 0 12) * 1000))), (5, .int ((hnd (v3.1 * (bif decide ((nI u3) = (nI dl)) then (6 : Int32) else 4))) + (300 * (μ.1 0 11)))), (4, .int (nI u3)), (3, .int 3), (2, .int (300 * (μ.1 0 11))), (1, .int 0), (0, .ref 0)]) (st' := [.ref (18 + 8 * u3), .ref (18 + 8 * u3)]) (by rfl) ?_
          refine zq_gfi hc hH (by rfl) (ci := 1) (f := 4) (by rfl) (sj (P := fun i => okf 79 1 4 (18 + 8 * i)) hu34 (by decide +kernel)) (by rfl) ?_
          refine zV1 (Z := Z) (Eq.trans (ui_o (by first | decide | omega)) (hO3 _ _ (by omega)).1) ?_
          refine z_rcs0 hc hH 2 (pc' := 117) (lv' := [(6, .int (((hnd (v3.1 * (bif decide ((nI u3) = (nI dl)) then (6 : Int32) else 4))) + (300 * (μ.1 0 11))) + ((μ.1 0 12) * 1000))), (5, .int ((hnd (v3.1 * (bif decide ((nI u3) = (nI dl)) then (6 : Int32) else 4))) + (300 * (μ.1 0 11)))), (4, .int (nI u3)), (3, .int 3), (2, .int (300 * (μ.1 0 11))), (1, .int 0), (0, .ref 0)]) (st' := [.int ((μ.1 (18 + 8 * u3) 4) + (((hnd (v3.1 * (bif decide ((nI u3) = (nI dl)) then (6 : Int32) else 4))) + (300 * (μ.1 0 11))) + ((μ.1 0 12) * 1000))), .ref (18 + 8 * u3)]) (by rfl) ?_
          refine zq_pfi hc hH (by rfl) (ci := 1) (f := 4) (by rfl) (sj (P := fun i => okf 79 1 4 (18 + 8 * i)) hu34 (by decide +kernel)) (by rfl) ?_
          show Z 0 120 [(6, .int (((hnd (v3.1 * (bif decide ((nI u3) = (nI dl)) then (6 : Int32) else 4))) + (300 * (μ.1 0 11))) + ((μ.1 0 12) * 1000))), (5, .int ((hnd (v3.1 * (bif decide ((nI u3) = (nI dl)) then (6 : Int32) else 4))) + (300 * (μ.1 0 11)))), (4, .int (nI u3)), (3, .int 3), (2, .int (300 * (μ.1 0 11))), (1, .int 0), (0, .ref 0)] [] (z_ui (z_ui W3 (18 + 8 * t) 4 ((μ.1 (18 + 8 * t) 4) - ((hnd (v3.1 * (bif decide ((nI u3) = (nI dl)) then (6 : Int32) else 4))) + (300 * (μ.1 0 11))))) (18 + 8 * u3) 4 ((μ.1 (18 + 8 * u3) 4) + (((hnd (v3.1 * (bif decide ((nI u3) = (nI dl)) then (6 : Int32) else 4))) + (300 * (μ.1 0 11))) + ((μ.1 0 12) * 1000))))
          refine z_rcs0 hc hH 3 (pc' := 124) (lv' := [(6, .int (((hnd (v3.1 * (bif decide ((nI u3) = (nI dl)) then (6 : Int32) else 4))) + (300 * (μ.1 0 11))) + ((μ.1 0 12) * 1000))), (5, .int ((hnd (v3.1 * (bif decide ((nI u3) = (nI dl)) then (6 : Int32) else 4))) + (300 * (μ.1 0 11)))), (4, .int (nI u3)), (3, .int 3), (2, .int (300 * (μ.1 0 11))), (1, .int 0), (0, .ref 0)]) (st' := [.ref 0, .int (nI u3), .ref 0]) (by rfl) ?_
          refine zq_gfi hc hH (by rfl) (ci := 5) (f := 8) (by rfl) (by decide +kernel) (by rfl) ?_
          refine zV1 (Z := Z) (Eq.trans (ui_o (by first | decide | omega)) (Eq.trans (ui_o (by first | decide | omega)) (hO3 _ _ (by omega)).1)) ?_
          rw [ht]
          refine z_rcs0 hc hH 1 (pc' := 129) (lv' := [(6, .int (((hnd (v3.1 * (bif decide ((nI u3) = (nI dl)) then (6 : Int32) else 4))) + (300 * (μ.1 0 11))) + ((μ.1 0 12) * 1000))), (5, .int ((hnd (v3.1 * (bif decide ((nI u3) = (nI dl)) then (6 : Int32) else 4))) + (300 * (μ.1 0 11)))), (4, .int (nI u3)), (3, .int 3), (2, .int (300 * (μ.1 0 11))), (1, .int 0), (0, .ref 0)]) (st' := [.int (((hnd (v3.1 * (bif decide ((nI u3) = (nI dl)) then (6 : Int32) else 4))) + (300 * (μ.1 0 11))) + ((μ.1 0 12) * 1000)), .int (nI t), .int (nI u3), .ref 0]) (by rfl) ?_
          refine zq_call hc (z_cx_ok hH (by rfl)) (gc_recordWin d' (by omega) (z_ui (z_ui W3 (18 + 8 * t) 4 ((μ.1 (18 + 8 * t) 4) - ((hnd (v3.1 * (bif decide ((nI u3) = (nI dl)) then (6 : Int32) else 4))) + (300 * (μ.1 0 11))))) (18 + 8 * u3) 4 ((μ.1 (18 + 8 * u3) 4) + (((hnd (v3.1 * (bif decide ((nI u3) = (nI dl)) then (6 : Int32) else 4))) + (300 * (μ.1 0 11))) + ((μ.1 0 12) * 1000)))) 0 (by omega) (by rw [ui_o (by first | decide | omega), ui_o (by first | decide | omega), (hO3 _ _ (by omega)).1]; exact h06) (nI u3) (nI t) (((hnd (v3.1 * (bif decide ((nI u3) = (nI dl)) then (6 : Int32) else 4))) + (300 * (μ.1 0 11))) + ((μ.1 0 12) * 1000))) (by decide +kernel) (fun r9 μ9 hq => ?_)
          obtain ⟨rfl, rfl⟩ := hq
          show Z 0 132 [(6, .int (((hnd (v3.1 * (bif decide ((nI u3) = (nI dl)) then (6 : Int32) else 4))) + (300 * (μ.1 0 11))) + ((μ.1 0 12) * 1000))), (5, .int ((hnd (v3.1 * (bif decide ((nI u3) = (nI dl)) then (6 : Int32) else 4))) + (300 * (μ.1 0 11)))), (4, .int (nI u3)), (3, .int 3), (2, .int (300 * (μ.1 0 11))), (1, .int 0), (0, .ref 0)] [] (rcW (z_ui (z_ui W3 (18 + 8 * t) 4 ((μ.1 (18 + 8 * t) 4) - ((hnd (v3.1 * (bif decide ((nI u3) = (nI dl)) then (6 : Int32) else 4))) + (300 * (μ.1 0 11))))) (18 + 8 * u3) 4 ((μ.1 (18 + 8 * u3) 4) + (((hnd (v3.1 * (bif decide ((nI u3) = (nI dl)) then (6 : Int32) else 4))) + (300 * (μ.1 0 11))) + ((μ.1 0 12) * 1000)))) 0 (nI u3) (nI t) (((hnd (v3.1 * (bif decide ((nI u3) = (nI dl)) then (6 : Int32) else 4))) + (300 * (μ.1 0 11))) + ((μ.1 0 12) * 1000)))
          refine z_rcs0 hc hH 4 (pc' := 139) (lv' := [(6, .int (((hnd (v3.1 * (bif decide ((nI u3) = (nI dl)) then (6 : Int32) else 4))) + (300 * (μ.1 0 11))) + ((μ.1 0 12) * 1000))), (5, .int ((hnd (v3.1 * (bif decide ((nI u3) = (nI dl)) then (6 : Int32) else 4))) + (300 * (μ.1 0 11)))), (4, .int (nI u3)), (3, .int 3), (2, .int (300 * (μ.1 0 11))), (1, .int 0), (0, .ref 0)]) (st' := [.ref 0, .int (nI u3)]) (by rfl) ?_
          refine zq_gfi hc hH (by rfl) (ci := 5) (f := 9) (by rfl) (by decide +kernel) (by rfl) ?_
          refine zV1 (Z := Z) (Eq.trans (rcW_o (by first | decide | omega)) (Eq.trans (ui_o (by first | decide | omega)) (Eq.trans (ui_o (by first | decide | omega)) (hO3 _ _ (by omega)).1))) ?_
          rw [hdl]
          have hJ5 : Z 0 150 [(6, .int (((hnd (v3.1 * (bif decide ((nI u3) = (nI dl)) then (6 : Int32) else 4))) + (300 * (μ.1 0 11))) + ((μ.1 0 12) * 1000))), (5, .int ((hnd (v3.1 * (bif decide ((nI u3) = (nI dl)) then (6 : Int32) else 4))) + (300 * (μ.1 0 11)))), (4, .int (nI u3)), (3, .int 3), (2, .int (300 * (μ.1 0 11))), (1, .int 0), (0, .ref 0)] [.int (nB (decide ((nI u3) = (nI dl))))] (rcW (z_ui (z_ui W3 (18 + 8 * t) 4 ((μ.1 (18 + 8 * t) 4) - ((hnd (v3.1 * (bif decide ((nI u3) = (nI dl)) then (6 : Int32) else 4))) + (300 * (μ.1 0 11))))) (18 + 8 * u3) 4 ((μ.1 (18 + 8 * u3) 4) + (((hnd (v3.1 * (bif decide ((nI u3) = (nI dl)) then (6 : Int32) else 4))) + (300 * (μ.1 0 11))) + ((μ.1 0 12) * 1000)))) 0 (nI u3) (nI t) (((hnd (v3.1 * (bif decide ((nI u3) = (nI dl)) then (6 : Int32) else 4))) + (300 * (μ.1 0 11))) + ((μ.1 0 12) * 1000))) := by
            refine z_rcs0 hc hH 5 (pc' := 155) (lv' := [(2, .int 0), (1, .int (nB (decide ((nI u3) = (nI dl))))), (6, .int (((hnd (v3.1 * (bif decide ((nI u3) = (nI dl)) then (6 : Int32) else 4))) + (300 * (μ.1 0 11))) + ((μ.1 0 12) * 1000))), (5, .int ((hnd (v3.1 * (bif decide ((nI u3) = (nI dl)) then (6 : Int32) else 4))) + (300 * (μ.1 0 11)))), (4, .int (nI u3)), (3, .int 3), (0, .ref 0)]) (st' := [.int 0, .ref 0]) (by rfl) ?_
            refine zq_pfi hc hH (by rfl) (ci := 5) (f := 12) (by rfl) (by decide +kernel) (by rfl) ?_
            show Z 0 158 [(2, .int 0), (1, .int (nB (decide ((nI u3) = (nI dl))))), (6, .int (((hnd (v3.1 * (bif decide ((nI u3) = (nI dl)) then (6 : Int32) else 4))) + (300 * (μ.1 0 11))) + ((μ.1 0 12) * 1000))), (5, .int ((hnd (v3.1 * (bif decide ((nI u3) = (nI dl)) then (6 : Int32) else 4))) + (300 * (μ.1 0 11)))), (4, .int (nI u3)), (3, .int 3), (0, .ref 0)] [] (z_ui (rcW (z_ui (z_ui W3 (18 + 8 * t) 4 ((μ.1 (18 + 8 * t) 4) - ((hnd (v3.1 * (bif decide ((nI u3) = (nI dl)) then (6 : Int32) else 4))) + (300 * (μ.1 0 11))))) (18 + 8 * u3) 4 ((μ.1 (18 + 8 * u3) 4) + (((hnd (v3.1 * (bif decide ((nI u3) = (nI dl)) then (6 : Int32) else 4))) + (300 * (μ.1 0 11))) + ((μ.1 0 12) * 1000)))) 0 (nI u3) (nI t) (((hnd (v3.1 * (bif decide ((nI u3) = (nI dl)) then (6 : Int32) else 4))) + (300 * (μ.1 0 11))) + ((μ.1 0 12) * 1000))) 0 12 0)
            refine z_rcs0 hc hH 8 (pc' := 167) (lv' := [(3, .int 4), (2, .int 0), (1, .int (nB (decide ((nI u3) = (nI dl))))), (6, .int (((hnd (v3.1 * (bif decide ((nI u3) = (nI dl)) then (6 : Int32) else 4))) + (300 * (μ.1 0 11))) + ((μ.1 0 12) * 1000))), (5, .int ((hnd (v3.1 * (bif decide ((nI u3) = (nI dl)) then (6 : Int32) else 4))) + (300 * (μ.1 0 11)))), (4, .int (nI u3)), (0, .ref 0)]) (st' := [.int (nB (decide ((nI u3) = (nI dl)))), .int (nB (decide ((nI u3) = (nI dl)))), .ref 0]) (by rfl) ?_
            have hJ6 : Z 0 175 [(3, .int 4), (2, .int 0), (1, .int (nB (decide ((nI u3) = (nI dl))))), (6, .int (((hnd (v3.1 * (bif decide ((nI u3) = (nI dl)) then (6 : Int32) else 4))) + (300 * (μ.1 0 11))) + ((μ.1 0 12) * 1000))), (5, .int ((hnd (v3.1 * (bif decide ((nI u3) = (nI dl)) then (6 : Int32) else 4))) + (300 * (μ.1 0 11)))), (4, .int (nI u3)), (0, .ref 0)] [.int (nB (!(decide ((nI u3) = (nI dl))))), .int (nB (decide ((nI u3) = (nI dl)))), .ref 0] (z_ui (rcW (z_ui (z_ui W3 (18 + 8 * t) 4 ((μ.1 (18 + 8 * t) 4) - ((hnd (v3.1 * (bif decide ((nI u3) = (nI dl)) then (6 : Int32) else 4))) + (300 * (μ.1 0 11))))) (18 + 8 * u3) 4 ((μ.1 (18 + 8 * u3) 4) + (((hnd (v3.1 * (bif decide ((nI u3) = (nI dl)) then (6 : Int32) else 4))) + (300 * (μ.1 0 11))) + ((μ.1 0 12) * 1000)))) 0 (nI u3) (nI t) (((hnd (v3.1 * (bif decide ((nI u3) = (nI dl)) then (6 : Int32) else 4))) + (300 * (μ.1 0 11))) + ((μ.1 0 12) * 1000))) 0 12 0) := by
              refine zq_call hc (z_cx_ok hH (by rfl)) (gc_endHandB d' (by omega) (z_ui (rcW (z_ui (z_ui W3 (18 + 8 * t) 4 ((μ.1 (18 + 8 * t) 4) - ((hnd (v3.1 * (bif decide ((nI u3) = (nI dl)) then (6 : Int32) else 4))) + (300 * (μ.1 0 11))))) (18 + 8 * u3) 4 ((μ.1 (18 + 8 * u3) 4) + (((hnd (v3.1 * (bif decide ((nI u3) = (nI dl)) then (6 : Int32) else 4))) + (300 * (μ.1 0 11))) + ((μ.1 0 12) * 1000)))) 0 (nI u3) (nI t) (((hnd (v3.1 * (bif decide ((nI u3) = (nI dl)) then (6 : Int32) else 4))) + (300 * (μ.1 0 11))) + ((μ.1 0 12) * 1000))) 0 12 0) (decide ((nI u3) = (nI dl))) (!(decide ((nI u3) = (nI dl)))) dl e (by rw [ui_k (by first | decide | omega), rcW_o (by first | decide | omega), ui_o (by first | decide | omega), ui_o (by first | decide | omega), (hO3 _ _ (by omega)).1]; exact hdl) hdl4 he) (by decide +kernel) (fun r9 μ9 hq => ?_)
              obtain ⟨rfl, rfl⟩ := hq
              show Z 0 178 [(3, .int 4), (2, .int 0), (1, .int (nB (decide ((nI u3) = (nI dl))))), (6, .int (((hnd (v3.1 * (bif decide ((nI u3) = (nI dl)) then (6 : Int32) else 4))) + (300 * (μ.1 0 11))) + ((μ.1 0 12) * 1000))), (5, .int ((hnd (v3.1 * (bif decide ((nI u3) = (nI dl)) then (6 : Int32) else 4))) + (300 * (μ.1 0 11)))), (4, .int (nI u3)), (0, .ref 0)] [] (eHB (z_ui (rcW (z_ui (z_ui W3 (18 + 8 * t) 4 ((μ.1 (18 + 8 * t) 4) - ((hnd (v3.1 * (bif decide ((nI u3) = (nI dl)) then (6 : Int32) else 4))) + (300 * (μ.1 0 11))))) (18 + 8 * u3) 4 ((μ.1 (18 + 8 * u3) 4) + (((hnd (v3.1 * (bif decide ((nI u3) = (nI dl)) then (6 : Int32) else 4))) + (300 * (μ.1 0 11))) + ((μ.1 0 12) * 1000)))) 0 (nI u3) (nI t) (((hnd (v3.1 * (bif decide ((nI u3) = (nI dl)) then (6 : Int32) else 4))) + (300 * (μ.1 0 11))) + ((μ.1 0 12) * 1000))) 0 12 0) (decide ((nI u3) = (nI dl))) (!(decide ((nI u3) = (nI dl)))) (xBk (z_ui (rcW (z_ui (z_ui W3 (18 + 8 * t) 4 ((μ.1 (18 + 8 * t) 4) - ((hnd (v3.1 * (bif decide ((nI u3) = (nI dl)) then (6 : Int32) else 4))) + (300 * (μ.1 0 11))))) (18 + 8 * u3) 4 ((μ.1 (18 + 8 * u3) 4) + (((hnd (v3.1 * (bif decide ((nI u3) = (nI dl)) then (6 : Int32) else 4))) + (300 * (μ.1 0 11))) + ((μ.1 0 12) * 1000)))) 0 (nI u3) (nI t) (((hnd (v3.1 * (bif decide ((nI u3) = (nI dl)) then (6 : Int32) else 4))) + (300 * (μ.1 0 11))) + ((μ.1 0 12) * 1000))) 0 12 0)) dl e (rcM (z_ui (rcW (z_ui (z_ui W3 (18 + 8 * t) 4 ((μ.1 (18 + 8 * t) 4) - ((hnd (v3.1 * (bif decide ((nI u3) = (nI dl)) then (6 : Int32) else 4))) + (300 * (μ.1 0 11))))) (18 + 8 * u3) 4 ((μ.1 (18 + 8 * u3) 4) + (((hnd (v3.1 * (bif decide ((nI u3) = (nI dl)) then (6 : Int32) else 4))) + (300 * (μ.1 0 11))) + ((μ.1 0 12) * 1000)))) 0 (nI u3) (nI t) (((hnd (v3.1 * (bif decide ((nI u3) = (nI dl)) then (6 : Int32) else 4))) + (300 * (μ.1 0 11))) + ((μ.1 0 12) * 1000))) 0 12 0)))
              exact hr 0 178 _ _ _ none (by decide +kernel) (by rfl) (⟨rfl, v3, W3, hB3, hv3, hO3, rfl⟩)
            refine zq_if hc hH (by rfl) (tg := 174) (by rfl) (fun h7 => ?_) (fun h7 => ?_)
            · have h7 : (decide ((nI u3) = (nI dl))) = true := nB_n.mp (cm_ne.mp h7)
              refine z_rcs hc hH 1 (pc' := 175) (lv' := [(3, .int 4), (2, .int 0), (1, .int (nB (decide ((nI u3) = (nI dl))))), (6, .int (((hnd (v3.1 * (bif decide ((nI u3) = (nI dl)) then (6 : Int32) else 4))) + (300 * (μ.1 0 11))) + ((μ.1 0 12) * 1000))), (5, .int ((hnd (v3.1 * (bif decide ((nI u3) = (nI dl)) then (6 : Int32) else 4))) + (300 * (μ.1 0 11)))), (4, .int (nI u3)), (0, .ref 0)]) (st' := [.int 0, .int (nB (decide ((nI u3) = (nI dl)))), .ref 0]) (μ' := z_ui (rcW (z_ui (z_ui W3 (18 + 8 * t) 4 ((μ.1 (18 + 8 * t) 4) - ((hnd (v3.1 * (bif decide ((nI u3) = (nI dl)) then (6 : Int32) else 4))) + (300 * (μ.1 0 11))))) (18 + 8 * u3) 4 ((μ.1 (18 + 8 * u3) 4) + (((hnd (v3.1 * (bif decide ((nI u3) = (nI dl)) then (6 : Int32) else 4))) + (300 * (μ.1 0 11))) + ((μ.1 0 12) * 1000)))) 0 (nI u3) (nI t) (((hnd (v3.1 * (bif decide ((nI u3) = (nI dl)) then (6 : Int32) else 4))) + (300 * (μ.1 0 11))) + ((μ.1 0 12) * 1000))) 0 12 0) (by rfl) ?_
              exact zJ hJ6 rfl (by first | with_reducible rfl | (simp only [h7, lb_f, Int64.or_zero, Int32.add_zero, nB_t, nB_f, Bool.not_true, Bool.not_false, Bool.and_true, Bool.true_and, Bool.false_and, Bool.and_false, Bool.or_true, Bool.true_or, Bool.false_or, Bool.or_false, cond_true, cond_false]; done) | rfl) rfl
            · have h7 : (decide ((nI u3) = (nI dl))) = false := nB_z.mp (cn_ne.mp h7)
              refine z_rcs0 hc hH 2 (pc' := 175) (lv' := [(3, .int 4), (2, .int 0), (1, .int (nB (decide ((nI u3) = (nI dl))))), (6, .int (((hnd (v3.1 * (bif decide ((nI u3) = (nI dl)) then (6 : Int32) else 4))) + (300 * (μ.1 0 11))) + ((μ.1 0 12) * 1000))), (5, .int ((hnd (v3.1 * (bif decide ((nI u3) = (nI dl)) then (6 : Int32) else 4))) + (300 * (μ.1 0 11)))), (4, .int (nI u3)), (0, .ref 0)]) (st' := [.int 1, .int (nB (decide ((nI u3) = (nI dl)))), .ref 0]) (by rfl) ?_
              exact zJ hJ6 rfl (by first | with_reducible rfl | (simp only [h7, lb_f, Int64.or_zero, Int32.add_zero, nB_t, nB_f, Bool.not_true, Bool.not_false, Bool.and_true, Bool.true_and, Bool.false_and, Bool.and_false, Bool.or_true, Bool.true_or, Bool.false_or, Bool.or_false, cond_true, cond_false]; done) | rfl) rfl
          refine zq_ic hc hH (by rfl) (tg := 149) (by rfl) (fun h8 => ?_) (fun h8 => ?_)
          · have h8 : (decide ((nI u3) = (nI dl))) = false := decide_eq_false (cm_ne.mp h8)
            refine z_rcs hc hH 1 (pc' := 150) (lv' := [(6, .int (((hnd (v3.1 * (bif decide ((nI u3) = (nI dl)) then (6 : Int32) else 4))) + (300 * (μ.1 0 11))) + ((μ.1 0 12) * 1000))), (5, .int ((hnd (v3.1 * (bif decide ((nI u3) = (nI dl)) then (6 : Int32) else 4))) + (300 * (μ.1 0 11)))), (4, .int (nI u3)), (3, .int 3), (2, .int (300 * (μ.1 0 11))), (1, .int 0), (0, .ref 0)]) (st' := [.int 0]) (μ' := rcW (z_ui (z_ui W3 (18 + 8 * t) 4 ((μ.1 (18 + 8 * t) 4) - ((hnd (v3.1 * (bif decide ((nI u3) = (nI dl)) then (6 : Int32) else 4))) + (300 * (μ.1 0 11))))) (18 + 8 * u3) 4 ((μ.1 (18 + 8 * u3) 4) + (((hnd (v3.1 * (bif decide ((nI u3) = (nI dl)) then (6 : Int32) else 4))) + (300 * (μ.1 0 11))) + ((μ.1 0 12) * 1000)))) 0 (nI u3) (nI t) (((hnd (v3.1 * (bif decide ((nI u3) = (nI dl)) then (6 : Int32) else 4))) + (300 * (μ.1 0 11))) + ((μ.1 0 12) * 1000))) (by rfl) ?_
            exact zJ hJ5 rfl (by first | with_reducible rfl | (simp only [h8, lb_f, Int64.or_zero, Int32.add_zero, nB_t, nB_f, Bool.not_true, Bool.not_false, Bool.and_true, Bool.true_and, Bool.false_and, Bool.and_false, Bool.or_true, Bool.true_or, Bool.false_or, Bool.or_false, cond_true, cond_false]; done) | rfl) rfl
          · have h8 : (decide ((nI u3) = (nI dl))) = true := decide_eq_true (cn_ne.mp h8)
            refine z_rcs0 hc hH 2 (pc' := 150) (lv' := [(6, .int (((hnd (v3.1 * (bif decide ((nI u3) = (nI dl)) then (6 : Int32) else 4))) + (300 * (μ.1 0 11))) + ((μ.1 0 12) * 1000))), (5, .int ((hnd (v3.1 * (bif decide ((nI u3) = (nI dl)) then (6 : Int32) else 4))) + (300 * (μ.1 0 11)))), (4, .int (nI u3)), (3, .int 3), (2, .int (300 * (μ.1 0 11))), (1, .int 0), (0, .ref 0)]) (st' := [.int 1]) (by rfl) ?_
            exact zJ hJ5 rfl (by first | with_reducible rfl | (simp only [h8, lb_f, Int64.or_zero, Int32.add_zero, nB_t, nB_f, Bool.not_true, Bool.not_false, Bool.and_true, Bool.true_and, Bool.false_and, Bool.and_false, Bool.or_true, Bool.true_or, Bool.false_or, Bool.or_false, cond_true, cond_false]; done) | rfl) rfl
        refine zq_ic hc hH (by rfl) (tg := 64) (by rfl) (fun h9 => ?_) (fun h9 => ?_)
        · have h9 : (decide ((nI u3) = (nI dl))) = false := decide_eq_false (cm_ne.mp h9)
          refine z_rcs hc hH 1 (pc' := 65) (lv' := [(4, .int (nI u3)), (3, .int 3), (2, .int (300 * (μ.1 0 11))), (1, .int 0), (0, .ref 0)]) (st' := [.int 4, .int v3.1]) (μ' := W3) (by rfl) ?_
          exact zJ hJ4 rfl (by first | with_reducible rfl | (simp only [h9, lb_f, Int64.or_zero, Int32.add_zero, nB_t, nB_f, Bool.not_true, Bool.not_false, Bool.and_true, Bool.true_and, Bool.false_and, Bool.and_false, Bool.or_true, Bool.true_or, Bool.false_or, Bool.or_false, cond_true, cond_false]; done) | rfl) rfl
        · have h9 : (decide ((nI u3) = (nI dl))) = true := decide_eq_true (cn_ne.mp h9)
          refine z_rcs hc hH 2 (pc' := 65) (lv' := [(4, .int (nI u3)), (3, .int 3), (2, .int (300 * (μ.1 0 11))), (1, .int 0), (0, .ref 0)]) (st' := [.int 6, .int v3.1]) (μ' := W3) (by rfl) ?_
          exact zJ hJ4 rfl (by first | with_reducible rfl | (simp only [h9, lb_f, Int64.or_zero, Int32.add_zero, nB_t, nB_f, Bool.not_true, Bool.not_false, Bool.and_true, Bool.true_and, Bool.false_and, Bool.and_false, Bool.or_true, Bool.true_or, Bool.false_or, Bool.or_false, cond_true, cond_false]; done) | rfl) rfl
      · have h3 : (decide ((μ.1 (18 + 8 * u3) 9) = 0)) = true := decide_eq_true (cn_ne.mp h3)
        exact absurd (Eq.trans (Eq.symm (hs3)) h3) (by decide)
noncomputable def wA010 (W2 : zM) (t dl e u1 u2 u3 : Nat) (v2 : Q4) (μ : zM) : zM := eHB (z_ui (rcW (z_ui (z_ui W2 (18 + 8 * t) 4 ((μ.1 (18 + 8 * t) 4) - ((hnd (v2.1 * (bif decide ((nI u2) = (nI dl)) then (6 : Int32) else 4))) + (300 * (μ.1 0 11))))) (18 + 8 * u2) 4 ((μ.1 (18 + 8 * u2) 4) + (((hnd (v2.1 * (bif decide ((nI u2) = (nI dl)) then (6 : Int32) else 4))) + (300 * (μ.1 0 11))) + ((μ.1 0 12) * 1000)))) 0 (nI u2) (nI t) (((hnd (v2.1 * (bif decide ((nI u2) = (nI dl)) then (6 : Int32) else 4))) + (300 * (μ.1 0 11))) + ((μ.1 0 12) * 1000))) 0 12 0) (decide ((nI u2) = (nI dl))) (!(decide ((nI u2) = (nI dl)))) (xBk (z_ui (rcW (z_ui (z_ui W2 (18 + 8 * t) 4 ((μ.1 (18 + 8 * t) 4) - ((hnd (v2.1 * (bif decide ((nI u2) = (nI dl)) then (6 : Int32) else 4))) + (300 * (μ.1 0 11))))) (18 + 8 * u2) 4 ((μ.1 (18 + 8 * u2) 4) + (((hnd (v2.1 * (bif decide ((nI u2) = (nI dl)) then (6 : Int32) else 4))) + (300 * (μ.1 0 11))) + ((μ.1 0 12) * 1000)))) 0 (nI u2) (nI t) (((hnd (v2.1 * (bif decide ((nI u2) = (nI dl)) then (6 : Int32) else 4))) + (300 * (μ.1 0 11))) + ((μ.1 0 12) * 1000))) 0 12 0)) dl e (rcM (z_ui (rcW (z_ui (z_ui W2 (18 + 8 * t) 4 ((μ.1 (18 + 8 * t) 4) - ((hnd (v2.1 * (bif decide ((nI u2) = (nI dl)) then (6 : Int32) else 4))) + (300 * (μ.1 0 11))))) (18 + 8 * u2) 4 ((μ.1 (18 + 8 * u2) 4) + (((hnd (v2.1 * (bif decide ((nI u2) = (nI dl)) then (6 : Int32) else 4))) + (300 * (μ.1 0 11))) + ((μ.1 0 12) * 1000)))) 0 (nI u2) (nI t) (((hnd (v2.1 * (bif decide ((nI u2) = (nI dl)) then (6 : Int32) else 4))) + (300 * (μ.1 0 11))) + ((μ.1 0 12) * 1000))) 0 12 0))
theorem gc_winByTile010 (d : Nat) (hd : 11 ≤ d) (μ : zM) (t c u1 u2 u3 : Nat) (ht4 : t < 4) (ht : μ.1 0 8 = nI t) (hu1 : (t + 1) % 4 = u1) (hu14 : u1 < 4) (hu2 : (t + 2) % 4 = u2) (hu24 : u2 < 4) (hu3 : (t + 3) % 4 = u3) (hu34 : u3 < 4) (dl e : Nat) (hdl : μ.1 0 9 = nI dl) (hdl4 : dl < 4) (he : (dl + 1) % 4 = e) (h06 : μ.1 0 6 = nI 0) (hA0 : a_H μ) (hs1 : decide (μ.1 (18 + 8 * u1) 9 = 0) = true) (hs2 : decide (μ.1 (18 + 8 * u2) 9 = 0) = false) (hs3 : decide (μ.1 (18 + 8 * u3) 9 = 0) = true) (B2 : Q4 → Prop) (hwg2 : ∀ M, WE μ M → a_H M → ∀ d, 10 ≤ d → z_C d mi_X6_weighHand [.ref 0, .int (nI u2), .int 0] M (fun r W => ∃ v, B2 v ∧ r = some (.int v.1) ∧ WOj M W ∧ bqJ W = v ∧ a_H W)) : z_C d mi_X6_winByTile [.ref 0] μ (fun r μ' => r = none ∧ ∃ v2 W2, B2 v2 ∧ bqJ W2 = v2 ∧ WOj μ W2 ∧ μ' = wA010 W2 t dl e u1 u2 u3 v2 μ) := by
  refine z_C_in (by decide) (by omega) (fun d' Z ed hc hr => ?_)
  have hH : zH mi_X6_winByTile zt_X6_winByTile 79 6 7 := hh_X6_winByTile
  refine z_rcs hc hH 4 (pc' := 6) (lv' := [(1, .int 0), (0, .ref 0)]) (st' := [.ref 0, .int 300]) (μ' := μ) (by rfl) ?_
  refine zq_gfi hc hH (by rfl) (ci := 5) (f := 11) (by rfl) (by decide +kernel) (by rfl) ?_
  refine z_rcs hc hH 8 (pc' := 19) (lv' := [(3, .int 1), (2, .int (300 * (μ.1 0 11))), (1, .int 0), (0, .ref 0)]) (st' := [.ref 0]) (μ' := μ) (by rfl) ?_
  refine zq_gfi hc hH (by rfl) (ci := 5) (f := 8) (by rfl) (by decide +kernel) (by rfl) ?_
  rw [ht]
  refine z_rcs hc hH 2 (pc' := 24) (lv' := [(3, .int 1), (2, .int (300 * (μ.1 0 11))), (1, .int 0), (0, .ref 0)]) (st' := [.int ((nI t) + 1)]) (μ' := μ) (by rfl) ?_
  rw [show nI t + 1 = nI (t + 1) from by rw [show (1 : Int32) = nI 1 from rfl, nI_add]]
  refine z_rcs hc hH 2 (pc' := 26) (lv' := [(3, .int 1), (2, .int (300 * (μ.1 0 11))), (1, .int 0), (0, .ref 0)]) (st' := [.int ((nI (t + 1)) &&& 3)]) (μ' := μ) (by rfl) ?_
  rw [show nI (t + 1) &&& 3 = nI u1 from by rw [and3 (by omega), hu1]]
  refine z_rcs hc hH 3 (pc' := 31) (lv' := [(4, .int (nI u1)), (3, .int 1), (2, .int (300 * (μ.1 0 11))), (1, .int 0), (0, .ref 0)]) (st' := [.int (nI u1), .ref 0]) (μ' := μ) (by rfl) ?_
  refine zq_call hc (z_cx_ok hH (by rfl)) (gc_at4 d' (by omega) μ u1 hu14) (by decide +kernel) (fun r9 μ9 hq => ?_)
  obtain ⟨hμ9, rfl⟩ := hq
  rw [hμ9]
  clear hμ9 μ9
  show Z 0 34 [(4, .int (nI u1)), (3, .int 1), (2, .int (300 * (μ.1 0 11))), (1, .int 0), (0, .ref 0)] [.ref (18 + 8 * u1)] μ
  refine zq_gfi hc hH (by rfl) (ci := 1) (f := 9) (by rfl) (sj (P := fun i => okf 79 1 9 (18 + 8 * i)) hu14 (by decide +kernel)) (by rfl) ?_
  refine zq_if hc hH (by rfl) (tg := 43) (by rfl) (fun h1 => ?_) (fun h1 => ?_)
  · have h1 : (decide ((μ.1 (18 + 8 * u1) 9) = 0)) = false := decide_eq_false (cm_ne.mp h1)
    exact absurd (Eq.trans (Eq.symm (hs1)) h1) (by decide)
  · have h1 : (decide ((μ.1 (18 + 8 * u1) 9) = 0)) = true := decide_eq_true (cn_ne.mp h1)
    refine z_rcs hc hH 7 (pc' := 19) (lv' := [(3, .int 2), (4, .int (nI u1)), (2, .int (300 * (μ.1 0 11))), (1, .int 0), (0, .ref 0)]) (st' := [.ref 0]) (μ' := μ) (by rfl) ?_
    refine zq_gfi hc hH (by rfl) (ci := 5) (f := 8) (by rfl) (by decide +kernel) (by rfl) ?_
    rw [ht]
    refine z_rcs hc hH 2 (pc' := 24) (lv' := [(3, .int 2), (4, .int (nI u1)), (2, .int (300 * (μ.1 0 11))), (1, .int 0), (0, .ref 0)]) (st' := [.int ((nI t) + 2)]) (μ' := μ) (by rfl) ?_
    rw [show nI t + 2 = nI (t + 2) from by rw [show (2 : Int32) = nI 2 from rfl, nI_add]]
    refine z_rcs hc hH 2 (pc' := 26) (lv' := [(3, .int 2), (4, .int (nI u1)), (2, .int (300 * (μ.1 0 11))), (1, .int 0), (0, .ref 0)]) (st' := [.int ((nI (t + 2)) &&& 3)]) (μ' := μ) (by rfl) ?_
    rw [show nI (t + 2) &&& 3 = nI u2 from by rw [and3 (by omega), hu2]]
    refine z_rcs hc hH 3 (pc' := 31) (lv' := [(4, .int (nI u2)), (3, .int 2), (2, .int (300 * (μ.1 0 11))), (1, .int 0), (0, .ref 0)]) (st' := [.int (nI u2), .ref 0]) (μ' := μ) (by rfl) ?_
    refine zq_call hc (z_cx_ok hH (by rfl)) (gc_at4 d' (by omega) μ u2 hu24) (by decide +kernel) (fun r9 μ9 hq => ?_)
    obtain ⟨hμ9, rfl⟩ := hq
    rw [hμ9]
    clear hμ9 μ9
    show Z 0 34 [(4, .int (nI u2)), (3, .int 2), (2, .int (300 * (μ.1 0 11))), (1, .int 0), (0, .ref 0)] [.ref (18 + 8 * u2)] μ
    refine zq_gfi hc hH (by rfl) (ci := 1) (f := 9) (by rfl) (sj (P := fun i => okf 79 1 9 (18 + 8 * i)) hu24 (by decide +kernel)) (by rfl) ?_
    refine zq_if hc hH (by rfl) (tg := 43) (by rfl) (fun h2 => ?_) (fun h2 => ?_)
    · have h2 : (decide ((μ.1 (18 + 8 * u2) 9) = 0)) = false := decide_eq_false (cm_ne.mp h2)
      refine z_rcs hc hH 3 (pc' := 47) (lv' := [(4, .int (nI u2)), (3, .int 2), (2, .int (300 * (μ.1 0 11))), (1, .int 0), (0, .ref 0)]) (st' := [.int 0, .int (nI u2), .ref 0]) (μ' := μ) (by rfl) ?_
      refine zq_call hc (z_cx_ok hH (by rfl)) (hwg2 _ (WE_rf _) (hA0) d' (by omega)) (by decide +kernel) (fun r9 W2 hq => ?_)
      obtain ⟨v2, hB2, rfl, hO2, hv2, hA2⟩ := hq
      show Z 0 50 [(4, .int (nI u2)), (3, .int 2), (2, .int (300 * (μ.1 0 11))), (1, .int 0), (0, .ref 0)] [.int v2.1] W2
      refine z_rcs hc hH 2 (pc' := 53) (lv' := [(4, .int (nI u2)), (3, .int 2), (2, .int (300 * (μ.1 0 11))), (1, .int 0), (0, .ref 0)]) (st' := [.ref 0, .int (nI u2), .int v2.1]) (μ' := W2) (by rfl) ?_
      refine zq_gfi hc hH (by rfl) (ci := 5) (f := 9) (by rfl) (by decide +kernel) (by rfl) ?_
      rw [(hO2 _ _ (by omega)).1]
      rw [hdl]
      have hJ3 : Z 0 65 [(4, .int (nI u2)), (3, .int 2), (2, .int (300 * (μ.1 0 11))), (1, .int 0), (0, .ref 0)] [.int (bif decide ((nI u2) = (nI dl)) then (6 : Int32) else 4), .int v2.1] W2 := by
        refine z_rcs hc hH 1 (pc' := 66) (lv' := [(4, .int (nI u2)), (3, .int 2), (2, .int (300 * (μ.1 0 11))), (1, .int 0), (0, .ref 0)]) (st' := [.int (v2.1 * (bif decide ((nI u2) = (nI dl)) then (6 : Int32) else 4))]) (μ' := W2) (by rfl) ?_
        refine zq_call hc (z_cx_ok hH (by rfl)) (gc_hundreds d' (by omega) W2 (v2.1 * (bif decide ((nI u2) = (nI dl)) then (6 : Int32) else 4))) (by decide +kernel) (fun r9 μ9 hq => ?_)
        obtain ⟨hμ9, rfl⟩ := hq
        rw [hμ9]
        clear hμ9 μ9
        show Z 0 69 [(4, .int (nI u2)), (3, .int 2), (2, .int (300 * (μ.1 0 11))), (1, .int 0), (0, .ref 0)] [.int (hnd (v2.1 * (bif decide ((nI u2) = (nI dl)) then (6 : Int32) else 4)))] W2
        refine z_rcs hc hH 5 (pc' := 76) (lv' := [(5, .int ((hnd (v2.1 * (bif decide ((nI u2) = (nI dl)) then (6 : Int32) else 4))) + (300 * (μ.1 0 11)))), (4, .int (nI u2)), (3, .int 2), (2, .int (300 * (μ.1 0 11))), (1, .int 0), (0, .ref 0)]) (st' := [.ref 0, .int ((hnd (v2.1 * (bif decide ((nI u2) = (nI dl)) then (6 : Int32) else 4))) + (300 * (μ.1 0 11)))]) (μ' := W2) (by rfl) ?_
        refine zq_gfi hc hH (by rfl) (ci := 5) (f := 12) (by rfl) (by decide +kernel) (by rfl) ?_
        rw [(hO2 _ _ (by omega)).1]
        refine z_rcs hc hH 6 (pc' := 88) (lv' := [(6, .int (((hnd (v2.1 * (bif decide ((nI u2) = (nI dl)) then (6 : Int32) else 4))) + (300 * (μ.1 0 11))) + ((μ.1 0 12) * 1000))), (5, .int ((hnd (v2.1 * (bif decide ((nI u2) = (nI dl)) then (6 : Int32) else 4))) + (300 * (μ.1 0 11)))), (4, .int (nI u2)), (3, .int 2), (2, .int (300 * (μ.1 0 11))), (1, .int 0), (0, .ref 0)]) (st' := [.ref 0, .ref 0]) (μ' := W2) (by rfl) ?_
        refine zq_gfi hc hH (by rfl) (ci := 5) (f := 8) (by rfl) (by decide +kernel) (by rfl) ?_
        rw [(hO2 _ _ (by omega)).1]
        rw [ht]
        refine zq_call hc (z_cx_ok hH (by rfl)) (gc_at4 d' (by omega) W2 t ht4) (by decide +kernel) (fun r9 μ9 hq => ?_)
        obtain ⟨hμ9, rfl⟩ := hq
        rw [hμ9]
        clear hμ9 μ9
        show Z 0 94 [(6, .int (((hnd (v2.1 * (bif decide ((nI u2) = (nI dl)) then (6 : Int32) else 4))) + (300 * (μ.1 0 11))) + ((μ.1 0 12) * 1000))), (5, .int ((hnd (v2.1 * (bif decide ((nI u2) = (nI dl)) then (6 : Int32) else 4))) + (300 * (μ.1 0 11)))), (4, .int (nI u2)), (3, .int 2), (2, .int (300 * (μ.1 0 11))), (1, .int 0), (0, .ref 0)] [.ref (18 + 8 * t)] W2
        refine z_rcs hc hH 1 (pc' := 95) (lv' := [(6, .int (((hnd (v2.1 * (bif decide ((nI u2) = (nI dl)) then (6 : Int32) else 4))) + (300 * (μ.1 0 11))) + ((μ.1 0 12) * 1000))), (5, .int ((hnd (v2.1 * (bif decide ((nI u2) = (nI dl)) then (6 : Int32) else 4))) + (300 * (μ.1 0 11)))), (4, .int (nI u2)), (3, .int 2), (2, .int (300 * (μ.1 0 11))), (1, .int 0), (0, .ref 0)]) (st' := [.ref (18 + 8 * t), .ref (18 + 8 * t)]) (μ' := W2) (by rfl) ?_
        refine zq_gfi hc hH (by rfl) (ci := 1) (f := 4) (by rfl) (sj (P := fun i => okf 79 1 4 (18 + 8 * i)) ht4 (by decide +kernel)) (by rfl) ?_
        rw [(hO2 _ _ (by omega)).1]
        refine z_rcs hc hH 2 (pc' := 101) (lv' := [(6, .int (((hnd (v2.1 * (bif decide ((nI u2) = (nI dl)) then (6 : Int32) else 4))) + (300 * (μ.1 0 11))) + ((μ.1 0 12) * 1000))), (5, .int ((hnd (v2.1 * (bif decide ((nI u2) = (nI dl)) then (6 : Int32) else 4))) + (300 * (μ.1 0 11)))), (4, .int (nI u2)), (3, .int 2), (2, .int (300 * (μ.1 0 11))), (1, .int 0), (0, .ref 0)]) (st' := [.int ((μ.1 (18 + 8 * t) 4) - ((hnd (v2.1 * (bif decide ((nI u2) = (nI dl)) then (6 : Int32) else 4))) + (300 * (μ.1 0 11)))), .ref (18 + 8 * t)]) (μ' := W2) (by rfl) ?_
        refine zq_pfi hc hH (by rfl) (ci := 1) (f := 4) (by rfl) (sj (P := fun i => okf 79 1 4 (18 + 8 * i)) ht4 (by decide +kernel)) (by rfl) ?_
        show Z 0 104 [(6, .int (((hnd (v2.1 * (bif decide ((nI u2) = (nI dl)) then (6 : Int32) else 4))) + (300 * (μ.1 0 11))) + ((μ.1 0 12) * 1000))), (5, .int ((hnd (v2.1 * (bif decide ((nI u2) = (nI dl)) then (6 : Int32) else 4))) + (300 * (μ.1 0 11)))), (4, .int (nI u2)), (3, .int 2), (2, .int (300 * (μ.1 0 11))), (1, .int 0), (0, .ref 0)] [] (z_ui W2 (18 + 8 * t) 4 ((μ.1 (18 + 8 * t) 4) - ((hnd (v2.1 * (bif decide ((nI u2) = (nI dl)) then (6 : Int32) else 4))) + (300 * (μ.1 0 11)))))
        refine z_rcs0 hc hH 2 (pc' := 107) (lv' := [(6, .int (((hnd (v2.1 * (bif decide ((nI u2) = (nI dl)) then (6 : Int32) else 4))) + (300 * (μ.1 0 11))) + ((μ.1 0 12) * 1000))), (5, .int ((hnd (v2.1 * (bif decide ((nI u2) = (nI dl)) then (6 : Int32) else 4))) + (300 * (μ.1 0 11)))), (4, .int (nI u2)), (3, .int 2), (2, .int (300 * (μ.1 0 11))), (1, .int 0), (0, .ref 0)]) (st' := [.int (nI u2), .ref 0]) (by rfl) ?_
        refine zq_call hc (z_cx_ok hH (by rfl)) (gc_at4 d' (by omega) (z_ui W2 (18 + 8 * t) 4 ((μ.1 (18 + 8 * t) 4) - ((hnd (v2.1 * (bif decide ((nI u2) = (nI dl)) then (6 : Int32) else 4))) + (300 * (μ.1 0 11))))) u2 hu24) (by decide +kernel) (fun r9 μ9 hq => ?_)
        obtain ⟨hμ9, rfl⟩ := hq
        rw [hμ9]
        clear hμ9 μ9
        show Z 0 110 [(6, .int (((hnd (v2.1 * (bif decide ((nI u2) = (nI dl)) then (6 : Int32) else 4))) + (300 * (μ.1 0 11))) + ((μ.1 0 12) * 1000))), (5, .int ((hnd (v2.1 * (bif decide ((nI u2) = (nI dl)) then (6 : Int32) else 4))) + (300 * (μ.1 0 11)))), (4, .int (nI u2)), (3, .int 2), (2, .int (300 * (μ.1 0 11))), (1, .int 0), (0, .ref 0)] [.ref (18 + 8 * u2)] _
        refine z_rcs0 hc hH 1 (pc' := 111) (lv' := [(6, .int (((hnd (v2.1 * (bif decide ((nI u2) = (nI dl)) then (6 : Int32) else 4))) + (300 * (μ.1 0 11))) + ((μ.1 0 12) * 1000))), (5, .int ((hnd (v2.1 * (bif decide ((nI u2) = (nI dl)) then (6 : Int32) else 4))) + (300 * (μ.1 0 11)))), (4, .int (nI u2)), (3, .int 2), (2, .int (300 * (μ.1 0 11))), (1, .int 0), (0, .ref 0)]) (st' := [.ref (18 + 8 * u2), .ref (18 + 8 * u2)]) (by rfl) ?_
        refine zq_gfi hc hH (by rfl) (ci := 1) (f := 4) (by rfl) (sj (P := fun i => okf 79 1 4 (18 + 8 * i)) hu24 (by decide +kernel)) (by rfl) ?_
        refine zV1 (Z := Z) (Eq.trans (ui_o (by first | decide | omega)) (hO2 _ _ (by omega)).1) ?_
        refine z_rcs0 hc hH 2 (pc' := 117) (lv' := [(6, .int (((hnd (v2.1 * (bif decide ((nI u2) = (nI dl)) then (6 : Int32) else 4))) + (300 * (μ.1 0 11))) + ((μ.1 0 12) * 1000))), (5, .int ((hnd (v2.1 * (bif decide ((nI u2) = (nI dl)) then (6 : Int32) else 4))) + (300 * (μ.1 0 11)))), (4, .int (nI u2)), (3, .int 2), (2, .int (300 * (μ.1 0 11))), (1, .int 0), (0, .ref 0)]) (st' := [.int ((μ.1 (18 + 8 * u2) 4) + (((hnd (v2.1 * (bif decide ((nI u2) = (nI dl)) then (6 : Int32) else 4))) + (300 * (μ.1 0 11))) + ((μ.1 0 12) * 1000))), .ref (18 + 8 * u2)]) (by rfl) ?_
        refine zq_pfi hc hH (by rfl) (ci := 1) (f := 4) (by rfl) (sj (P := fun i => okf 79 1 4 (18 + 8 * i)) hu24 (by decide +kernel)) (by rfl) ?_
        show Z 0 120 [(6, .int (((hnd (v2.1 * (bif decide ((nI u2) = (nI dl)) then (6 : Int32) else 4))) + (300 * (μ.1 0 11))) + ((μ.1 0 12) * 1000))), (5, .int ((hnd (v2.1 * (bif decide ((nI u2) = (nI dl)) then (6 : Int32) else 4))) + (300 * (μ.1 0 11)))), (4, .int (nI u2)), (3, .int 2), (2, .int (300 * (μ.1 0 11))), (1, .int 0), (0, .ref 0)] [] (z_ui (z_ui W2 (18 + 8 * t) 4 ((μ.1 (18 + 8 * t) 4) - ((hnd (v2.1 * (bif decide ((nI u2) = (nI dl)) then (6 : Int32) else 4))) + (300 * (μ.1 0 11))))) (18 + 8 * u2) 4 ((μ.1 (18 + 8 * u2) 4) + (((hnd (v2.1 * (bif decide ((nI u2) = (nI dl)) then (6 : Int32) else 4))) + (300 * (μ.1 0 11))) + ((μ.1 0 12) * 1000))))
        refine z_rcs0 hc hH 3 (pc' := 124) (lv' := [(6, .int (((hnd (v2.1 * (bif decide ((nI u2) = (nI dl)) then (6 : Int32) else 4))) + (300 * (μ.1 0 11))) + ((μ.1 0 12) * 1000))), (5, .int ((hnd (v2.1 * (bif decide ((nI u2) = (nI dl)) then (6 : Int32) else 4))) + (300 * (μ.1 0 11)))), (4, .int (nI u2)), (3, .int 2), (2, .int (300 * (μ.1 0 11))), (1, .int 0), (0, .ref 0)]) (st' := [.ref 0, .int (nI u2), .ref 0]) (by rfl) ?_
        refine zq_gfi hc hH (by rfl) (ci := 5) (f := 8) (by rfl) (by decide +kernel) (by rfl) ?_
        refine zV1 (Z := Z) (Eq.trans (ui_o (by first | decide | omega)) (Eq.trans (ui_o (by first | decide | omega)) (hO2 _ _ (by omega)).1)) ?_
        rw [ht]
        refine z_rcs0 hc hH 1 (pc' := 129) (lv' := [(6, .int (((hnd (v2.1 * (bif decide ((nI u2) = (nI dl)) then (6 : Int32) else 4))) + (300 * (μ.1 0 11))) + ((μ.1 0 12) * 1000))), (5, .int ((hnd (v2.1 * (bif decide ((nI u2) = (nI dl)) then (6 : Int32) else 4))) + (300 * (μ.1 0 11)))), (4, .int (nI u2)), (3, .int 2), (2, .int (300 * (μ.1 0 11))), (1, .int 0), (0, .ref 0)]) (st' := [.int (((hnd (v2.1 * (bif decide ((nI u2) = (nI dl)) then (6 : Int32) else 4))) + (300 * (μ.1 0 11))) + ((μ.1 0 12) * 1000)), .int (nI t), .int (nI u2), .ref 0]) (by rfl) ?_
        refine zq_call hc (z_cx_ok hH (by rfl)) (gc_recordWin d' (by omega) (z_ui (z_ui W2 (18 + 8 * t) 4 ((μ.1 (18 + 8 * t) 4) - ((hnd (v2.1 * (bif decide ((nI u2) = (nI dl)) then (6 : Int32) else 4))) + (300 * (μ.1 0 11))))) (18 + 8 * u2) 4 ((μ.1 (18 + 8 * u2) 4) + (((hnd (v2.1 * (bif decide ((nI u2) = (nI dl)) then (6 : Int32) else 4))) + (300 * (μ.1 0 11))) + ((μ.1 0 12) * 1000)))) 0 (by omega) (by rw [ui_o (by first | decide | omega), ui_o (by first | decide | omega), (hO2 _ _ (by omega)).1]; exact h06) (nI u2) (nI t) (((hnd (v2.1 * (bif decide ((nI u2) = (nI dl)) then (6 : Int32) else 4))) + (300 * (μ.1 0 11))) + ((μ.1 0 12) * 1000))) (by decide +kernel) (fun r9 μ9 hq => ?_)
        obtain ⟨rfl, rfl⟩ := hq
        show Z 0 132 [(6, .int (((hnd (v2.1 * (bif decide ((nI u2) = (nI dl)) then (6 : Int32) else 4))) + (300 * (μ.1 0 11))) + ((μ.1 0 12) * 1000))), (5, .int ((hnd (v2.1 * (bif decide ((nI u2) = (nI dl)) then (6 : Int32) else 4))) + (300 * (μ.1 0 11)))), (4, .int (nI u2)), (3, .int 2), (2, .int (300 * (μ.1 0 11))), (1, .int 0), (0, .ref 0)] [] (rcW (z_ui (z_ui W2 (18 + 8 * t) 4 ((μ.1 (18 + 8 * t) 4) - ((hnd (v2.1 * (bif decide ((nI u2) = (nI dl)) then (6 : Int32) else 4))) + (300 * (μ.1 0 11))))) (18 + 8 * u2) 4 ((μ.1 (18 + 8 * u2) 4) + (((hnd (v2.1 * (bif decide ((nI u2) = (nI dl)) then (6 : Int32) else 4))) + (300 * (μ.1 0 11))) + ((μ.1 0 12) * 1000)))) 0 (nI u2) (nI t) (((hnd (v2.1 * (bif decide ((nI u2) = (nI dl)) then (6 : Int32) else 4))) + (300 * (μ.1 0 11))) + ((μ.1 0 12) * 1000)))
        refine z_rcs0 hc hH 4 (pc' := 139) (lv' := [(6, .int (((hnd (v2.1 * (bif decide ((nI u2) = (nI dl)) then (6 : Int32) else 4))) + (300 * (μ.1 0 11))) + ((μ.1 0 12) * 1000))), (5, .int ((hnd (v2.1 * (bif decide ((nI u2) = (nI dl)) then (6 : Int32) else 4))) + (300 * (μ.1 0 11)))), (4, .int (nI u2)), (3, .int 2), (2, .int (300 * (μ.1 0 11))), (1, .int 0), (0, .ref 0)]) (st' := [.ref 0, .int (nI u2)]) (by rfl) ?_
        refine zq_gfi hc hH (by rfl) (ci := 5) (f := 9) (by rfl) (by decide +kernel) (by rfl) ?_
        refine zV1 (Z := Z) (Eq.trans (rcW_o (by first | decide | omega)) (Eq.trans (ui_o (by first | decide | omega)) (Eq.trans (ui_o (by first | decide | omega)) (hO2 _ _ (by omega)).1))) ?_
        rw [hdl]
        have hJ4 : Z 0 150 [(6, .int (((hnd (v2.1 * (bif decide ((nI u2) = (nI dl)) then (6 : Int32) else 4))) + (300 * (μ.1 0 11))) + ((μ.1 0 12) * 1000))), (5, .int ((hnd (v2.1 * (bif decide ((nI u2) = (nI dl)) then (6 : Int32) else 4))) + (300 * (μ.1 0 11)))), (4, .int (nI u2)), (3, .int 2), (2, .int (300 * (μ.1 0 11))), (1, .int 0), (0, .ref 0)] [.int (nB (decide ((nI u2) = (nI dl))))] (rcW (z_ui (z_ui W2 (18 + 8 * t) 4 ((μ.1 (18 + 8 * t) 4) - ((hnd (v2.1 * (bif decide ((nI u2) = (nI dl)) then (6 : Int32) else 4))) + (300 * (μ.1 0 11))))) (18 + 8 * u2) 4 ((μ.1 (18 + 8 * u2) 4) + (((hnd (v2.1 * (bif decide ((nI u2) = (nI dl)) then (6 : Int32) else 4))) + (300 * (μ.1 0 11))) + ((μ.1 0 12) * 1000)))) 0 (nI u2) (nI t) (((hnd (v2.1 * (bif decide ((nI u2) = (nI dl)) then (6 : Int32) else 4))) + (300 * (μ.1 0 11))) + ((μ.1 0 12) * 1000))) := by
          refine z_rcs0 hc hH 5 (pc' := 155) (lv' := [(2, .int 0), (1, .int (nB (decide ((nI u2) = (nI dl))))), (6, .int (((hnd (v2.1 * (bif decide ((nI u2) = (nI dl)) then (6 : Int32) else 4))) + (300 * (μ.1 0 11))) + ((μ.1 0 12) * 1000))), (5, .int ((hnd (v2.1 * (bif decide ((nI u2) = (nI dl)) then (6 : Int32) else 4))) + (300 * (μ.1 0 11)))), (4, .int (nI u2)), (3, .int 2), (0, .ref 0)]) (st' := [.int 0, .ref 0]) (by rfl) ?_
          refine zq_pfi hc hH (by rfl) (ci := 5) (f := 12) (by rfl) (by decide +kernel) (by rfl) ?_
          show Z 0 158 [(2, .int 0), (1, .int (nB (decide ((nI u2) = (nI dl))))), (6, .int (((hnd (v2.1 * (bif decide ((nI u2) = (nI dl)) then (6 : Int32) else 4))) + (300 * (μ.1 0 11))) + ((μ.1 0 12) * 1000))), (5, .int ((hnd (v2.1 * (bif decide ((nI u2) = (nI dl)) then (6 : Int32) else 4))) + (300 * (μ.1 0 11)))), (4, .int (nI u2)), (3, .int 2), (0, .ref 0)] [] (z_ui (rcW (z_ui (z_ui W2 (18 + 8 * t) 4 ((μ.1 (18 + 8 * t) 4) - ((hnd (v2.1 * (bif decide ((nI u2) = (nI dl)) then (6 : Int32) else 4))) + (300 * (μ.1 0 11))))) (18 + 8 * u2) 4 ((μ.1 (18 + 8 * u2) 4) + (((hnd (v2.1 * (bif decide ((nI u2) = (nI dl)) then (6 : Int32) else 4))) + (300 * (μ.1 0 11))) + ((μ.1 0 12) * 1000)))) 0 (nI u2) (nI t) (((hnd (v2.1 * (bif decide ((nI u2) = (nI dl)) then (6 : Int32) else 4))) + (300 * (μ.1 0 11))) + ((μ.1 0 12) * 1000))) 0 12 0)
          refine z_rcs0 hc hH 6 (pc' := 19) (lv' := [(3, .int 3), (2, .int 0), (1, .int (nB (decide ((nI u2) = (nI dl))))), (6, .int (((hnd (v2.1 * (bif decide ((nI u2) = (nI dl)) then (6 : Int32) else 4))) + (300 * (μ.1 0 11))) + ((μ.1 0 12) * 1000))), (5, .int ((hnd (v2.1 * (bif decide ((nI u2) = (nI dl)) then (6 : Int32) else 4))) + (300 * (μ.1 0 11)))), (4, .int (nI u2)), (0, .ref 0)]) (st' := [.ref 0]) (by rfl) ?_
          refine zq_gfi hc hH (by rfl) (ci := 5) (f := 8) (by rfl) (by decide +kernel) (by rfl) ?_
          refine zV1 (Z := Z) (Eq.trans (ui_k (by first | decide | omega)) (Eq.trans (rcW_o (by first | decide | omega)) (Eq.trans (ui_o (by first | decide | omega)) (Eq.trans (ui_o (by first | decide | omega)) (hO2 _ _ (by omega)).1)))) ?_
          rw [ht]
          refine z_rcs0 hc hH 2 (pc' := 24) (lv' := [(3, .int 3), (2, .int 0), (1, .int (nB (decide ((nI u2) = (nI dl))))), (6, .int (((hnd (v2.1 * (bif decide ((nI u2) = (nI dl)) then (6 : Int32) else 4))) + (300 * (μ.1 0 11))) + ((μ.1 0 12) * 1000))), (5, .int ((hnd (v2.1 * (bif decide ((nI u2) = (nI dl)) then (6 : Int32) else 4))) + (300 * (μ.1 0 11)))), (4, .int (nI u2)), (0, .ref 0)]) (st' := [.int ((nI t) + 3)]) (by rfl) ?_
          rw [show nI t + 3 = nI (t + 3) from by rw [show (3 : Int32) = nI 3 from rfl, nI_add]]
          refine z_rcs0 hc hH 2 (pc' := 26) (lv' := [(3, .int 3), (2, .int 0), (1, .int (nB (decide ((nI u2) = (nI dl))))), (6, .int (((hnd (v2.1 * (bif decide ((nI u2) = (nI dl)) then (6 : Int32) else 4))) + (300 * (μ.1 0 11))) + ((μ.1 0 12) * 1000))), (5, .int ((hnd (v2.1 * (bif decide ((nI u2) = (nI dl)) then (6 : Int32) else 4))) + (300 * (μ.1 0 11)))), (4, .int (nI u2)), (0, .ref 0)]) (st' := [.int ((nI (t + 3)) &&& 3)]) (by rfl) ?_
          rw [show nI (t + 3) &&& 3 = nI u3 from by rw [and3 (by omega), hu3]]
          refine z_rcs0 hc hH 3 (pc' := 31) (lv' := [(4, .int (nI u3)), (3, .int 3), (2, .int 0), (1, .int (nB (decide ((nI u2) = (nI dl))))), (6, .int (((hnd (v2.1 * (bif decide ((nI u2) = (nI dl)) then (6 : Int32) else 4))) + (300 * (μ.1 0 11))) + ((μ.1 0 12) * 1000))), (5, .int ((hnd (v2.1 * (bif decide ((nI u2) = (nI dl)) then (6 : Int32) else 4))) + (300 * (μ.1 0 11)))), (0, .ref 0)]) (st' := [.int (nI u3), .ref 0]) (by rfl) ?_
          refine zq_call hc (z_cx_ok hH (by rfl)) (gc_at4 d' (by omega) (z_ui (rcW (z_ui (z_ui W2 (18 + 8 * t) 4 ((μ.1 (18 + 8 * t) 4) - ((hnd (v2.1 * (bif decide ((nI u2) = (nI dl)) then (6 : Int32) else 4))) + (300 * (μ.1 0 11))))) (18 + 8 * u2) 4 ((μ.1 (18 + 8 * u2) 4) + (((hnd (v2.1 * (bif decide ((nI u2) = (nI dl)) then (6 : Int32) else 4))) + (300 * (μ.1 0 11))) + ((μ.1 0 12) * 1000)))) 0 (nI u2) (nI t) (((hnd (v2.1 * (bif decide ((nI u2) = (nI dl)) then (6 : Int32) else 4))) + (300 * (μ.1 0 11))) + ((μ.1 0 12) * 1000))) 0 12 0) u3 hu34) (by decide +kernel) (fun r9 μ9 hq => ?_)
          obtain ⟨hμ9, rfl⟩ := hq
          rw [hμ9]
          clear hμ9 μ9
          show Z 0 34 [(4, .int (nI u3)), (3, .int 3), (2, .int 0), (1, .int (nB (decide ((nI u2) = (nI dl))))), (6, .int (((hnd (v2.1 * (bif decide ((nI u2) = (nI dl)) then (6 : Int32) else 4))) + (300 * (μ.1 0 11))) + ((μ.1 0 12) * 1000))), (5, .int ((hnd (v2.1 * (bif decide ((nI u2) = (nI dl)) then (6 : Int32) else 4))) + (300 * (μ.1 0 11)))), (0, .ref 0)] [.ref (18 + 8 * u3)] _
          refine zq_gfi hc hH (by rfl) (ci := 1) (f := 9) (by rfl) (sj (P := fun i => okf 79 1 9 (18 + 8 * i)) hu34 (by decide +kernel)) (by rfl) ?_
          refine zV1 (Z := Z) (Eq.trans (ui_o (by first | decide | omega)) (Eq.trans (rcW_o (by first | decide | omega)) (Eq.trans (ui_o (by first | decide | omega)) (Eq.trans (ui_o (by first | decide | omega)) (hO2 _ _ (by omega)).1)))) ?_
          refine zq_if hc hH (by rfl) (tg := 43) (by rfl) (fun h5 => ?_) (fun h5 => ?_)
          · have h5 : (decide ((μ.1 (18 + 8 * u3) 9) = 0)) = false := decide_eq_false (cm_ne.mp h5)
            exact absurd (Eq.trans (Eq.symm (hs3)) h5) (by decide)
          · have h5 : (decide ((μ.1 (18 + 8 * u3) 9) = 0)) = true := decide_eq_true (cn_ne.mp h5)
            refine z_rcs0 hc hH 9 (pc' := 167) (lv' := [(3, .int 4), (4, .int (nI u3)), (2, .int 0), (1, .int (nB (decide ((nI u2) = (nI dl))))), (6, .int (((hnd (v2.1 * (bif decide ((nI u2) = (nI dl)) then (6 : Int32) else 4))) + (300 * (μ.1 0 11))) + ((μ.1 0 12) * 1000))), (5, .int ((hnd (v2.1 * (bif decide ((nI u2) = (nI dl)) then (6 : Int32) else 4))) + (300 * (μ.1 0 11)))), (0, .ref 0)]) (st' := [.int (nB (decide ((nI u2) = (nI dl)))), .int (nB (decide ((nI u2) = (nI dl)))), .ref 0]) (by rfl) ?_
            have hJ6 : Z 0 175 [(3, .int 4), (4, .int (nI u3)), (2, .int 0), (1, .int (nB (decide ((nI u2) = (nI dl))))), (6, .int (((hnd (v2.1 * (bif decide ((nI u2) = (nI dl)) then (6 : Int32) else 4))) + (300 * (μ.1 0 11))) + ((μ.1 0 12) * 1000))), (5, .int ((hnd (v2.1 * (bif decide ((nI u2) = (nI dl)) then (6 : Int32) else 4))) + (300 * (μ.1 0 11)))), (0, .ref 0)] [.int (nB (!(decide ((nI u2) = (nI dl))))), .int (nB (decide ((nI u2) = (nI dl)))), .ref 0] (z_ui (rcW (z_ui (z_ui W2 (18 + 8 * t) 4 ((μ.1 (18 + 8 * t) 4) - ((hnd (v2.1 * (bif decide ((nI u2) = (nI dl)) then (6 : Int32) else 4))) + (300 * (μ.1 0 11))))) (18 + 8 * u2) 4 ((μ.1 (18 + 8 * u2) 4) + (((hnd (v2.1 * (bif decide ((nI u2) = (nI dl)) then (6 : Int32) else 4))) + (300 * (μ.1 0 11))) + ((μ.1 0 12) * 1000)))) 0 (nI u2) (nI t) (((hnd (v2.1 * (bif decide ((nI u2) = (nI dl)) then (6 : Int32) else 4))) + (300 * (μ.1 0 11))) + ((μ.1 0 12) * 1000))) 0 12 0) := by
              refine zq_call hc (z_cx_ok hH (by rfl)) (gc_endHandB d' (by omega) (z_ui (rcW (z_ui (z_ui W2 (18 + 8 * t) 4 ((μ.1 (18 + 8 * t) 4) - ((hnd (v2.1 * (bif decide ((nI u2) = (nI dl)) then (6 : Int32) else 4))) + (300 * (μ.1 0 11))))) (18 + 8 * u2) 4 ((μ.1 (18 + 8 * u2) 4) + (((hnd (v2.1 * (bif decide ((nI u2) = (nI dl)) then (6 : Int32) else 4))) + (300 * (μ.1 0 11))) + ((μ.1 0 12) * 1000)))) 0 (nI u2) (nI t) (((hnd (v2.1 * (bif decide ((nI u2) = (nI dl)) then (6 : Int32) else 4))) + (300 * (μ.1 0 11))) + ((μ.1 0 12) * 1000))) 0 12 0) (decide ((nI u2) = (nI dl))) (!(decide ((nI u2) = (nI dl)))) dl e (by rw [ui_k (by first | decide | omega), rcW_o (by first | decide | omega), ui_o (by first | decide | omega), ui_o (by first | decide | omega), (hO2 _ _ (by omega)).1]; exact hdl) hdl4 he) (by decide +kernel) (fun r9 μ9 hq => ?_)
              obtain ⟨rfl, rfl⟩ := hq
              show Z 0 178 [(3, .int 4), (4, .int (nI u3)), (2, .int 0), (1, .int (nB (decide ((nI u2) = (nI dl))))), (6, .int (((hnd (v2.1 * (bif decide ((nI u2) = (nI dl)) then (6 : Int32) else 4))) + (300 * (μ.1 0 11))) + ((μ.1 0 12) * 1000))), (5, .int ((hnd (v2.1 * (bif decide ((nI u2) = (nI dl)) then (6 : Int32) else 4))) + (300 * (μ.1 0 11)))), (0, .ref 0)] [] (eHB (z_ui (rcW (z_ui (z_ui W2 (18 + 8 * t) 4 ((μ.1 (18 + 8 * t) 4) - ((hnd (v2.1 * (bif decide ((nI u2) = (nI dl)) then (6 : Int32) else 4))) + (300 * (μ.1 0 11))))) (18 + 8 * u2) 4 ((μ.1 (18 + 8 * u2) 4) + (((hnd (v2.1 * (bif decide ((nI u2) = (nI dl)) then (6 : Int32) else 4))) + (300 * (μ.1 0 11))) + ((μ.1 0 12) * 1000)))) 0 (nI u2) (nI t) (((hnd (v2.1 * (bif decide ((nI u2) = (nI dl)) then (6 : Int32) else 4))) + (300 * (μ.1 0 11))) + ((μ.1 0 12) * 1000))) 0 12 0) (decide ((nI u2) = (nI dl))) (!(decide ((nI u2) = (nI dl)))) (xBk (z_ui (rcW (z_ui (z_ui W2 (18 + 8 * t) 4 ((μ.1 (18 + 8 * t) 4) - ((hnd (v2.1 * (bif decide ((nI u2) = (nI dl)) then (6 : Int32) else 4))) + (300 * (μ.1 0 11))))) (18 + 8 * u2) 4 ((μ.1 (18 + 8 * u2) 4) + (((hnd (v2.1 * (bif decide ((nI u2) = (nI dl)) then (6 : Int32) else 4))) + (300 * (μ.1 0 11))) + ((μ.1 0 12) * 1000)))) 0 (nI u2) (nI t) (((hnd (v2.1 * (bif decide ((nI u2) = (nI dl)) then (6 : Int32) else 4))) + (300 * (μ.1 0 11))) + ((μ.1 0 12) * 1000))) 0 12 0)) dl e (rcM (z_ui (rcW (z_ui (z_ui W2 (18 + 8 * t) 4 ((μ.1 (18 + 8 * t) 4) - ((hnd (v2.1 * (bif decide ((nI u2) = (nI dl)) then (6 : Int32) else 4))) + (300 * (μ.1 0 11))))) (18 + 8 * u2) 4 ((μ.1 (18 + 8 * u2) 4) + (((hnd (v2.1 * (bif decide ((nI u2) = (nI dl)) then (6 : Int32) else 4))) + (300 * (μ.1 0 11))) + ((μ.1 0 12) * 1000)))) 0 (nI u2) (nI t) (((hnd (v2.1 * (bif decide ((nI u2) = (nI dl)) then (6 : Int32) else 4))) + (300 * (μ.1 0 11))) + ((μ.1 0 12) * 1000))) 0 12 0)))
              exact hr 0 178 _ _ _ none (by decide +kernel) (by rfl) (⟨rfl, v2, W2, hB2, hv2, hO2, rfl⟩)
            refine zq_if hc hH (by rfl) (tg := 174) (by rfl) (fun h7 => ?_) (fun h7 => ?_)
            · have h7 : (decide ((nI u2) = (nI dl))) = true := nB_n.mp (cm_ne.mp h7)
              refine z_rcs hc hH 1 (pc' := 175) (lv' := [(3, .int 4), (4, .int (nI u3)), (2, .int 0), (1, .int (nB (decide ((nI u2) = (nI dl))))), (6, .int (((hnd (v2.1 * (bif decide ((nI u2) = (nI dl)) then (6 : Int32) else 4))) + (300 * (μ.1 0 11))) + ((μ.1 0 12) * 1000))), (5, .int ((hnd (v2.1 * (bif decide ((nI u2) = (nI dl)) then (6 : Int32) else 4))) + (300 * (μ.1 0 11)))), (0, .ref 0)]) (st' := [.int 0, .int (nB (decide ((nI u2) = (nI dl)))), .ref 0]) (μ' := z_ui (rcW (z_ui (z_ui W2 (18 + 8 * t) 4 ((μ.1 (18 + 8 * t) 4) - ((hnd (v2.1 * (bif decide ((nI u2) = (nI dl)) then (6 : Int32) else 4))) + (300 * (μ.1 0 11))))) (18 + 8 * u2) 4 ((μ.1 (18 + 8 * u2) 4) + (((hnd (v2.1 * (bif decide ((nI u2) = (nI dl)) then (6 : Int32) else 4))) + (300 * (μ.1 0 11))) + ((μ.1 0 12) * 1000)))) 0 (nI u2) (nI t) (((hnd (v2.1 * (bif decide ((nI u2) = (nI dl)) then (6 : Int32) else 4))) + (300 * (μ.1 0 11))) + ((μ.1 0 12) * 1000))) 0 12 0) (by rfl) ?_
              exact zJ hJ6 rfl (by first | with_reducible rfl | (simp only [h7, lb_f, Int64.or_zero, Int32.add_zero, nB_t, nB_f, Bool.not_true, Bool.not_false, Bool.and_true, Bool.true_and, Bool.false_and, Bool.and_false, Bool.or_true, Bool.true_or, Bool.false_or, Bool.or_false, cond_true, cond_false]; done) | rfl) rfl
            · have h7 : (decide ((nI u2) = (nI dl))) = false := nB_z.mp (cn_ne.mp h7)
              refine z_rcs0 hc hH 2 (pc' := 175) (lv' := [(3, .int 4), (4, .int (nI u3)), (2, .int 0), (1, .int (nB (decide ((nI u2) = (nI dl))))), (6, .int (((hnd (v2.1 * (bif decide ((nI u2) = (nI dl)) then (6 : Int32) else 4))) + (300 * (μ.1 0 11))) + ((μ.1 0 12) * 1000))), (5, .int ((hnd (v2.1 * (bif decide ((nI u2) = (nI dl)) then (6 : Int32) else 4))) + (300 * (μ.1 0 11)))), (0, .ref 0)]) (st' := [.int 1, .int (nB (decide ((nI u2) = (nI dl)))), .ref 0]) (by rfl) ?_
              exact zJ hJ6 rfl (by first | with_reducible rfl | (simp only [h7, lb_f, Int64.or_zero, Int32.add_zero, nB_t, nB_f, Bool.not_true, Bool.not_false, Bool.and_true, Bool.true_and, Bool.false_and, Bool.and_false, Bool.or_true, Bool.true_or, Bool.false_or, Bool.or_false, cond_true, cond_false]; done) | rfl) rfl
        refine zq_ic hc hH (by rfl) (tg := 149) (by rfl) (fun h8 => ?_) (fun h8 => ?_)
        · have h8 : (decide ((nI u2) = (nI dl))) = false := decide_eq_false (cm_ne.mp h8)
          refine z_rcs hc hH 1 (pc' := 150) (lv' := [(6, .int (((hnd (v2.1 * (bif decide ((nI u2) = (nI dl)) then (6 : Int32) else 4))) + (300 * (μ.1 0 11))) + ((μ.1 0 12) * 1000))), (5, .int ((hnd (v2.1 * (bif decide ((nI u2) = (nI dl)) then (6 : Int32) else 4))) + (300 * (μ.1 0 11)))), (4, .int (nI u2)), (3, .int 2), (2, .int (300 * (μ.1 0 11))), (1, .int 0), (0, .ref 0)]) (st' := [.int 0]) (μ' := rcW (z_ui (z_ui W2 (18 + 8 * t) 4 ((μ.1 (18 + 8 * t) 4) - ((hnd (v2.1 * (bif decide ((nI u2) = (nI dl)) then (6 : Int32) else 4))) + (300 * (μ.1 0 11))))) (18 + 8 * u2) 4 ((μ.1 (18 + 8 * u2) 4) + (((hnd (v2.1 * (bif decide ((nI u2) = (nI dl)) then (6 : Int32) else 4))) + (300 * (μ.1 0 11))) + ((μ.1 0 12) * 1000)))) 0 (nI u2) (nI t) (((hnd (v2.1 * (bif decide ((nI u2) = (nI dl)) then (6 : Int32) else 4))) + (300 * (μ.1 0 11))) + ((μ.1 0 12) * 1000))) (by rfl) ?_
          exact zJ hJ4 rfl (by first | with_reducible rfl | (simp only [h8, lb_f, Int64.or_zero, Int32.add_zero, nB_t, nB_f, Bool.not_true, Bool.not_false, Bool.and_true, Bool.true_and, Bool.false_and, Bool.and_false, Bool.or_true, Bool.true_or, Bool.false_or, Bool.or_false, cond_true, cond_false]; done) | rfl) rfl
        · have h8 : (decide ((nI u2) = (nI dl))) = true := decide_eq_true (cn_ne.mp h8)
          refine z_rcs0 hc hH 2 (pc' := 150) (lv' := [(6, .int (((hnd (v2.1 * (bif decide ((nI u2) = (nI dl)) then (6 : Int32) else 4))) + (300 * (μ.1 0 11))) + ((μ.1 0 12) * 1000))), (5, .int ((hnd (v2.1 * (bif decide ((nI u2) = (nI dl)) then (6 : Int32) else 4))) + (300 * (μ.1 0 11)))), (4, .int (nI u2)), (3, .int 2), (2, .int (300 * (μ.1 0 11))), (1, .int 0), (0, .ref 0)]) (st' := [.int 1]) (by rfl) ?_
          exact zJ hJ4 rfl (by first | with_reducible rfl | (simp only [h8, lb_f, Int64.or_zero, Int32.add_zero, nB_t, nB_f, Bool.not_true, Bool.not_false, Bool.and_true, Bool.true_and, Bool.false_and, Bool.and_false, Bool.or_true, Bool.true_or, Bool.false_or, Bool.or_false, cond_true, cond_false]; done) | rfl) rfl
      refine zq_ic hc hH (by rfl) (tg := 64) (by rfl) (fun h9 => ?_) (fun h9 => ?_)
      · have h9 : (decide ((nI u2) = (nI dl))) = false := decide_eq_false (cm_ne.mp h9)
        refine z_rcs hc hH 1 (pc' := 65) (lv' := [(4, .int (nI u2)), (3, .int 2), (2, .int (300 * (μ.1 0 11))), (1, .int 0), (0, .ref 0)]) (st' := [.int 4, .int v2.1]) (μ' := W2) (by rfl) ?_
        exact zJ hJ3 rfl (by first | with_reducible rfl | (simp only [h9, lb_f, Int64.or_zero, Int32.add_zero, nB_t, nB_f, Bool.not_true, Bool.not_false, Bool.and_true, Bool.true_and, Bool.false_and, Bool.and_false, Bool.or_true, Bool.true_or, Bool.false_or, Bool.or_false, cond_true, cond_false]; done) | rfl) rfl
      · have h9 : (decide ((nI u2) = (nI dl))) = true := decide_eq_true (cn_ne.mp h9)
        refine z_rcs hc hH 2 (pc' := 65) (lv' := [(4, .int (nI u2)), (3, .int 2), (2, .int (300 * (μ.1 0 11))), (1, .int 0), (0, .ref 0)]) (st' := [.int 6, .int v2.1]) (μ' := W2) (by rfl) ?_
        exact zJ hJ3 rfl (by first | with_reducible rfl | (simp only [h9, lb_f, Int64.or_zero, Int32.add_zero, nB_t, nB_f, Bool.not_true, Bool.not_false, Bool.and_true, Bool.true_and, Bool.false_and, Bool.and_false, Bool.or_true, Bool.true_or, Bool.false_or, Bool.or_false, cond_true, cond_false]; done) | rfl) rfl
    · have h2 : (decide ((μ.1 (18 + 8 * u2) 9) = 0)) = true := decide_eq_true (cn_ne.mp h2)
      exact absurd (Eq.trans (Eq.symm (hs2)) h2) (by decide)
noncomputable def wA011 (W3 : zM) (t dl e u1 u2 u3 : Nat) (v2 v3 : Q4) (μ : zM) : zM := eHB (z_ui (rcW (z_ui (z_ui W3 (18 + 8 * t) 4 (((μ.1 (18 + 8 * t) 4) - ((hnd (v2.1 * (bif decide ((nI u2) = (nI dl)) then (6 : Int32) else 4))) + (300 * (μ.1 0 11)))) - ((hnd (v3.1 * (bif decide ((nI u3) = (nI dl)) then (6 : Int32) else 4))) + 0))) (18 + 8 * u3) 4 ((μ.1 (18 + 8 * u3) 4) + (((hnd (v3.1 * (bif decide ((nI u3) = (nI dl)) then (6 : Int32) else 4))) + 0) + 0))) 1 (nI u3) (nI t) (((hnd (v3.1 * (bif decide ((nI u3) = (nI dl)) then (6 : Int32) else 4))) + 0) + 0)) 0 12 0) ((decide ((nI u2) = (nI dl))) || (decide ((nI u3) = (nI dl)))) (!((decide ((nI u2) = (nI dl))) || (decide ((nI u3) = (nI dl))))) (xBk (z_ui (rcW (z_ui (z_ui W3 (18 + 8 * t) 4 (((μ.1 (18 + 8 * t) 4) - ((hnd (v2.1 * (bif decide ((nI u2) = (nI dl)) then (6 : Int32) else 4))) + (300 * (μ.1 0 11)))) - ((hnd (v3.1 * (bif decide ((nI u3) = (nI dl)) then (6 : Int32) else 4))) + 0))) (18 + 8 * u3) 4 ((μ.1 (18 + 8 * u3) 4) + (((hnd (v3.1 * (bif decide ((nI u3) = (nI dl)) then (6 : Int32) else 4))) + 0) + 0))) 1 (nI u3) (nI t) (((hnd (v3.1 * (bif decide ((nI u3) = (nI dl)) then (6 : Int32) else 4))) + 0) + 0)) 0 12 0)) dl e (rcM (z_ui (rcW (z_ui (z_ui W3 (18 + 8 * t) 4 (((μ.1 (18 + 8 * t) 4) - ((hnd (v2.1 * (bif decide ((nI u2) = (nI dl)) then (6 : Int32) else 4))) + (300 * (μ.1 0 11)))) - ((hnd (v3.1 * (bif decide ((nI u3) = (nI dl)) then (6 : Int32) else 4))) + 0))) (18 + 8 * u3) 4 ((μ.1 (18 + 8 * u3) 4) + (((hnd (v3.1 * (bif decide ((nI u3) = (nI dl)) then (6 : Int32) else 4))) + 0) + 0))) 1 (nI u3) (nI t) (((hnd (v3.1 * (bif decide ((nI u3) = (nI dl)) then (6 : Int32) else 4))) + 0) + 0)) 0 12 0))
theorem gc_winByTile011 (d : Nat) (hd : 11 ≤ d) (μ : zM) (t c u1 u2 u3 : Nat) (ht4 : t < 4) (ht : μ.1 0 8 = nI t) (hu1 : (t + 1) % 4 = u1) (hu14 : u1 < 4) (hu2 : (t + 2) % 4 = u2) (hu24 : u2 < 4) (hu3 : (t + 3) % 4 = u3) (hu34 : u3 < 4) (dl e : Nat) (hdl : μ.1 0 9 = nI dl) (hdl4 : dl < 4) (he : (dl + 1) % 4 = e) (h06 : μ.1 0 6 = nI 0) (hA0 : a_H μ) (hs1 : decide (μ.1 (18 + 8 * u1) 9 = 0) = true) (hs2 : decide (μ.1 (18 + 8 * u2) 9 = 0) = false) (hs3 : decide (μ.1 (18 + 8 * u3) 9 = 0) = false) (B2 : Q4 → Prop) (hwg2 : ∀ M, WE μ M → a_H M → ∀ d, 10 ≤ d → z_C d mi_X6_weighHand [.ref 0, .int (nI u2), .int 0] M (fun r W => ∃ v, B2 v ∧ r = some (.int v.1) ∧ WOj M W ∧ bqJ W = v ∧ a_H W)) (B3 : Q4 → Prop) (hwg3 : ∀ M, WE μ M → a_H M → ∀ d, 10 ≤ d → z_C d mi_X6_weighHand [.ref 0, .int (nI u3), .int 0] M (fun r W => ∃ v, B3 v ∧ r = some (.int v.1) ∧ WOj M W ∧ bqJ W = v ∧ a_H W)) : z_C d mi_X6_winByTile [.ref 0] μ (fun r μ' => r = none ∧ ∃ v2 W2 v3 W3, B2 v2 ∧ bqJ W2 = v2 ∧ WOj μ W2 ∧ B3 v3 ∧ bqJ W3 = v3 ∧ WOj (z_ui (rcW (z_ui (z_ui W2 (18 + 8 * t) 4 ((μ.1 (18 + 8 * t) 4) - ((hnd (v2.1 * (bif decide ((nI u2) = (nI dl)) then (6 : Int32) else 4))) + (300 * (μ.1 0 11))))) (18 + 8 * u2) 4 ((μ.1 (18 + 8 * u2) 4) + (((hnd (v2.1 * (bif decide ((nI u2) = (nI dl)) then (6 : Int32) else 4))) + (300 * (μ.1 0 11))) + ((μ.1 0 12) * 1000)))) 0 (nI u2) (nI t) (((hnd (v2.1 * (bif decide ((nI u2) = (nI dl)) then (6 : Int32) else 4))) + (300 * (μ.1 0 11))) + ((μ.1 0 12) * 1000))) 0 12 0) W3 ∧ μ' = wA011 W3 t dl e u1 u2 u3 v2 v3 μ) := by
  refine z_C_in (by decide) (by omega) (fun d' Z ed hc hr => ?_)
  have hH : zH mi_X6_winByTile zt_X6_winByTile 79 6 7 := hh_X6_winByTile
  refine z_rcs hc hH 4 (pc' := 6) (lv' := [(1, .int 0), (0, .ref 0)]) (st' := [.ref 0, .int 300]) (μ' := μ) (by rfl) ?_
  refine zq_gfi hc hH (by rfl) (ci := 5) (f := 11) (by rfl) (by decide +kernel) (by rfl) ?_
  refine z_rcs hc hH 8 (pc' := 19) (lv' := [(3, .int 1), (2, .int (300 * (μ.1 0 11))), (1, .int 0), (0, .ref 0)]) (st' := [.ref 0]) (μ' := μ) (by rfl) ?_
  refine zq_gfi hc hH (by rfl) (ci := 5) (f := 8) (by rfl) (by decide +kernel) (by rfl) ?_
  rw [ht]
  refine z_rcs hc hH 2 (pc' := 24) (lv' := [(3, .int 1), (2, .int (300 * (μ.1 0 11))), (1, .int 0), (0, .ref 0)]) (st' := [.int ((nI t) + 1)]) (μ' := μ) (by rfl) ?_
  rw [show nI t + 1 = nI (t + 1) from by rw [show (1 : Int32) = nI 1 from rfl, nI_add]]
  refine z_rcs hc hH 2 (pc' := 26) (lv' := [(3, .int 1), (2, .int (300 * (μ.1 0 11))), (1, .int 0), (0, .ref 0)]) (st' := [.int ((nI (t + 1)) &&& 3)]) (μ' := μ) (by rfl) ?_
  rw [show nI (t + 1) &&& 3 = nI u1 from by rw [and3 (by omega), hu1]]
  refine z_rcs hc hH 3 (pc' := 31) (lv' := [(4, .int (nI u1)), (3, .int 1), (2, .int (300 * (μ.1 0 11))), (1, .int 0), (0, .ref 0)]) (st' := [.int (nI u1), .ref 0]) (μ' := μ) (by rfl) ?_
  refine zq_call hc (z_cx_ok hH (by rfl)) (gc_at4 d' (by omega) μ u1 hu14) (by decide +kernel) (fun r9 μ9 hq => ?_)
  obtain ⟨hμ9, rfl⟩ := hq
  rw [hμ9]
  clear hμ9 μ9
  show Z 0 34 [(4, .int (nI u1)), (3, .int 1), (2, .int (300 * (μ.1 0 11))), (1, .int 0), (0, .ref 0)] [.ref (18 + 8 * u1)] μ
  refine zq_gfi hc hH (by rfl) (ci := 1) (f := 9) (by rfl) (sj (P := fun i => okf 79 1 9 (18 + 8 * i)) hu14 (by decide +kernel)) (by rfl) ?_
  refine zq_if hc hH (by rfl) (tg := 43) (by rfl) (fun h1 => ?_) (fun h1 => ?_)
  · have h1 : (decide ((μ.1 (18 + 8 * u1) 9) = 0)) = false := decide_eq_false (cm_ne.mp h1)
    exact absurd (Eq.trans (Eq.symm (hs1)) h1) (by decide)
  · have h1 : (decide ((μ.1 (18 + 8 * u1) 9) = 0)) = true := decide_eq_true (cn_ne.mp h1)
    refine z_rcs hc hH 7 (pc' := 19) (lv' := [(3, .int 2), (4, .int (nI u1)), (2, .int (300 * (μ.1 0 11))), (1, .int 0), (0, .ref 0)]) (st' := [.ref 0]) (μ' := μ) (by rfl) ?_
    refine zq_gfi hc hH (by rfl) (ci := 5) (f := 8) (by rfl) (by decide +kernel) (by rfl) ?_
    rw [ht]
    refine z_rcs hc hH 2 (pc' := 24) (lv' := [(3, .int 2), (4, .int (nI u1)), (2, .int (300 * (μ.1 0 11))), (1, .int 0), (0, .ref 0)]) (st' := [.int ((nI t) + 2)]) (μ' := μ) (by rfl) ?_
    rw [show nI t + 2 = nI (t + 2) from by rw [show (2 : Int32) = nI 2 from rfl, nI_add]]
    refine z_rcs hc hH 2 (pc' := 26) (lv' := [(3, .int 2), (4, .int (nI u1)), (2, .int (300 * (μ.1 0 11))), (1, .int 0), (0, .ref 0)]) (st' := [.int ((nI (t + 2)) &&& 3)]) (μ' := μ) (by rfl) ?_
    rw [show nI (t + 2) &&& 3 = nI u2 from by rw [and3 (by omega), hu2]]
    refine z_rcs hc hH 3 (pc' := 31) (lv' := [(4, .int (nI u2)), (3, .int 2), (2, .int (300 * (μ.1 0 11))), (1, .int 0), (0, .ref 0)]) (st' := [.int (nI u2), .ref 0]) (μ' := μ) (by rfl) ?_
    refine zq_call hc (z_cx_ok hH (by rfl)) (gc_at4 d' (by omega) μ u2 hu24) (by decide +kernel) (fun r9 μ9 hq => ?_)
    obtain ⟨hμ9, rfl⟩ := hq
    rw [hμ9]
    clear hμ9 μ9
    show Z 0 34 [(4, .int (nI u2)), (3, .int 2), (2, .int (300 * (μ.1 0 11))), (1, .int 0), (0, .ref 0)] [.ref (18 + 8 * u2)] μ
    refine zq_gfi hc hH (by rfl) (ci := 1) (f := 9) (by rfl) (sj (P := fun i => okf 79 1 9 (18 + 8 * i)) hu24 (by decide +kernel)) (by rfl) ?_
    refine zq_if hc hH (by rfl) (tg := 43) (by rfl) (fun h2 => ?_) (fun h2 => ?_)
    · have h2 : (decide ((μ.1 (18 + 8 * u2) 9) = 0)) = false := decide_eq_false (cm_ne.mp h2)
      refine z_rcs hc hH 3 (pc' := 47) (lv' := [(4, .int (nI u2)), (3, .int 2), (2, .int (300 * (μ.1 0 11))), (1, .int 0), (0, .ref 0)]) (st' := [.int 0, .int (nI u2), .ref 0]) (μ' := μ) (by rfl) ?_
      refine zq_call hc (z_cx_ok hH (by rfl)) (hwg2 _ (WE_rf _) (hA0) d' (by omega)) (by decide +kernel) (fun r9 W2 hq => ?_)
      obtain ⟨v2, hB2, rfl, hO2, hv2, hA2⟩ := hq
      show Z 0 50 [(4, .int (nI u2)), (3, .int 2), (2, .int (300 * (μ.1 0 11))), (1, .int 0), (0, .ref 0)] [.int v2.1] W2
      refine z_rcs hc hH 2 (pc' := 53) (lv' := [(4, .int (nI u2)), (3, .int 2), (2, .int (300 * (μ.1 0 11))), (1, .int 0), (0, .ref 0)]) (st' := [.ref 0, .int (nI u2), .int v2.1]) (μ' := W2) (by rfl) ?_
      refine zq_gfi hc hH (by rfl) (ci := 5) (f := 9) (by rfl) (by decide +kernel) (by rfl) ?_
      rw [(hO2 _ _ (by omega)).1]
      rw [hdl]
      have hJ3 : Z 0 65 [(4, .int (nI u2)), (3, .int 2), (2, .int (300 * (μ.1 0 11))), (1, .int 0), (0, .ref 0)] [.int (bif decide ((nI u2) = (nI dl)) then (6 : Int32) else 4), .int v2.1] W2 := by
        refine z_rcs hc hH 1 (pc' := 66) (lv' := [(4, .int (nI u2)), (3, .int 2), (2, .int (300 * (μ.1 0 11))), (1, .int 0), (0, .ref 0)]) (st' := [.int (v2.1 * (bif decide ((nI u2) = (nI dl)) then (6 : Int32) else 4))]) (μ' := W2) (by rfl) ?_
        refine zq_call hc (z_cx_ok hH (by rfl)) (gc_hundreds d' (by omega) W2 (v2.1 * (bif decide ((nI u2) = (nI dl)) then (6 : Int32) else 4))) (by decide +kernel) (fun r9 μ9 hq => ?_)
        obtain ⟨hμ9, rfl⟩ := hq
        rw [hμ9]
        clear hμ9 μ9
        show Z 0 69 [(4, .int (nI u2)), (3, .int 2), (2, .int (300 * (μ.1 0 11))), (1, .int 0), (0, .ref 0)] [.int (hnd (v2.1 * (bif decide ((nI u2) = (nI dl)) then (6 : Int32) else 4)))] W2
        refine z_rcs hc hH 5 (pc' := 76) (lv' := [(5, .int ((hnd (v2.1 * (bif decide ((nI u2) = (nI dl)) then (6 : Int32) else 4))) + (300 * (μ.1 0 11)))), (4, .int (nI u2)), (3, .int 2), (2, .int (300 * (μ.1 0 11))), (1, .int 0), (0, .ref 0)]) (st' := [.ref 0, .int ((hnd (v2.1 * (bif decide ((nI u2) = (nI dl)) then (6 : Int32) else 4))) + (300 * (μ.1 0 11)))]) (μ' := W2) (by rfl) ?_
        refine zq_gfi hc hH (by rfl) (ci := 5) (f := 12) (by rfl) (by decide +kernel) (by rfl) ?_
        rw [(hO2 _ _ (by omega)).1]
        refine z_rcs hc hH 6 (pc' := 88) (lv' := [(6, .int (((hnd (v2.1 * (bif decide ((nI u2) = (nI dl)) then (6 : Int32) else 4))) + (300 * (μ.1 0 11))) + ((μ.1 0 12) * 1000))), (5, .int ((hnd (v2.1 * (bif decide ((nI u2) = (nI dl)) then (6 : Int32) else 4))) + (300 * (μ.1 0 11)))), (4, .int (nI u2)), (3, .int 2), (2, .int (300 * (μ.1 0 11))), (1, .int 0), (0, .ref 0)]) (st' := [.ref 0, .ref 0]) (μ' := W2) (by rfl) ?_
        refine zq_gfi hc hH (by rfl) (ci := 5) (f := 8) (by rfl) (by decide +kernel) (by rfl) ?_
        rw [(hO2 _ _ (by omega)).1]
        rw [ht]
        refine zq_call hc (z_cx_ok hH (by rfl)) (gc_at4 d' (by omega) W2 t ht4) (by decide +kernel) (fun r9 μ9 hq => ?_)
        obtain ⟨hμ9, rfl⟩ := hq
        rw [hμ9]
        clear hμ9 μ9
        show Z 0 94 [(6, .int (((hnd (v2.1 * (bif decide ((nI u2) = (nI dl)) then (6 : Int32) else 4))) + (300 * (μ.1 0 11))) + ((μ.1 0 12) * 1000))), (5, .int ((hnd (v2.1 * (bif decide ((nI u2) = (nI dl)) then (6 : Int32) else 4))) + (300 * (μ.1 0 11)))), (4, .int (nI u2)), (3, .int 2), (2, .int (300 * (μ.1 0 11))), (1, .int 0), (0, .ref 0)] [.ref (18 + 8 * t)] W2
        refine z_rcs hc hH 1 (pc' := 95) (lv' := [(6, .int (((hnd (v2.1 * (bif decide ((nI u2) = (nI dl)) then (6 : Int32) else 4))) + (300 * (μ.1 0 11))) + ((μ.1 0 12) * 1000))), (5, .int ((hnd (v2.1 * (bif decide ((nI u2) = (nI dl)) then (6 : Int32) else 4))) + (300 * (μ.1 0 11)))), (4, .int (nI u2)), (3, .int 2), (2, .int (300 * (μ.1 0 11))), (1, .int 0), (0, .ref 0)]) (st' := [.ref (18 + 8 * t), .ref (18 + 8 * t)]) (μ' := W2) (by rfl) ?_
        refine zq_gfi hc hH (by rfl) (ci := 1) (f := 4) (by rfl) (sj (P := fun i => okf 79 1 4 (18 + 8 * i)) ht4 (by decide +kernel)) (by rfl) ?_
        rw [(hO2 _ _ (by omega)).1]
        refine z_rcs hc hH 2 (pc' := 101) (lv' := [(6, .int (((hnd (v2.1 * (bif decide ((nI u2) = (nI dl)) then (6 : Int32) else 4))) + (300 * (μ.1 0 11))) + ((μ.1 0 12) * 1000))), (5, .int ((hnd (v2.1 * (bif decide ((nI u2) = (nI dl)) then (6 : Int32) else 4))) + (300 * (μ.1 0 11)))), (4, .int (nI u2)), (3, .int 2), (2, .int (300 * (μ.1 0 11))), (1, .int 0), (0, .ref 0)]) (st' := [.int ((μ.1 (18 + 8 * t) 4) - ((hnd (v2.1 * (bif decide ((nI u2) = (nI dl)) then (6 : Int32) else 4))) + (300 * (μ.1 0 11)))), .ref (18 + 8 * t)]) (μ' := W2) (by rfl) ?_
        refine zq_pfi hc hH (by rfl) (ci := 1) (f := 4) (by rfl) (sj (P := fun i => okf 79 1 4 (18 + 8 * i)) ht4 (by decide +kernel)) (by rfl) ?_
        show Z 0 104 [(6, .int (((hnd (v2.1 * (bif decide ((nI u2) = (nI dl)) then (6 : Int32) else 4))) + (300 * (μ.1 0 11))) + ((μ.1 0 12) * 1000))), (5, .int ((hnd (v2.1 * (bif decide ((nI u2) = (nI dl)) then (6 : Int32) else 4))) + (300 * (μ.1 0 11)))), (4, .int (nI u2)), (3, .int 2), (2, .int (300 * (μ.1 0 11))), (1, .int 0), (0, .ref 0)] [] (z_ui W2 (18 + 8 * t) 4 ((μ.1 (18 + 8 * t) 4) - ((hnd (v2.1 * (bif decide ((nI u2) = (nI dl)) then (6 : Int32) else 4))) + (300 * (μ.1 0 11)))))
        refine z_rcs0 hc hH 2 (pc' := 107) (lv' := [(6, .int (((hnd (v2.1 * (bif decide ((nI u2) = (nI dl)) then (6 : Int32) else 4))) + (300 * (μ.1 0 11))) + ((μ.1 0 12) * 1000))), (5, .int ((hnd (v2.1 * (bif decide ((nI u2) = (nI dl)) then (6 : Int32) else 4))) + (300 * (μ.1 0 11)))), (4, .int (nI u2)), (3, .int 2), (2, .int (300 * (μ.1 0 11))), (1, .int 0), (0, .ref 0)]) (st' := [.int (nI u2), .ref 0]) (by rfl) ?_
        refine zq_call hc (z_cx_ok hH (by rfl)) (gc_at4 d' (by omega) (z_ui W2 (18 + 8 * t) 4 ((μ.1 (18 + 8 * t) 4) - ((hnd (v2.1 * (bif decide ((nI u2) = (nI dl)) then (6 : Int32) else 4))) + (300 * (μ.1 0 11))))) u2 hu24) (by decide +kernel) (fun r9 μ9 hq => ?_)
        obtain ⟨hμ9, rfl⟩ := hq
        rw [hμ9]
        clear hμ9 μ9
        show Z 0 110 [(6, .int (((hnd (v2.1 * (bif decide ((nI u2) = (nI dl)) then (6 : Int32) else 4))) + (300 * (μ.1 0 11))) + ((μ.1 0 12) * 1000))), (5, .int ((hnd (v2.1 * (bif decide ((nI u2) = (nI dl)) then (6 : Int32) else 4))) + (300 * (μ.1 0 11)))), (4, .int (nI u2)), (3, .int 2), (2, .int (300 * (μ.1 0 11))), (1, .int 0), (0, .ref 0)] [.ref (18 + 8 * u2)] _
        refine z_rcs0 hc hH 1 (pc' := 111) (lv' := [(6, .int (((hnd (v2.1 * (bif decide ((nI u2) = (nI dl)) then (6 : Int32) else 4))) + (300 * (μ.1 0 11))) + ((μ.1 0 12) * 1000))), (5, .int ((hnd (v2.1 * (bif decide ((nI u2) = (nI dl)) then (6 : Int32) else 4))) + (300 * (μ.1 0 11)))), (4, .int (nI u2)), (3, .int 2), (2, .int (300 * (μ.1 0 11))), (1, .int 0), (0, .ref 0)]) (st' := [.ref (18 + 8 * u2), .ref (18 + 8 * u2)]) (by rfl) ?_
        refine zq_gfi hc hH (by rfl) (ci := 1) (f := 4) (by rfl) (sj (P := fun i => okf 79 1 4 (18 + 8 * i)) hu24 (by decide +kernel)) (by rfl) ?_
        refine zV1 (Z := Z) (Eq.trans (ui_o (by first | decide | omega)) (hO2 _ _ (by omega)).1) ?_
        refine z_rcs0 hc hH 2 (pc' := 117) (lv' := [(6, .int (((hnd (v2.1 * (bif decide ((nI u2) = (nI dl)) then (6 : Int32) else 4))) + (300 * (μ.1 0 11))) + ((μ.1 0 12) * 1000))), (5, .int ((hnd (v2.1 * (bif decide ((nI u2) = (nI dl)) then (6 : Int32) else 4))) + (300 * (μ.1 0 11)))), (4, .int (nI u2)), (3, .int 2), (2, .int (300 * (μ.1 0 11))), (1, .int 0), (0, .ref 0)]) (st' := [.int ((μ.1 (18 + 8 * u2) 4) + (((hnd (v2.1 * (bif decide ((nI u2) = (nI dl)) then (6 : Int32) else 4))) + (300 * (μ.1 0 11))) + ((μ.1 0 12) * 1000))), .ref (18 + 8 * u2)]) (by rfl) ?_
        refine zq_pfi hc hH (by rfl) (ci := 1) (f := 4) (by rfl) (sj (P := fun i => okf 79 1 4 (18 + 8 * i)) hu24 (by decide +kernel)) (by rfl) ?_
        show Z 0 120 [(6, .int (((hnd (v2.1 * (bif decide ((nI u2) = (nI dl)) then (6 : Int32) else 4))) + (300 * (μ.1 0 11))) + ((μ.1 0 12) * 1000))), (5, .int ((hnd (v2.1 * (bif decide ((nI u2) = (nI dl)) then (6 : Int32) else 4))) + (300 * (μ.1 0 11)))), (4, .int (nI u2)), (3, .int 2), (2, .int (300 * (μ.1 0 11))), (1, .int 0), (0, .ref 0)] [] (z_ui (z_ui W2 (18 + 8 * t) 4 ((μ.1 (18 + 8 * t) 4) - ((hnd (v2.1 * (bif decide ((nI u2) = (nI dl)) then (6 : Int32) else 4))) + (300 * (μ.1 0 11))))) (18 + 8 * u2) 4 ((μ.1 (18 + 8 * u2) 4) + (((hnd (v2.1 * (bif decide ((nI u2) = (nI dl)) then (6 : Int32) else 4))) + (300 * (μ.1 0 11))) + ((μ.1 0 12) * 1000))))
        refine z_rcs0 hc hH 3 (pc' := 124) (lv' := [(6, .int (((hnd (v2.1 * (bif decide ((nI u2) = (nI dl)) then (6 : Int32) else 4))) + (300 * (μ.1 0 11))) + ((μ.1 0 12) * 1000))), (5, .int ((hnd (v2.1 * (bif decide ((nI u2) = (nI dl)) then (6 : Int32) else 4))) + (300 * (μ.1 0 11)))), (4, .int (nI u2)), (3, .int 2), (2, .int (300 * (μ.1 0 11))), (1, .int 0), (0, .ref 0)]) (st' := [.ref 0, .int (nI u2), .ref 0]) (by rfl) ?_
        refine zq_gfi hc hH (by rfl) (ci := 5) (f := 8) (by rfl) (by decide +kernel) (by rfl) ?_
        refine zV1 (Z := Z) (Eq.trans (ui_o (by first | decide | omega)) (Eq.trans (ui_o (by first | decide | omega)) (hO2 _ _ (by omega)).1)) ?_
        rw [ht]
        refine z_rcs0 hc hH 1 (pc' := 129) (lv' := [(6, .int (((hnd (v2.1 * (bif decide ((nI u2) = (nI dl)) then (6 : Int32) else 4))) + (300 * (μ.1 0 11))) + ((μ.1 0 12) * 1000))), (5, .int ((hnd (v2.1 * (bif decide ((nI u2) = (nI dl)) then (6 : Int32) else 4))) + (300 * (μ.1 0 11)))), (4, .int (nI u2)), (3, .int 2), (2, .int (300 * (μ.1 0 11))), (1, .int 0), (0, .ref 0)]) (st' := [.int (((hnd (v2.1 * (bif decide ((nI u2) = (nI dl)) then (6 : Int32) else 4))) + (300 * (μ.1 0 11))) + ((μ.1 0 12) * 1000)), .int (nI t), .int (nI u2), .ref 0]) (by rfl) ?_
        refine zq_call hc (z_cx_ok hH (by rfl)) (gc_recordWin d' (by omega) (z_ui (z_ui W2 (18 + 8 * t) 4 ((μ.1 (18 + 8 * t) 4) - ((hnd (v2.1 * (bif decide ((nI u2) = (nI dl)) then (6 : Int32) else 4))) + (300 * (μ.1 0 11))))) (18 + 8 * u2) 4 ((μ.1 (18 + 8 * u2) 4) + (((hnd (v2.1 * (bif decide ((nI u2) = (nI dl)) then (6 : Int32) else 4))) + (300 * (μ.1 0 11))) + ((μ.1 0 12) * 1000)))) 0 (by omega) (by rw [ui_o (by first | decide | omega), ui_o (by first | decide | omega), (hO2 _ _ (by omega)).1]; exact h06) (nI u2) (nI t) (((hnd (v2.1 * (bif decide ((nI u2) = (nI dl)) then (6 : Int32) else 4))) + (300 * (μ.1 0 11))) + ((μ.1 0 12) * 1000))) (by decide +kernel) (fun r9 μ9 hq => ?_)
        obtain ⟨rfl, rfl⟩ := hq
        show Z 0 132 [(6, .int (((hnd (v2.1 * (bif decide ((nI u2) = (nI dl)) then (6 : Int32) else 4))) + (300 * (μ.1 0 11))) + ((μ.1 0 12) * 1000))), (5, .int ((hnd (v2.1 * (bif decide ((nI u2) = (nI dl)) then (6 : Int32) else 4))) + (300 * (μ.1 0 11)))), (4, .int (nI u2)), (3, .int 2), (2, .int (300 * (μ.1 0 11))), (1, .int 0), (0, .ref 0)] [] (rcW (z_ui (z_ui W2 (18 + 8 * t) 4 ((μ.1 (18 + 8 * t) 4) - ((hnd (v2.1 * (bif decide ((nI u2) = (nI dl)) then (6 : Int32) else 4))) + (300 * (μ.1 0 11))))) (18 + 8 * u2) 4 ((μ.1 (18 + 8 * u2) 4) + (((hnd (v2.1 * (bif decide ((nI u2) = (nI dl)) then (6 : Int32) else 4))) + (300 * (μ.1 0 11))) + ((μ.1 0 12) * 1000)))) 0 (nI u2) (nI t) (((hnd (v2.1 * (bif decide ((nI u2) = (nI dl)) then (6 : Int32) else 4))) + (300 * (μ.1 0 11))) + ((μ.1 0 12) * 1000)))
        refine z_rcs0 hc hH 4 (pc' := 139) (lv' := [(6, .int (((hnd (v2.1 * (bif decide ((nI u2) = (nI dl)) then (6 : Int32) else 4))) + (300 * (μ.1 0 11))) + ((μ.1 0 12) * 1000))), (5, .int ((hnd (v2.1 * (bif decide ((nI u2) = (nI dl)) then (6 : Int32) else 4))) + (300 * (μ.1 0 11)))), (4, .int (nI u2)), (3, .int 2), (2, .int (300 * (μ.1 0 11))), (1, .int 0), (0, .ref 0)]) (st' := [.ref 0, .int (nI u2)]) (by rfl) ?_
        refine zq_gfi hc hH (by rfl) (ci := 5) (f := 9) (by rfl) (by decide +kernel) (by rfl) ?_
        refine zV1 (Z := Z) (Eq.trans (rcW_o (by first | decide | omega)) (Eq.trans (ui_o (by first | decide | omega)) (Eq.trans (ui_o (by first | decide | omega)) (hO2 _ _ (by omega)).1))) ?_
        rw [hdl]
        have hJ4 : Z 0 150 [(6, .int (((hnd (v2.1 * (bif decide ((nI u2) = (nI dl)) then (6 : Int32) else 4))) + (300 * (μ.1 0 11))) + ((μ.1 0 12) * 1000))), (5, .int ((hnd (v2.1 * (bif decide ((nI u2) = (nI dl)) then (6 : Int32) else 4))) + (300 * (μ.1 0 11)))), (4, .int (nI u2)), (3, .int 2), (2, .int (300 * (μ.1 0 11))), (1, .int 0), (0, .ref 0)] [.int (nB (decide ((nI u2) = (nI dl))))] (rcW (z_ui (z_ui W2 (18 + 8 * t) 4 ((μ.1 (18 + 8 * t) 4) - ((hnd (v2.1 * (bif decide ((nI u2) = (nI dl)) then (6 : Int32) else 4))) + (300 * (μ.1 0 11))))) (18 + 8 * u2) 4 ((μ.1 (18 + 8 * u2) 4) + (((hnd (v2.1 * (bif decide ((nI u2) = (nI dl)) then (6 : Int32) else 4))) + (300 * (μ.1 0 11))) + ((μ.1 0 12) * 1000)))) 0 (nI u2) (nI t) (((hnd (v2.1 * (bif decide ((nI u2) = (nI dl)) then (6 : Int32) else 4))) + (300 * (μ.1 0 11))) + ((μ.1 0 12) * 1000))) := by
          refine z_rcs0 hc hH 5 (pc' := 155) (lv' := [(2, .int 0), (1, .int (nB (decide ((nI u2) = (nI dl))))), (6, .int (((hnd (v2.1 * (bif decide ((nI u2) = (nI dl)) then (6 : Int32) else 4))) + (300 * (μ.1 0 11))) + ((μ.1 0 12) * 1000))), (5, .int ((hnd (v2.1 * (bif decide ((nI u2) = (nI dl)) then (6 : Int32) else 4))) + (300 * (μ.1 0 11)))), (4, .int (nI u2)), (3, .int 2), (0, .ref 0)]) (st' := [.int 0, .ref 0]) (by rfl) ?_
          refine zq_pfi hc hH (by rfl) (ci := 5) (f := 12) (by rfl) (by decide +kernel) (by rfl) ?_
          show Z 0 158 [(2, .int 0), (1, .int (nB (decide ((nI u2) = (nI dl))))), (6, .int (((hnd (v2.1 * (bif decide ((nI u2) = (nI dl)) then (6 : Int32) else 4))) + (300 * (μ.1 0 11))) + ((μ.1 0 12) * 1000))), (5, .int ((hnd (v2.1 * (bif decide ((nI u2) = (nI dl)) then (6 : Int32) else 4))) + (300 * (μ.1 0 11)))), (4, .int (nI u2)), (3, .int 2), (0, .ref 0)] [] (z_ui (rcW (z_ui (z_ui W2 (18 + 8 * t) 4 ((μ.1 (18 + 8 * t) 4) - ((hnd (v2.1 * (bif decide ((nI u2) = (nI dl)) then (6 : Int32) else 4))) + (300 * (μ.1 0 11))))) (18 + 8 * u2) 4 ((μ.1 (18 + 8 * u2) 4) + (((hnd (v2.1 * (bif decide ((nI u2) = (nI dl)) then (6 : Int32) else 4))) + (300 * (μ.1 0 11))) + ((μ.1 0 12) * 1000)))) 0 (nI u2) (nI t) (((hnd (v2.1 * (bif decide ((nI u2) = (nI dl)) then (6 : Int32) else 4))) + (300 * (μ.1 0 11))) + ((μ.1 0 12) * 1000))) 0 12 0)
          refine z_rcs0 hc hH 6 (pc' := 19) (lv' := [(3, .int 3), (2, .int 0), (1, .int (nB (decide ((nI u2) = (nI dl))))), (6, .int (((hnd (v2.1 * (bif decide ((nI u2) = (nI dl)) then (6 : Int32) else 4))) + (300 * (μ.1 0 11))) + ((μ.1 0 12) * 1000))), (5, .int ((hnd (v2.1 * (bif decide ((nI u2) = (nI dl)) then (6 : Int32) else 4))) + (300 * (μ.1 0 11)))), (4, .int (nI u2)), (0, .ref 0)]) (st' := [.ref 0]) (by rfl) ?_
          refine zq_gfi hc hH (by rfl) (ci := 5) (f := 8) (by rfl) (by decide +kernel) (by rfl) ?_
          refine zV1 (Z := Z) (Eq.trans (ui_k (by first | decide | omega)) (Eq.trans (rcW_o (by first | decide | omega)) (Eq.trans (ui_o (by first | decide | omega)) (Eq.trans (ui_o (by first | decide | omega)) (hO2 _ _ (by omega)).1)))) ?_
          rw [ht]
          refine z_rcs0 hc hH 2 (pc' := 24) (lv' := [(3, .int 3), (2, .int 0), (1, .int (nB (decide ((nI u2) = (nI dl))))), (6, .int (((hnd (v2.1 * (bif decide ((nI u2) = (nI dl)) then (6 : Int32) else 4))) + (300 * (μ.1 0 11))) + ((μ.1 0 12) * 1000))), (5, .int ((hnd (v2.1 * (bif decide ((nI u2) = (nI dl)) then (6 : Int32) else 4))) + (300 * (μ.1 0 11)))), (4, .int (nI u2)), (0, .ref 0)]) (st' := [.int ((nI t) + 3)]) (by rfl) ?_
          rw [show nI t + 3 = nI (t + 3) from by rw [show (3 : Int32) = nI 3 from rfl, nI_add]]
          refine z_rcs0 hc hH 2 (pc' := 26) (lv' := [(3, .int 3), (2, .int 0), (1, .int (nB (decide ((nI u2) = (nI dl))))), (6, .int (((hnd (v2.1 * (bif decide ((nI u2) = (nI dl)) then (6 : Int32) else 4))) + (300 * (μ.1 0 11))) + ((μ.1 0 12) * 1000))), (5, .int ((hnd (v2.1 * (bif decide ((nI u2) = (nI dl)) then (6 : Int32) else 4))) + (300 * (μ.1 0 11)))), (4, .int (nI u2)), (0, .ref 0)]) (st' := [.int ((nI (t + 3)) &&& 3)]) (by rfl) ?_
          rw [show nI (t + 3) &&& 3 = nI u3 from by rw [and3 (by omega), hu3]]
          refine z_rcs0 hc hH 3 (pc' := 31) (lv' := [(4, .int (nI u3)), (3, .int 3), (2, .int 0), (1, .int (nB (decide ((nI u2) = (nI dl))))), (6, .int (((hnd (v2.1 * (bif decide ((nI u2) = (nI dl)) then (6 : Int32) else 4))) + (300 * (μ.1 0 11))) + ((μ.1 0 12) * 1000))), (5, .int ((hnd (v2.1 * (bif decide ((nI u2) = (nI dl)) then (6 : Int32) else 4))) + (300 * (μ.1 0 11)))), (0, .ref 0)]) (st' := [.int (nI u3), .ref 0]) (by rfl) ?_
          refine zq_call hc (z_cx_ok hH (by rfl)) (gc_at4 d' (by omega) (z_ui (rcW (z_ui (z_ui W2 (18 + 8 * t) 4 ((μ.1 (18 + 8 * t) 4) - ((hnd (v2.1 * (bif decide ((nI u2) = (nI dl)) then (6 : Int32) else 4))) + (300 * (μ.1 0 11))))) (18 + 8 * u2) 4 ((μ.1 (18 + 8 * u2) 4) + (((hnd (v2.1 * (bif decide ((nI u2) = (nI dl)) then (6 : Int32) else 4))) + (300 * (μ.1 0 11))) + ((μ.1 0 12) * 1000)))) 0 (nI u2) (nI t) (((hnd (v2.1 * (bif decide ((nI u2) = (nI dl)) then (6 : Int32) else 4))) + (300 * (μ.1 0 11))) + ((μ.1 0 12) * 1000))) 0 12 0) u3 hu34) (by decide +kernel) (fun r9 μ9 hq => ?_)
          obtain ⟨hμ9, rfl⟩ := hq
          rw [hμ9]
          clear hμ9 μ9
          show Z 0 34 [(4, .int (nI u3)), (3, .int 3), (2, .int 0), (1, .int (nB (decide ((nI u2) = (nI dl))))), (6, .int (((hnd (v2.1 * (bif decide ((nI u2) = (nI dl)) then (6 : Int32) else 4))) + (300 * (μ.1 0 11))) + ((μ.1 0 12) * 1000))), (5, .int ((hnd (v2.1 * (bif decide ((nI u2) = (nI dl)) then (6 : Int32) else 4))) + (300 * (μ.1 0 11)))), (0, .ref 0)] [.ref (18 + 8 * u3)] _
          refine zq_gfi hc hH (by rfl) (ci := 1) (f := 9) (by rfl) (sj (P := fun i => okf 79 1 9 (18 + 8 * i)) hu34 (by decide +kernel)) (by rfl) ?_
          refine zV1 (Z := Z) (Eq.trans (ui_o (by first | decide | omega)) (Eq.trans (rcW_o (by first | decide | omega)) (Eq.trans (ui_o (by first | decide | omega)) (Eq.trans (ui_o (by first | decide | omega)) (hO2 _ _ (by omega)).1)))) ?_
          refine zq_if hc hH (by rfl) (tg := 43) (by rfl) (fun h5 => ?_) (fun h5 => ?_)
          · have h5 : (decide ((μ.1 (18 + 8 * u3) 9) = 0)) = false := decide_eq_false (cm_ne.mp h5)
            refine z_rcs0 hc hH 3 (pc' := 47) (lv' := [(4, .int (nI u3)), (3, .int 3), (2, .int 0), (1, .int (nB (decide ((nI u2) = (nI dl))))), (6, .int (((hnd (v2.1 * (bif decide ((nI u2) = (nI dl)) then (6 : Int32) else 4))) + (300 * (μ.1 0 11))) + ((μ.1 0 12) * 1000))), (5, .int ((hnd (v2.1 * (bif decide ((nI u2) = (nI dl)) then (6 : Int32) else 4))) + (300 * (μ.1 0 11)))), (0, .ref 0)]) (st' := [.int 0, .int (nI u3), .ref 0]) (by rfl) ?_
            refine zq_call hc (z_cx_ok hH (by rfl)) (hwg3 _ (WE_b (WE_rc (WE_p (WE_p (WE_wo (WE_rf _) hO2) (by omega)) (by omega)) (by omega))) (a_H_ui (a_H_rcW (a_H_pt (a_H_pt (hA2) (by omega)) (by omega)) (by omega)) (bI_top _)) d' (by omega)) (by decide +kernel) (fun r9 W3 hq => ?_)
            obtain ⟨v3, hB3, rfl, hO3, hv3, hA3⟩ := hq
            show Z 0 50 [(4, .int (nI u3)), (3, .int 3), (2, .int 0), (1, .int (nB (decide ((nI u2) = (nI dl))))), (6, .int (((hnd (v2.1 * (bif decide ((nI u2) = (nI dl)) then (6 : Int32) else 4))) + (300 * (μ.1 0 11))) + ((μ.1 0 12) * 1000))), (5, .int ((hnd (v2.1 * (bif decide ((nI u2) = (nI dl)) then (6 : Int32) else 4))) + (300 * (μ.1 0 11)))), (0, .ref 0)] [.int v3.1] W3
            refine z_rcs hc hH 2 (pc' := 53) (lv' := [(4, .int (nI u3)), (3, .int 3), (2, .int 0), (1, .int (nB (decide ((nI u2) = (nI dl))))), (6, .int (((hnd (v2.1 * (bif decide ((nI u2) = (nI dl)) then (6 : Int32) else 4))) + (300 * (μ.1 0 11))) + ((μ.1 0 12) * 1000))), (5, .int ((hnd (v2.1 * (bif decide ((nI u2) = (nI dl)) then (6 : Int32) else 4))) + (300 * (μ.1 0 11)))), (0, .ref 0)]) (st' := [.ref 0, .int (nI u3), .int v3.1]) (μ' := W3) (by rfl) ?_
            refine zq_gfi hc hH (by rfl) (ci := 5) (f := 9) (by rfl) (by decide +kernel) (by rfl) ?_
            refine zV1 (Z := Z) (Eq.trans (hO3 _ _ (by omega)).1 (Eq.trans (ui_k (by first | decide | omega)) (Eq.trans (rcW_o (by first | decide | omega)) (Eq.trans (ui_o (by first | decide | omega)) (Eq.trans (ui_o (by first | decide | omega)) (hO2 _ _ (by omega)).1))))) ?_
            rw [hdl]
            have hJ6 : Z 0 65 [(4, .int (nI u3)), (3, .int 3), (2, .int 0), (1, .int (nB (decide ((nI u2) = (nI dl))))), (6, .int (((hnd (v2.1 * (bif decide ((nI u2) = (nI dl)) then (6 : Int32) else 4))) + (300 * (μ.1 0 11))) + ((μ.1 0 12) * 1000))), (5, .int ((hnd (v2.1 * (bif decide ((nI u2) = (nI dl)) then (6 : Int32) else 4))) + (300 * (μ.1 0 11)))), (0, .ref 0)] [.int (bif decide ((nI u3) = (nI dl)) then (6 : Int32) else 4), .int v3.1] W3 := by
              refine z_rcs hc hH 1 (pc' := 66) (lv' := [(4, .int (nI u3)), (3, .int 3), (2, .int 0), (1, .int (nB (decide ((nI u2) = (nI dl))))), (6, .int (((hnd (v2.1 * (bif decide ((nI u2) = (nI dl)) then (6 : Int32) else 4))) + (300 * (μ.1 0 11))) + ((μ.1 0 12) * 1000))), (5, .int ((hnd (v2.1 * (bif decide ((nI u2) = (nI dl)) then (6 : Int32) else 4))) + (300 * (μ.1 0 11)))), (0, .ref 0)]) (st' := [.int (v3.1 * (bif decide ((nI u3) = (nI dl)) then (6 : Int32) else 4))]) (μ' := W3) (by rfl) ?_
              refine zq_call hc (z_cx_ok hH (by rfl)) (gc_hundreds d' (by omega) W3 (v3.1 * (bif decide ((nI u3) = (nI dl)) then (6 : Int32) else 4))) (by decide +kernel) (fun r9 μ9 hq => ?_)
              obtain ⟨hμ9, rfl⟩ := hq
              rw [hμ9]
              clear hμ9 μ9
              show Z 0 69 [(4, .int (nI u3)), (3, .int 3), (2, .int 0), (1, .int (nB (decide ((nI u2) = (nI dl))))), (6, .int (((hnd (v2.1 * (bif decide ((nI u2) = (nI dl)) then (6 : Int32) else 4))) + (300 * (μ.1 0 11))) + ((μ.1 0 12) * 1000))), (5, .int ((hnd (v2.1 * (bif decide ((nI u2) = (nI dl)) then (6 : Int32) else 4))) + (300 * (μ.1 0 11)))), (0, .ref 0)] [.int (hnd (v3.1 * (bif decide ((nI u3) = (nI dl)) then (6 : Int32) else 4)))] W3
              refine z_rcs hc hH 5 (pc' := 76) (lv' := [(5, .int ((hnd (v3.1 * (bif decide ((nI u3) = (nI dl)) then (6 : Int32) else 4))) + 0)), (4, .int (nI u3)), (3, .int 3), (2, .int 0), (1, .int (nB (decide ((nI u2) = (nI dl))))), (6, .int (((hnd (v2.1 * (bif decide ((nI u2) = (nI dl)) then (6 : Int32) else 4))) + (300 * (μ.1 0 11))) + ((μ.1 0 12) * 1000))), (0, .ref 0)]) (st' := [.ref 0, .int ((hnd (v3.1 * (bif decide ((nI u3) = (nI dl)) then (6 : Int32) else 4))) + 0)]) (μ' := W3) (by rfl) ?_
              refine zq_gfi hc hH (by rfl) (ci := 5) (f := 12) (by rfl) (by decide +kernel) (by rfl) ?_
              rw [(hO3 _ _ (by omega)).1, ui_s]
              refine z_rcs hc hH 6 (pc' := 88) (lv' := [(6, .int (((hnd (v3.1 * (bif decide ((nI u3) = (nI dl)) then (6 : Int32) else 4))) + 0) + 0)), (5, .int ((hnd (v3.1 * (bif decide ((nI u3) = (nI dl)) then (6 : Int32) else 4))) + 0)), (4, .int (nI u3)), (3, .int 3), (2, .int 0), (1, .int (nB (decide ((nI u2) = (nI dl))))), (0, .ref 0)]) (st' := [.ref 0, .ref 0]) (μ' := W3) (by rfl) ?_
              refine zq_gfi hc hH (by rfl) (ci := 5) (f := 8) (by rfl) (by decide +kernel) (by rfl) ?_
              refine zV1 (Z := Z) (Eq.trans (hO3 _ _ (by omega)).1 (Eq.trans (ui_k (by first | decide | omega)) (Eq.trans (rcW_o (by first | decide | omega)) (Eq.trans (ui_o (by first | decide | omega)) (Eq.trans (ui_o (by first | decide | omega)) (hO2 _ _ (by omega)).1))))) ?_
              rw [ht]
              refine zq_call hc (z_cx_ok hH (by rfl)) (gc_at4 d' (by omega) W3 t ht4) (by decide +kernel) (fun r9 μ9 hq => ?_)
              obtain ⟨hμ9, rfl⟩ := hq
              rw [hμ9]
              clear hμ9 μ9
              show Z 0 94 [(6, .int (((hnd (v3.1 * (bif decide ((nI u3) = (nI dl)) then (6 : Int32) else 4))) + 0) + 0)), (5, .int ((hnd (v3.1 * (bif decide ((nI u3) = (nI dl)) then (6 : Int32) else 4))) + 0)), (4, .int (nI u3)), (3, .int 3), (2, .int 0), (1, .int (nB (decide ((nI u2) = (nI dl))))), (0, .ref 0)] [.ref (18 + 8 * t)] W3
              refine z_rcs hc hH 1 (pc' := 95) (lv' := [(6, .int (((hnd (v3.1 * (bif decide ((nI u3) = (nI dl)) then (6 : Int32) else 4))) + 0) + 0)), (5, .int ((hnd (v3.1 * (bif decide ((nI u3) = (nI dl)) then (6 : Int32) else 4))) + 0)), (4, .int (nI u3)), (3, .int 3), (2, .int 0), (1, .int (nB (decide ((nI u2) = (nI dl))))), (0, .ref 0)]) (st' := [.ref (18 + 8 * t), .ref (18 + 8 * t)]) (μ' := W3) (by rfl) ?_
              refine zq_gfi hc hH (by rfl) (ci := 1) (f := 4) (by rfl) (sj (P := fun i => okf 79 1 4 (18 + 8 * i)) ht4 (by decide +kernel)) (by rfl) ?_
              refine zV1 (Z := Z) (Eq.trans (hO3 _ _ (by omega)).1 (Eq.trans (ui_o (by first | decide | omega)) (Eq.trans (rcW_o (by first | decide | omega)) (Eq.trans (ui_o (by first | decide | omega)) (ui_s))))) ?_
              refine z_rcs hc hH 2 (pc' := 101) (lv' := [(6, .int (((hnd (v3.1 * (bif decide ((nI u3) = (nI dl)) then (6 : Int32) else 4))) + 0) + 0)), (5, .int ((hnd (v3.1 * (bif decide ((nI u3) = (nI dl)) then (6 : Int32) else 4))) + 0)), (4, .int (nI u3)), (3, .int 3), (2, .int 0), (1, .int (nB (decide ((nI u2) = (nI dl))))), (0, .ref 0)]) (st' := [.int (((μ.1 (18 + 8 * t) 4) - ((hnd (v2.1 * (bif decide ((nI u2) = (nI dl)) then (6 : Int32) else 4))) + (300 * (μ.1 0 11)))) - ((hnd (v3.1 * (bif decide ((nI u3) = (nI dl)) then (6 : Int32) else 4))) + 0)), .ref (18 + 8 * t)]) (μ' := W3) (by rfl) ?_
              refine zq_pfi hc hH (by rfl) (ci := 1) (f := 4) (by rfl) (sj (P := fun i => okf 79 1 4 (18 + 8 * i)) ht4 (by decide +kernel)) (by rfl) ?_
              show Z 0 104 [(6, .int (((hnd (v3.1 * (bif decide ((nI u3) = (nI dl)) then (6 : Int32) else 4))) + 0) + 0)), (5, .int ((hnd (v3.1 * (bif decide ((nI u3) = (nI dl)) then (6 : Int32) else 4))) + 0)), (4, .int (nI u3)), (3, .int 3), (2, .int 0), (1, .int (nB (decide ((nI u2) = (nI dl))))), (0, .ref 0)] [] (z_ui W3 (18 + 8 * t) 4 (((μ.1 (18 + 8 * t) 4) - ((hnd (v2.1 * (bif decide ((nI u2) = (nI dl)) then (6 : Int32) else 4))) + (300 * (μ.1 0 11)))) - ((hnd (v3.1 * (bif decide ((nI u3) = (nI dl)) then (6 : Int32) else 4))) + 0)))
              refine z_rcs0 hc hH 2 (pc' := 107) (lv' := [(6, .int (((hnd (v3.1 * (bif decide ((nI u3) = (nI dl)) then (6 : Int32) else 4))) + 0) + 0)), (5, .int ((hnd (v3.1 * (bif decide ((nI u3) = (nI dl)) then (6 : Int32) else 4))) + 0)), (4, .int (nI u3)), (3, .int 3), (2, .int 0), (1, .int (nB (decide ((nI u2) = (nI dl))))), (0, .ref 0)]) (st' := [.int (nI u3), .ref 0]) (by rfl) ?_
              refine zq_call hc (z_cx_ok hH (by rfl)) (gc_at4 d' (by omega) (z_ui W3 (18 + 8 * t) 4 (((μ.1 (18 + 8 * t) 4) - ((hnd (v2.1 * (bif decide ((nI u2) = (nI dl)) then (6 : Int32) else 4))) + (300 * (μ.1 0 11)))) - ((hnd (v3.1 * (bif decide ((nI u3) = (nI dl)) then (6 : Int32) else 4))) + 0))) u3 hu34) (by decide +kernel) (fun r9 μ9 hq => ?_)
              obtain ⟨hμ9, rfl⟩ := hq
              rw [hμ9]
              clear hμ9 μ9
              show Z 0 110 [(6, .int (((hnd (v3.1 * (bif decide ((nI u3) = (nI dl)) then (6 : Int32) else 4))) + 0) + 0)), (5, .int ((hnd (v3.1 * (bif decide ((nI u3) = (nI dl)) then (6 : Int32) else 4))) + 0)), (4, .int (nI u3)), (3, .int 3), (2, .int 0), (1, .int (nB (decide ((nI u2) = (nI dl))))), (0, .ref 0)] [.ref (18 + 8 * u3)] _
              refine z_rcs0 hc hH 1 (pc' := 111) (lv' := [(6, .int (((hnd (v3.1 * (bif decide ((nI u3) = (nI dl)) then (6 : Int32) else 4))) + 0) + 0)), (5, .int ((hnd (v3.1 * (bif decide ((nI u3) = (nI dl)) then (6 : Int32) else 4))) + 0)), (4, .int (nI u3)), (3, .int 3), (2, .int 0), (1, .int (nB (decide ((nI u2) = (nI dl))))), (0, .ref 0)]) (st' := [.ref (18 + 8 * u3), .ref (18 + 8 * u3)]) (by rfl) ?_
              refine zq_gfi hc hH (by rfl) (ci := 1) (f := 4) (by rfl) (sj (P := fun i => okf 79 1 4 (18 + 8 * i)) hu34 (by decide +kernel)) (by rfl) ?_
              refine zV1 (Z := Z) (Eq.trans (ui_o (by first | decide | omega)) (Eq.trans (hO3 _ _ (by omega)).1 (Eq.trans (ui_o (by first | decide | omega)) (Eq.trans (rcW_o (by first | decide | omega)) (Eq.trans (ui_o (by first | decide | omega)) (Eq.trans (ui_o (by first | decide | omega)) (hO2 _ _ (by omega)).1)))))) ?_
              refine z_rcs0 hc hH 2 (pc' := 117) (lv' := [(6, .int (((hnd (v3.1 * (bif decide ((nI u3) = (nI dl)) then (6 : Int32) else 4))) + 0) + 0)), (5, .int ((hnd (v3.1 * (bif decide ((nI u3) = (nI dl)) then (6 : Int32) else 4))) + 0)), (4, .int (nI u3)), (3, .int 3), (2, .int 0), (1, .int (nB (decide ((nI u2) = (nI dl))))), (0, .ref 0)]) (st' := [.int ((μ.1 (18 + 8 * u3) 4) + (((hnd (v3.1 * (bif decide ((nI u3) = (nI dl)) then (6 : Int32) else 4))) + 0) + 0)), .ref (18 + 8 * u3)]) (by rfl) ?_
              refine zq_pfi hc hH (by rfl) (ci := 1) (f := 4) (by rfl) (sj (P := fun i => okf 79 1 4 (18 + 8 * i)) hu34 (by decide +kernel)) (by rfl) ?_
              show Z 0 120 [(6, .int (((hnd (v3.1 * (bif decide ((nI u3) = (nI dl)) then (6 : Int32) else 4))) + 0) + 0)), (5, .int ((hnd (v3.1 * (bif decide ((nI u3) = (nI dl)) then (6 : Int32) else 4))) + 0)), (4, .int (nI u3)), (3, .int 3), (2, .int 0), (1, .int (nB (decide ((nI u2) = (nI dl))))), (0, .ref 0)] [] (z_ui (z_ui W3 (18 + 8 * t) 4 (((μ.1 (18 + 8 * t) 4) - ((hnd (v2.1 * (bif decide ((nI u2) = (nI dl)) then (6 : Int32) else 4))) + (300 * (μ.1 0 11)))) - ((hnd (v3.1 * (bif decide ((nI u3) = (nI dl)) then (6 : Int32) else 4))) + 0))) (18 + 8 * u3) 4 ((μ.1 (18 + 8 * u3) 4) + (((hnd (v3.1 * (bif decide ((nI u3) = (nI dl)) then (6 : Int32) else 4))) + 0) + 0)))
              refine z_rcs0 hc hH 3 (pc' := 124) (lv' := [(6, .int (((hnd (v3.1 * (bif decide ((nI u3) = (nI dl)) then (6 : Int32) else 4))) + 0) + 0)), (5, .int ((hnd (v3.1 * (bif decide ((nI u3) = (nI dl)) then (6 : Int32) else 4))) + 0)), (4, .int (nI u3)), (3, .int 3), (2, .int 0), (1, .int (nB (decide ((nI u2) = (nI dl))))), (0, .ref 0)]) (st' := [.ref 0, .int (nI u3), .ref 0]) (by rfl) ?_
              refine zq_gfi hc hH (by rfl) (ci := 5) (f := 8) (by rfl) (by decide +kernel) (by rfl) ?_
              refine zV1 (Z := Z) (Eq.trans (ui_o (by first | decide | omega)) (Eq.trans (ui_o (by first | decide | omega)) (Eq.trans (hO3 _ _ (by omega)).1 (Eq.trans (ui_k (by first | decide | omega)) (Eq.trans (rcW_o (by first | decide | omega)) (Eq.trans (ui_o (by first | decide | omega)) (Eq.trans (ui_o (by first | decide | omega)) (hO2 _ _ (by omega)).1))))))) ?_
              rw [ht]
              refine z_rcs0 hc hH 1 (pc' := 129) (lv' := [(6, .int (((hnd (v3.1 * (bif decide ((nI u3) = (nI dl)) then (6 : Int32) else 4))) + 0) + 0)), (5, .int ((hnd (v3.1 * (bif decide ((nI u3) = (nI dl)) then (6 : Int32) else 4))) + 0)), (4, .int (nI u3)), (3, .int 3), (2, .int 0), (1, .int (nB (decide ((nI u2) = (nI dl))))), (0, .ref 0)]) (st' := [.int (((hnd (v3.1 * (bif decide ((nI u3) = (nI dl)) then (6 : Int32) else 4))) + 0) + 0), .int (nI t), .int (nI u3), .ref 0]) (by rfl) ?_
              refine zq_call hc (z_cx_ok hH (by rfl)) (gc_recordWin d' (by omega) (z_ui (z_ui W3 (18 + 8 * t) 4 (((μ.1 (18 + 8 * t) 4) - ((hnd (v2.1 * (bif decide ((nI u2) = (nI dl)) then (6 : Int32) else 4))) + (300 * (μ.1 0 11)))) - ((hnd (v3.1 * (bif decide ((nI u3) = (nI dl)) then (6 : Int32) else 4))) + 0))) (18 + 8 * u3) 4 ((μ.1 (18 + 8 * u3) 4) + (((hnd (v3.1 * (bif decide ((nI u3) = (nI dl)) then (6 : Int32) else 4))) + 0) + 0))) 1 (by omega) (by rw [ui_o (by first | decide | omega), ui_o (by first | decide | omega), (hO3 _ _ (by omega)).1, ui_k (by first | decide | omega), rcW_6]) (nI u3) (nI t) (((hnd (v3.1 * (bif decide ((nI u3) = (nI dl)) then (6 : Int32) else 4))) + 0) + 0)) (by decide +kernel) (fun r9 μ9 hq => ?_)
              obtain ⟨rfl, rfl⟩ := hq
              show Z 0 132 [(6, .int (((hnd (v3.1 * (bif decide ((nI u3) = (nI dl)) then (6 : Int32) else 4))) + 0) + 0)), (5, .int ((hnd (v3.1 * (bif decide ((nI u3) = (nI dl)) then (6 : Int32) else 4))) + 0)), (4, .int (nI u3)), (3, .int 3), (2, .int 0), (1, .int (nB (decide ((nI u2) = (nI dl))))), (0, .ref 0)] [] (rcW (z_ui (z_ui W3 (18 + 8 * t) 4 (((μ.1 (18 + 8 * t) 4) - ((hnd (v2.1 * (bif decide ((nI u2) = (nI dl)) then (6 : Int32) else 4))) + (300 * (μ.1 0 11)))) - ((hnd (v3.1 * (bif decide ((nI u3) = (nI dl)) then (6 : Int32) else 4))) + 0))) (18 + 8 * u3) 4 ((μ.1 (18 + 8 * u3) 4) + (((hnd (v3.1 * (bif decide ((nI u3) = (nI dl)) then (6 : Int32) else 4))) + 0) + 0))) 1 (nI u3) (nI t) (((hnd (v3.1 * (bif decide ((nI u3) = (nI dl)) then (6 : Int32) else 4))) + 0) + 0))
              refine z_rcs0 hc hH 1 (pc' := 133) (lv' := [(6, .int (((hnd (v3.1 * (bif decide ((nI u3) = (nI dl)) then (6 : Int32) else 4))) + 0) + 0)), (5, .int ((hnd (v3.1 * (bif decide ((nI u3) = (nI dl)) then (6 : Int32) else 4))) + 0)), (4, .int (nI u3)), (3, .int 3), (2, .int 0), (1, .int (nB (decide ((nI u2) = (nI dl))))), (0, .ref 0)]) (st' := [.int (nB (decide ((nI u2) = (nI dl))))]) (by rfl) ?_
              have hJ7 : Z 0 150 [(6, .int (((hnd (v3.1 * (bif decide ((nI u3) = (nI dl)) then (6 : Int32) else 4))) + 0) + 0)), (5, .int ((hnd (v3.1 * (bif decide ((nI u3) = (nI dl)) then (6 : Int32) else 4))) + 0)), (4, .int (nI u3)), (3, .int 3), (2, .int 0), (1, .int (nB (decide ((nI u2) = (nI dl))))), (0, .ref 0)] [.int (nB ((decide ((nI u2) = (nI dl))) || (decide ((nI u3) = (nI dl)))))] (rcW (z_ui (z_ui W3 (18 + 8 * t) 4 (((μ.1 (18 + 8 * t) 4) - ((hnd (v2.1 * (bif decide ((nI u2) = (nI dl)) then (6 : Int32) else 4))) + (300 * (μ.1 0 11)))) - ((hnd (v3.1 * (bif decide ((nI u3) = (nI dl)) then (6 : Int32) else 4))) + 0))) (18 + 8 * u3) 4 ((μ.1 (18 + 8 * u3) 4) + (((hnd (v3.1 * (bif decide ((nI u3) = (nI dl)) then (6 : Int32) else 4))) + 0) + 0))) 1 (nI u3) (nI t) (((hnd (v3.1 * (bif decide ((nI u3) = (nI dl)) then (6 : Int32) else 4))) + 0) + 0)) := by
                refine z_rcs0 hc hH 5 (pc' := 155) (lv' := [(2, .int 0), (1, .int (nB ((decide ((nI u2) = (nI dl))) || (decide ((nI u3) = (nI dl)))))), (6, .int (((hnd (v3.1 * (bif decide ((nI u3) = (nI dl)) then (6 : Int32) else 4))) + 0) + 0)), (5, .int ((hnd (v3.1 * (bif decide ((nI u3) = (nI dl)) then (6 : Int32) else 4))) + 0)), (4, .int (nI u3)), (3, .int 3), (0, .ref 0)]) (st' := [.int 0, .ref 0]) (by rfl) ?_
                refine zq_pfi hc hH (by rfl) (ci := 5) (f := 12) (by rfl) (by decide +kernel) (by rfl) ?_
                show Z 0 158 [(2, .int 0), (1, .int (nB ((decide ((nI u2) = (nI dl))) || (decide ((nI u3) = (nI dl)))))), (6, .int (((hnd (v3.1 * (bif decide ((nI u3) = (nI dl)) then (6 : Int32) else 4))) + 0) + 0)), (5, .int ((hnd (v3.1 * (bif decide ((nI u3) = (nI dl)) then (6 : Int32) else 4))) + 0)), (4, .int (nI u3)), (3, .int 3), (0, .ref 0)] [] (z_ui (rcW (z_ui (z_ui W3 (18 + 8 * t) 4 (((μ.1 (18 + 8 * t) 4) - ((hnd (v2.1 * (bif decide ((nI u2) = (nI dl)) then (6 : Int32) else 4))) + (300 * (μ.1 0 11)))) - ((hnd (v3.1 * (bif decide ((nI u3) = (nI dl)) then (6 : Int32) else 4))) + 0))) (18 + 8 * u3) 4 ((μ.1 (18 + 8 * u3) 4) + (((hnd (v3.1 * (bif decide ((nI u3) = (nI dl)) then (6 : Int32) else 4))) + 0) + 0))) 1 (nI u3) (nI t) (((hnd (v3.1 * (bif decide ((nI u3) = (nI dl)) then (6 : Int32) else 4))) + 0) + 0)) 0 12 0)
                refine z_rcs0 hc hH 8 (pc' := 167) (lv' := [(3, .int 4), (2, .int 0), (1, .int (nB ((decide ((nI u2) = (nI dl))) || (decide ((nI u3) = (nI dl)))))), (6, .int (((hnd (v3.1 * (bif decide ((nI u3) = (nI dl)) then (6 : Int32) else 4))) + 0) + 0)), (5, .int ((hnd (v3.1 * (bif decide ((nI u3) = (nI dl)) then (6 : Int32) else 4))) + 0)), (4, .int (nI u3)), (0, .ref 0)]) (st' := [.int (nB ((decide ((nI u2) = (nI dl))) || (decide ((nI u3) = (nI dl))))), .int (nB ((decide ((nI u2) = (nI dl))) || (decide ((nI u3) = (nI dl))))), .ref 0]) (by rfl) ?_
                have hJ8 : Z 0 175 [(3, .int 4), (2, .int 0), (1, .int (nB ((decide ((nI u2) = (nI dl))) || (decide ((nI u3) = (nI dl)))))), (6, .int (((hnd (v3.1 * (bif decide ((nI u3) = (nI dl)) then (6 : Int32) else 4))) + 0) + 0)), (5, .int ((hnd (v3.1 * (bif decide ((nI u3) = (nI dl)) then (6 : Int32) else 4))) + 0)), (4, .int (nI u3)), (0, .ref 0)] [.int (nB (!((decide ((nI u2) = (nI dl))) || (decide ((nI u3) = (nI dl)))))), .int (nB ((decide ((nI u2) = (nI dl))) || (decide ((nI u3) = (nI dl))))), .ref 0] (z_ui (rcW (z_ui (z_ui W3 (18 + 8 * t) 4 (((μ.1 (18 + 8 * t) 4) - ((hnd (v2.1 * (bif decide ((nI u2) = (nI dl)) then (6 : Int32) else 4))) + (300 * (μ.1 0 11)))) - ((hnd (v3.1 * (bif decide ((nI u3) = (nI dl)) then (6 : Int32) else 4))) + 0))) (18 + 8 * u3) 4 ((μ.1 (18 + 8 * u3) 4) + (((hnd (v3.1 * (bif decide ((nI u3) = (nI dl)) then (6 : Int32) else 4))) + 0) + 0))) 1 (nI u3) (nI t) (((hnd (v3.1 * (bif decide ((nI u3) = (nI dl)) then (6 : Int32) else 4))) + 0) + 0)) 0 12 0) := by
                  refine zq_call hc (z_cx_ok hH (by rfl)) (gc_endHandB d' (by omega) (z_ui (rcW (z_ui (z_ui W3 (18 + 8 * t) 4 (((μ.1 (18 + 8 * t) 4) - ((hnd (v2.1 * (bif decide ((nI u2) = (nI dl)) then (6 : Int32) else 4))) + (300 * (μ.1 0 11)))) - ((hnd (v3.1 * (bif decide ((nI u3) = (nI dl)) then (6 : Int32) else 4))) + 0))) (18 + 8 * u3) 4 ((μ.1 (18 + 8 * u3) 4) + (((hnd (v3.1 * (bif decide ((nI u3) = (nI dl)) then (6 : Int32) else 4))) + 0) + 0))) 1 (nI u3) (nI t) (((hnd (v3.1 * (bif decide ((nI u3) = (nI dl)) then (6 : Int32) else 4))) + 0) + 0)) 0 12 0) ((decide ((nI u2) = (nI dl))) || (decide ((nI u3) = (nI dl)))) (!((decide ((nI u2) = (nI dl))) || (decide ((nI u3) = (nI dl))))) dl e (by rw [ui_k (by first | decide | omega), rcW_o (by first | decide | omega), ui_o (by first | decide | omega), ui_o (by first | decide | omega), (hO3 _ _ (by omega)).1, ui_k (by first | decide | omega), rcW_o (by first | decide | omega), ui_o (by first | decide | omega), ui_o (by first | decide | omega), (hO2 _ _ (by omega)).1]; exact hdl) hdl4 he) (by decide +kernel) (fun r9 μ9 hq => ?_)
                  obtain ⟨rfl, rfl⟩ := hq
                  show Z 0 178 [(3, .int 4), (2, .int 0), (1, .int (nB ((decide ((nI u2) = (nI dl))) || (decide ((nI u3) = (nI dl)))))), (6, .int (((hnd (v3.1 * (bif decide ((nI u3) = (nI dl)) then (6 : Int32) else 4))) + 0) + 0)), (5, .int ((hnd (v3.1 * (bif decide ((nI u3) = (nI dl)) then (6 : Int32) else 4))) + 0)), (4, .int (nI u3)), (0, .ref 0)] [] (eHB (z_ui (rcW (z_ui (z_ui W3 (18 + 8 * t) 4 (((μ.1 (18 + 8 * t) 4) - ((hnd (v2.1 * (bif decide ((nI u2) = (nI dl)) then (6 : Int32) else 4))) + (300 * (μ.1 0 11)))) - ((hnd (v3.1 * (bif decide ((nI u3) = (nI dl)) then (6 : Int32) else 4))) + 0))) (18 + 8 * u3) 4 ((μ.1 (18 + 8 * u3) 4) + (((hnd (v3.1 * (bif decide ((nI u3) = (nI dl)) then (6 : Int32) else 4))) + 0) + 0))) 1 (nI u3) (nI t) (((hnd (v3.1 * (bif decide ((nI u3) = (nI dl)) then (6 : Int32) else 4))) + 0) + 0)) 0 12 0) ((decide ((nI u2) = (nI dl))) || (decide ((nI u3) = (nI dl)))) (!((decide ((nI u2) = (nI dl))) || (decide ((nI u3) = (nI dl))))) (xBk (z_ui (rcW (z_ui (z_ui W3 (18 + 8 * t) 4 (((μ.1 (18 + 8 * t) 4) - ((hnd (v2.1 * (bif decide ((nI u2) = (nI dl)) then (6 : Int32) else 4))) + (300 * (μ.1 0 11)))) - ((hnd (v3.1 * (bif decide ((nI u3) = (nI dl)) then (6 : Int32) else 4))) + 0))) (18 + 8 * u3) 4 ((μ.1 (18 + 8 * u3) 4) + (((hnd (v3.1 * (bif decide ((nI u3) = (nI dl)) then (6 : Int32) else 4))) + 0) + 0))) 1 (nI u3) (nI t) (((hnd (v3.1 * (bif decide ((nI u3) = (nI dl)) then (6 : Int32) else 4))) + 0) + 0)) 0 12 0)) dl e (rcM (z_ui (rcW (z_ui (z_ui W3 (18 + 8 * t) 4 (((μ.1 (18 + 8 * t) 4) - ((hnd (v2.1 * (bif decide ((nI u2) = (nI dl)) then (6 : Int32) else 4))) + (300 * (μ.1 0 11)))) - ((hnd (v3.1 * (bif decide ((nI u3) = (nI dl)) then (6 : Int32) else 4))) + 0))) (18 + 8 * u3) 4 ((μ.1 (18 + 8 * u3) 4) + (((hnd (v3.1 * (bif decide ((nI u3) = (nI dl)) then (6 : Int32) else 4))) + 0) + 0))) 1 (nI u3) (nI t) (((hnd (v3.1 * (bif decide ((nI u3) = (nI dl)) then (6 : Int32) else 4))) + 0) + 0)) 0 12 0)))
                  exact hr 0 178 _ _ _ none (by decide +kernel) (by rfl) (⟨rfl, v2, W2, v3, W3, hB2, hv2, hO2, hB3, hv3, hO3, rfl⟩)
                refine zq_if hc hH (by rfl) (tg := 174) (by rfl) (fun h9 => ?_) (fun h9 => ?_)
                · have h9 : ((decide ((nI u2) = (nI dl))) || (decide ((nI u3) = (nI dl)))) = true := nB_n.mp (cm_ne.mp h9)
                  refine z_rcs hc hH 1 (pc' := 175) (lv' := [(3, .int 4), (2, .int 0), (1, .int (nB ((decide ((nI u2) = (nI dl))) || (decide ((nI u3) = (nI dl)))))), (6, .int (((hnd (v3.1 * (bif decide ((nI u3) = (nI dl)) then (6 : Int32) else 4))) + 0) + 0)), (5, .int ((hnd (v3.1 * (bif decide ((nI u3) = (nI dl)) then (6 : Int32) else 4))) + 0)), (4, .int (nI u3)), (0, .ref 0)]) (st' := [.int 0, .int (nB ((decide ((nI u2) = (nI dl))) || (decide ((nI u3) = (nI dl))))), .ref 0]) (μ' := z_ui (rcW (z_ui (z_ui W3 (18 + 8 * t) 4 (((μ.1 (18 + 8 * t) 4) - ((hnd (v2.1 * (bif decide ((nI u2) = (nI dl)) then (6 : Int32) else 4))) + (300 * (μ.1 0 11)))) - ((hnd (v3.1 * (bif decide ((nI u3) = (nI dl)) then (6 : Int32) else 4))) + 0))) (18 + 8 * u3) 4 ((μ.1 (18 + 8 * u3) 4) + (((hnd (v3.1 * (bif decide ((nI u3) = (nI dl)) then (6 : Int32) else 4))) + 0) + 0))) 1 (nI u3) (nI t) (((hnd (v3.1 * (bif decide ((nI u3) = (nI dl)) then (6 : Int32) else 4))) + 0) + 0)) 0 12 0) (by rfl) ?_
                  exact zJ hJ8 rfl (by first | with_reducible rfl | (simp only [h9, lb_f, Int64.or_zero, Int32.add_zero, nB_t, nB_f, Bool.not_true, Bool.not_false, Bool.and_true, Bool.true_and, Bool.false_and, Bool.and_false, Bool.or_true, Bool.true_or, Bool.false_or, Bool.or_false, cond_true, cond_false]; done) | rfl) rfl
                · have h9 : ((decide ((nI u2) = (nI dl))) || (decide ((nI u3) = (nI dl)))) = false := nB_z.mp (cn_ne.mp h9)
                  refine z_rcs0 hc hH 2 (pc' := 175) (lv' := [(3, .int 4), (2, .int 0), (1, .int (nB ((decide ((nI u2) = (nI dl))) || (decide ((nI u3) = (nI dl)))))), (6, .int (((hnd (v3.1 * (bif decide ((nI u3) = (nI dl)) then (6 : Int32) else 4))) + 0) + 0)), (5, .int ((hnd (v3.1 * (bif decide ((nI u3) = (nI dl)) then (6 : Int32) else 4))) + 0)), (4, .int (nI u3)), (0, .ref 0)]) (st' := [.int 1, .int (nB ((decide ((nI u2) = (nI dl))) || (decide ((nI u3) = (nI dl))))), .ref 0]) (by rfl) ?_
                  exact zJ hJ8 rfl (by first | with_reducible rfl | (simp only [h9, lb_f, Int64.or_zero, Int32.add_zero, nB_t, nB_f, Bool.not_true, Bool.not_false, Bool.and_true, Bool.true_and, Bool.false_and, Bool.and_false, Bool.or_true, Bool.true_or, Bool.false_or, Bool.or_false, cond_true, cond_false]; done) | rfl) rfl
              refine zq_if hc hH (by rfl) (tg := 145) (by rfl) (fun h10 => ?_) (fun h10 => ?_)
              · have h10 : (decide ((nI u2) = (nI dl))) = true := nB_n.mp (cm_ne.mp h10)
                refine z_rcs hc hH 2 (pc' := 150) (lv' := [(6, .int (((hnd (v3.1 * (bif decide ((nI u3) = (nI dl)) then (6 : Int32) else 4))) + 0) + 0)), (5, .int ((hnd (v3.1 * (bif decide ((nI u3) = (nI dl)) then (6 : Int32) else 4))) + 0)), (4, .int (nI u3)), (3, .int 3), (2, .int 0), (1, .int (nB (decide ((nI u2) = (nI dl))))), (0, .ref 0)]) (st' := [.int 1]) (μ' := rcW (z_ui (z_ui W3 (18 + 8 * t) 4 (((μ.1 (18 + 8 * t) 4) - ((hnd (v2.1 * (bif decide ((nI u2) = (nI dl)) then (6 : Int32) else 4))) + (300 * (μ.1 0 11)))) - ((hnd (v3.1 * (bif decide ((nI u3) = (nI dl)) then (6 : Int32) else 4))) + 0))) (18 + 8 * u3) 4 ((μ.1 (18 + 8 * u3) 4) + (((hnd (v3.1 * (bif decide ((nI u3) = (nI dl)) then (6 : Int32) else 4))) + 0) + 0))) 1 (nI u3) (nI t) (((hnd (v3.1 * (bif decide ((nI u3) = (nI dl)) then (6 : Int32) else 4))) + 0) + 0)) (by rfl) ?_
                exact zJ hJ7 rfl (by first | with_reducible rfl | (simp only [h10, lb_f, Int64.or_zero, Int32.add_zero, nB_t, nB_f, Bool.not_true, Bool.not_false, Bool.and_true, Bool.true_and, Bool.false_and, Bool.and_false, Bool.or_true, Bool.true_or, Bool.false_or, Bool.or_false, cond_true, cond_false]; done) | rfl) rfl
              · have h10 : (decide ((nI u2) = (nI dl))) = false := nB_z.mp (cn_ne.mp h10)
                refine z_rcs0 hc hH 2 (pc' := 139) (lv' := [(6, .int (((hnd (v3.1 * (bif decide ((nI u3) = (nI dl)) then (6 : Int32) else 4))) + 0) + 0)), (5, .int ((hnd (v3.1 * (bif decide ((nI u3) = (nI dl)) then (6 : Int32) else 4))) + 0)), (4, .int (nI u3)), (3, .int 3), (2, .int 0), (1, .int (nB (decide ((nI u2) = (nI dl))))), (0, .ref 0)]) (st' := [.ref 0, .int (nI u3)]) (by rfl) ?_
                refine zq_gfi hc hH (by rfl) (ci := 5) (f := 9) (by rfl) (by decide +kernel) (by rfl) ?_
                refine zV1 (Z := Z) (Eq.trans (rcW_o (by first | decide | omega)) (Eq.trans (ui_o (by first | decide | omega)) (Eq.trans (ui_o (by first | decide | omega)) (Eq.trans (hO3 _ _ (by omega)).1 (Eq.trans (ui_k (by first | decide | omega)) (Eq.trans (rcW_o (by first | decide | omega)) (Eq.trans (ui_o (by first | decide | omega)) (Eq.trans (ui_o (by first | decide | omega)) (hO2 _ _ (by omega)).1)))))))) ?_
                rw [hdl]
                refine zq_ic hc hH (by rfl) (tg := 149) (by rfl) (fun h11 => ?_) (fun h11 => ?_)
                · have h11 : (decide ((nI u3) = (nI dl))) = false := decide_eq_false (cm_ne.mp h11)
                  refine z_rcs0 hc hH 1 (pc' := 150) (lv' := [(6, .int (((hnd (v3.1 * (bif decide ((nI u3) = (nI dl)) then (6 : Int32) else 4))) + 0) + 0)), (5, .int ((hnd (v3.1 * (bif decide ((nI u3) = (nI dl)) then (6 : Int32) else 4))) + 0)), (4, .int (nI u3)), (3, .int 3), (2, .int 0), (1, .int (nB (decide ((nI u2) = (nI dl))))), (0, .ref 0)]) (st' := [.int 0]) (by rfl) ?_
                  exact zJ hJ7 rfl (by first | with_reducible rfl | (simp only [h10, h11, lb_f, Int64.or_zero, Int32.add_zero, nB_t, nB_f, Bool.not_true, Bool.not_false, Bool.and_true, Bool.true_and, Bool.false_and, Bool.and_false, Bool.or_true, Bool.true_or, Bool.false_or, Bool.or_false, cond_true, cond_false]; done) | rfl) rfl
                · have h11 : (decide ((nI u3) = (nI dl))) = true := decide_eq_true (cn_ne.mp h11)
                  refine z_rcs0 hc hH 2 (pc' := 150) (lv' := [(6, .int (((hnd (v3.1 * (bif decide ((nI u3) = (nI dl)) then (6 : Int32) else 4))) + 0) + 0)), (5, .int ((hnd (v3.1 * (bif decide ((nI u3) = (nI dl)) then (6 : Int32) else 4))) + 0)), (4, .int (nI u3)), (3, .int 3), (2, .int 0), (1, .int (nB (decide ((nI u2) = (nI dl))))), (0, .ref 0)]) (st' := [.int 1]) (by rfl) ?_
                  exact zJ hJ7 rfl (by first | with_reducible rfl | (simp only [h10, h11, lb_f, Int64.or_zero, Int32.add_zero, nB_t, nB_f, Bool.not_true, Bool.not_false, Bool.and_true, Bool.true_and, Bool.false_and, Bool.and_false, Bool.or_true, Bool.true_or, Bool.false_or, Bool.or_false, cond_true, cond_false]; done) | rfl) rfl
            refine zq_ic hc hH (by rfl) (tg := 64) (by rfl) (fun h12 => ?_) (fun h12 => ?_)
            · have h12 : (decide ((nI u3) = (nI dl))) = false := decide_eq_false (cm_ne.mp h12)
              refine z_rcs hc hH 1 (pc' := 65) (lv' := [(4, .int (nI u3)), (3, .int 3), (2, .int 0), (1, .int (nB (decide ((nI u2) = (nI dl))))), (6, .int (((hnd (v2.1 * (bif decide ((nI u2) = (nI dl)) then (6 : Int32) else 4))) + (300 * (μ.1 0 11))) + ((μ.1 0 12) * 1000))), (5, .int ((hnd (v2.1 * (bif decide ((nI u2) = (nI dl)) then (6 : Int32) else 4))) + (300 * (μ.1 0 11)))), (0, .ref 0)]) (st' := [.int 4, .int v3.1]) (μ' := W3) (by rfl) ?_
              exact zJ hJ6 rfl (by first | with_reducible rfl | (simp only [h12, lb_f, Int64.or_zero, Int32.add_zero, nB_t, nB_f, Bool.not_true, Bool.not_false, Bool.and_true, Bool.true_and, Bool.false_and, Bool.and_false, Bool.or_true, Bool.true_or, Bool.false_or, Bool.or_false, cond_true, cond_false]; done) | rfl) rfl
            · have h12 : (decide ((nI u3) = (nI dl))) = true := decide_eq_true (cn_ne.mp h12)
              refine z_rcs hc hH 2 (pc' := 65) (lv' := [(4, .int (nI u3)), (3, .int 3), (2, .int 0), (1, .int (nB (decide ((nI u2) = (nI dl))))), (6, .int (((hnd (v2.1 * (bif decide ((nI u2) = (nI dl)) then (6 : Int32) else 4))) + (300 * (μ.1 0 11))) + ((μ.1 0 12) * 1000))), (5, .int ((hnd (v2.1 * (bif decide ((nI u2) = (nI dl)) then (6 : Int32) else 4))) + (300 * (μ.1 0 11)))), (0, .ref 0)]) (st' := [.int 6, .int v3.1]) (μ' := W3) (by rfl) ?_
              exact zJ hJ6 rfl (by first | with_reducible rfl | (simp only [h12, lb_f, Int64.or_zero, Int32.add_zero, nB_t, nB_f, Bool.not_true, Bool.not_false, Bool.and_true, Bool.true_and, Bool.false_and, Bool.and_false, Bool.or_true, Bool.true_or, Bool.false_or, Bool.or_false, cond_true, cond_false]; done) | rfl) rfl
          · have h5 : (decide ((μ.1 (18 + 8 * u3) 9) = 0)) = true := decide_eq_true (cn_ne.mp h5)
            exact absurd (Eq.trans (Eq.symm (hs3)) h5) (by decide)
        refine zq_ic hc hH (by rfl) (tg := 149) (by rfl) (fun h13 => ?_) (fun h13 => ?_)
        · have h13 : (decide ((nI u2) = (nI dl))) = false := decide_eq_false (cm_ne.mp h13)
          refine z_rcs hc hH 1 (pc' := 150) (lv' := [(6, .int (((hnd (v2.1 * (bif decide ((nI u2) = (nI dl)) then (6 : Int32) else 4))) + (300 * (μ.1 0 11))) + ((μ.1 0 12) * 1000))), (5, .int ((hnd (v2.1 * (bif decide ((nI u2) = (nI dl)) then (6 : Int32) else 4))) + (300 * (μ.1 0 11)))), (4, .int (nI u2)), (3, .int 2), (2, .int (300 * (μ.1 0 11))), (1, .int 0), (0, .ref 0)]) (st' := [.int 0]) (μ' := rcW (z_ui (z_ui W2 (18 + 8 * t) 4 ((μ.1 (18 + 8 * t) 4) - ((hnd (v2.1 * (bif decide ((nI u2) = (nI dl)) then (6 : Int32) else 4))) + (300 * (μ.1 0 11))))) (18 + 8 * u2) 4 ((μ.1 (18 + 8 * u2) 4) + (((hnd (v2.1 * (bif decide ((nI u2) = (nI dl)) then (6 : Int32) else 4))) + (300 * (μ.1 0 11))) + ((μ.1 0 12) * 1000)))) 0 (nI u2) (nI t) (((hnd (v2.1 * (bif decide ((nI u2) = (nI dl)) then (6 : Int32) else 4))) + (300 * (μ.1 0 11))) + ((μ.1 0 12) * 1000))) (by rfl) ?_
          exact zJ hJ4 rfl (by first | with_reducible rfl | (simp only [h13, lb_f, Int64.or_zero, Int32.add_zero, nB_t, nB_f, Bool.not_true, Bool.not_false, Bool.and_true, Bool.true_and, Bool.false_and, Bool.and_false, Bool.or_true, Bool.true_or, Bool.false_or, Bool.or_false, cond_true, cond_false]; done) | rfl) rfl
        · have h13 : (decide ((nI u2) = (nI dl))) = true := decide_eq_true (cn_ne.mp h13)
          refine z_rcs0 hc hH 2 (pc' := 150) (lv' := [(6, .int (((hnd (v2.1 * (bif decide ((nI u2) = (nI dl)) then (6 : Int32) else 4))) + (300 * (μ.1 0 11))) + ((μ.1 0 12) * 1000))), (5, .int ((hnd (v2.1 * (bif decide ((nI u2) = (nI dl)) then (6 : Int32) else 4))) + (300 * (μ.1 0 11)))), (4, .int (nI u2)), (3, .int 2), (2, .int (300 * (μ.1 0 11))), (1, .int 0), (0, .ref 0)]) (st' := [.int 1]) (by rfl) ?_
          exact zJ hJ4 rfl (by first | with_reducible rfl | (simp only [h13, lb_f, Int64.or_zero, Int32.add_zero, nB_t, nB_f, Bool.not_true, Bool.not_false, Bool.and_true, Bool.true_and, Bool.false_and, Bool.and_false, Bool.or_true, Bool.true_or, Bool.false_or, Bool.or_false, cond_true, cond_false]; done) | rfl) rfl
      refine zq_ic hc hH (by rfl) (tg := 64) (by rfl) (fun h14 => ?_) (fun h14 => ?_)
      · have h14 : (decide ((nI u2) = (nI dl))) = false := decide_eq_false (cm_ne.mp h14)
        refine z_rcs hc hH 1 (pc' := 65) (lv' := [(4, .int (nI u2)), (3, .int 2), (2, .int (300 * (μ.1 0 11))), (1, .int 0), (0, .ref 0)]) (st' := [.int 4, .int v2.1]) (μ' := W2) (by rfl) ?_
        exact zJ hJ3 rfl (by first | with_reducible rfl | (simp only [h14, lb_f, Int64.or_zero, Int32.add_zero, nB_t, nB_f, Bool.not_true, Bool.not_false, Bool.and_true, Bool.true_and, Bool.false_and, Bool.and_false, Bool.or_true, Bool.true_or, Bool.false_or, Bool.or_false, cond_true, cond_false]; done) | rfl) rfl
      · have h14 : (decide ((nI u2) = (nI dl))) = true := decide_eq_true (cn_ne.mp h14)
        refine z_rcs hc hH 2 (pc' := 65) (lv' := [(4, .int (nI u2)), (3, .int 2), (2, .int (300 * (μ.1 0 11))), (1, .int 0), (0, .ref 0)]) (st' := [.int 6, .int v2.1]) (μ' := W2) (by rfl) ?_
        exact zJ hJ3 rfl (by first | with_reducible rfl | (simp only [h14, lb_f, Int64.or_zero, Int32.add_zero, nB_t, nB_f, Bool.not_true, Bool.not_false, Bool.and_true, Bool.true_and, Bool.false_and, Bool.and_false, Bool.or_true, Bool.true_or, Bool.false_or, Bool.or_false, cond_true, cond_false]; done) | rfl) rfl
    · have h2 : (decide ((μ.1 (18 + 8 * u2) 9) = 0)) = true := decide_eq_true (cn_ne.mp h2)
      exact absurd (Eq.trans (Eq.symm (hs2)) h2) (by decide)
noncomputable def wA100 (W1 : zM) (t dl e u1 u2 u3 : Nat) (v1 : Q4) (μ : zM) : zM := eHB (z_ui (rcW (z_ui (z_ui W1 (18 + 8 * t) 4 ((μ.1 (18 + 8 * t) 4) - ((hnd (v1.1 * (bif decide ((nI u1) = (nI dl)) then (6 : Int32) else 4))) + (300 * (μ.1 0 11))))) (18 + 8 * u1) 4 ((μ.1 (18 + 8 * u1) 4) + (((hnd (v1.1 * (bif decide ((nI u1) = (nI dl)) then (6 : Int32) else 4))) + (300 * (μ.1 0 11))) + ((μ.1 0 12) * 1000)))) 0 (nI u1) (nI t) (((hnd (v1.1 * (bif decide ((nI u1) = (nI dl)) then (6 : Int32) else 4))) + (300 * (μ.1 0 11))) + ((μ.1 0 12) * 1000))) 0 12 0) (decide ((nI u1) = (nI dl))) (!(decide ((nI u1) = (nI dl)))) (xBk (z_ui (rcW (z_ui (z_ui W1 (18 + 8 * t) 4 ((μ.1 (18 + 8 * t) 4) - ((hnd (v1.1 * (bif decide ((nI u1) = (nI dl)) then (6 : Int32) else 4))) + (300 * (μ.1 0 11))))) (18 + 8 * u1) 4 ((μ.1 (18 + 8 * u1) 4) + (((hnd (v1.1 * (bif decide ((nI u1) = (nI dl)) then (6 : Int32) else 4))) + (300 * (μ.1 0 11))) + ((μ.1 0 12) * 1000)))) 0 (nI u1) (nI t) (((hnd (v1.1 * (bif decide ((nI u1) = (nI dl)) then (6 : Int32) else 4))) + (300 * (μ.1 0 11))) + ((μ.1 0 12) * 1000))) 0 12 0)) dl e (rcM (z_ui (rcW (z_ui (z_ui W1 (18 + 8 * t) 4 ((μ.1 (18 + 8 * t) 4) - ((hnd (v1.1 * (bif decide ((nI u1) = (nI dl)) then (6 : Int32) else 4))) + (300 * (μ.1 0 11))))) (18 + 8 * u1) 4 ((μ.1 (18 + 8 * u1) 4) + (((hnd (v1.1 * (bif decide ((nI u1) = (nI dl)) then (6 : Int32) else 4))) + (300 * (μ.1 0 11))) + ((μ.1 0 12) * 1000)))) 0 (nI u1) (nI t) (((hnd (v1.1 * (bif decide ((nI u1) = (nI dl)) then (6 : Int32) else 4))) + (300 * (μ.1 0 11))) + ((μ.1 0 12) * 1000))) 0 12 0))
theorem gc_winByTile100 (d : Nat) (hd : 11 ≤ d) (μ : zM) (t c u1 u2 u3 : Nat) (ht4 : t < 4) (ht : μ.1 0 8 = nI t) (hu1 : (t + 1) % 4 = u1) (hu14 : u1 < 4) (hu2 : (t + 2) % 4 = u2) (hu24 : u2 < 4) (hu3 : (t + 3) % 4 = u3) (hu34 : u3 < 4) (dl e : Nat) (hdl : μ.1 0 9 = nI dl) (hdl4 : dl < 4) (he : (dl + 1) % 4 = e) (h06 : μ.1 0 6 = nI 0) (hA0 : a_H μ) (hs1 : decide (μ.1 (18 + 8 * u1) 9 = 0) = false) (hs2 : decide (μ.1 (18 + 8 * u2) 9 = 0) = true) (hs3 : decide (μ.1 (18 + 8 * u3) 9 = 0) = true) (B1 : Q4 → Prop) (hwg1 : ∀ M, WE μ M → a_H M → ∀ d, 10 ≤ d → z_C d mi_X6_weighHand [.ref 0, .int (nI u1), .int 0] M (fun r W => ∃ v, B1 v ∧ r = some (.int v.1) ∧ WOj M W ∧ bqJ W = v ∧ a_H W)) : z_C d mi_X6_winByTile [.ref 0] μ (fun r μ' => r = none ∧ ∃ v1 W1, B1 v1 ∧ bqJ W1 = v1 ∧ WOj μ W1 ∧ μ' = wA100 W1 t dl e u1 u2 u3 v1 μ) := by
  refine z_C_in (by decide) (by omega) (fun d' Z ed hc hr => ?_)
  have hH : zH mi_X6_winByTile zt_X6_winByTile 79 6 7 := hh_X6_winByTile
  refine z_rcs hc hH 4 (pc' := 6) (lv' := [(1, .int 0), (0, .ref 0)]) (st' := [.ref 0, .int 300]) (μ' := μ) (by rfl) ?_
  refine zq_gfi hc hH (by rfl) (ci := 5) (f := 11) (by rfl) (by decide +kernel) (by rfl) ?_
  refine z_rcs hc hH 8 (pc' := 19) (lv' := [(3, .int 1), (2, .int (300 * (μ.1 0 11))), (1, .int 0), (0, .ref 0)]) (st' := [.ref 0]) (μ' := μ) (by rfl) ?_
  refine zq_gfi hc hH (by rfl) (ci := 5) (f := 8) (by rfl) (by decide +kernel) (by rfl) ?_
  rw [ht]
  refine z_rcs hc hH 2 (pc' := 24) (lv' := [(3, .int 1), (2, .int (300 * (μ.1 0 11))), (1, .int 0), (0, .ref 0)]) (st' := [.int ((nI t) + 1)]) (μ' := μ) (by rfl) ?_
  rw [show nI t + 1 = nI (t + 1) from by rw [show (1 : Int32) = nI 1 from rfl, nI_add]]
  refine z_rcs hc hH 2 (pc' := 26) (lv' := [(3, .int 1), (2, .int (300 * (μ.1 0 11))), (1, .int 0), (0, .ref 0)]) (st' := [.int ((nI (t + 1)) &&& 3)]) (μ' := μ) (by rfl) ?_
  rw [show nI (t + 1) &&& 3 = nI u1 from by rw [and3 (by omega), hu1]]
  refine z_rcs hc hH 3 (pc' := 31) (lv' := [(4, .int (nI u1)), (3, .int 1), (2, .int (300 * (μ.1 0 11))), (1, .int 0), (0, .ref 0)]) (st' := [.int (nI u1), .ref 0]) (μ' := μ) (by rfl) ?_
  refine zq_call hc (z_cx_ok hH (by rfl)) (gc_at4 d' (by omega) μ u1 hu14) (by decide +kernel) (fun r9 μ9 hq => ?_)
  obtain ⟨hμ9, rfl⟩ := hq
  rw [hμ9]
  clear hμ9 μ9
  show Z 0 34 [(4, .int (nI u1)), (3, .int 1), (2, .int (300 * (μ.1 0 11))), (1, .int 0), (0, .ref 0)] [.ref (18 + 8 * u1)] μ
  refine zq_gfi hc hH (by rfl) (ci := 1) (f := 9) (by rfl) (sj (P := fun i => okf 79 1 9 (18 + 8 * i)) hu14 (by decide +kernel)) (by rfl) ?_
  refine zq_if hc hH (by rfl) (tg := 43) (by rfl) (fun h1 => ?_) (fun h1 => ?_)
  · have h1 : (decide ((μ.1 (18 + 8 * u1) 9) = 0)) = false := decide_eq_false (cm_ne.mp h1)
    refine z_rcs hc hH 3 (pc' := 47) (lv' := [(4, .int (nI u1)), (3, .int 1), (2, .int (300 * (μ.1 0 11))), (1, .int 0), (0, .ref 0)]) (st' := [.int 0, .int (nI u1), .ref 0]) (μ' := μ) (by rfl) ?_
    refine zq_call hc (z_cx_ok hH (by rfl)) (hwg1 _ (WE_rf _) (hA0) d' (by omega)) (by decide +kernel) (fun r9 W1 hq => ?_)
    obtain ⟨v1, hB1, rfl, hO1, hv1, hA1⟩ := hq
    show Z 0 50 [(4, .int (nI u1)), (3, .int 1), (2, .int (300 * (μ.1 0 11))), (1, .int 0), (0, .ref 0)] [.int v1.1] W1
    refine z_rcs hc hH 2 (pc' := 53) (lv' := [(4, .int (nI u1)), (3, .int 1), (2, .int (300 * (μ.1 0 11))), (1, .int 0), (0, .ref 0)]) (st' := [.ref 0, .int (nI u1), .int v1.1]) (μ' := W1) (by rfl) ?_
    refine zq_gfi hc hH (by rfl) (ci := 5) (f := 9) (by rfl) (by decide +kernel) (by rfl) ?_
    rw [(hO1 _ _ (by omega)).1]
    rw [hdl]
    have hJ2 : Z 0 65 [(4, .int (nI u1)), (3, .int 1), (2, .int (300 * (μ.1 0 11))), (1, .int 0), (0, .ref 0)] [.int (bif decide ((nI u1) = (nI dl)) then (6 : Int32) else 4), .int v1.1] W1 := by
      refine z_rcs hc hH 1 (pc' := 66) (lv' := [(4, .int (nI u1)), (3, .int 1), (2, .int (300 * (μ.1 0 11))), (1, .int 0), (0, .ref 0)]) (st' := [.int (v1.1 * (bif decide ((nI u1) = (nI dl)) then (6 : Int32) else 4))]) (μ' := W1) (by rfl) ?_
      refine zq_call hc (z_cx_ok hH (by rfl)) (gc_hundreds d' (by omega) W1 (v1.1 * (bif decide ((nI u1) = (nI dl)) then (6 : Int32) else 4))) (by decide +kernel) (fun r9 μ9 hq => ?_)
      obtain ⟨hμ9, rfl⟩ := hq
      rw [hμ9]
      clear hμ9 μ9
      show Z 0 69 [(4, .int (nI u1)), (3, .int 1), (2, .int (300 * (μ.1 0 11))), (1, .int 0), (0, .ref 0)] [.int (hnd (v1.1 * (bif decide ((nI u1) = (nI dl)) then (6 : Int32) else 4)))] W1
      refine z_rcs hc hH 5 (pc' := 76) (lv' := [(5, .int ((hnd (v1.1 * (bif decide ((nI u1) = (nI dl)) then (6 : Int32) else 4))) + (300 * (μ.1 0 11)))), (4, .int (nI u1)), (3, .int 1), (2, .int (300 * (μ.1 0 11))), (1, .int 0), (0, .ref 0)]) (st' := [.ref 0, .int ((hnd (v1.1 * (bif decide ((nI u1) = (nI dl)) then (6 : Int32) else 4))) + (300 * (μ.1 0 11)))]) (μ' := W1) (by rfl) ?_
      refine zq_gfi hc hH (by rfl) (ci := 5) (f := 12) (by rfl) (by decide +kernel) (by rfl) ?_
      rw [(hO1 _ _ (by omega)).1]
      refine z_rcs hc hH 6 (pc' := 88) (lv' := [(6, .int (((hnd (v1.1 * (bif decide ((nI u1) = (nI dl)) then (6 : Int32) else 4))) + (300 * (μ.1 0 11))) + ((μ.1 0 12) * 1000))), (5, .int ((hnd (v1.1 * (bif decide ((nI u1) = (nI dl)) then (6 : Int32) else 4))) + (300 * (μ.1 0 11)))), (4, .int (nI u1)), (3, .int 1), (2, .int (300 * (μ.1 0 11))), (1, .int 0), (0, .ref 0)]) (st' := [.ref 0, .ref 0]) (μ' := W1) (by rfl) ?_
      refine zq_gfi hc hH (by rfl) (ci := 5) (f := 8) (by rfl) (by decide +kernel) (by rfl) ?_
      rw [(hO1 _ _ (by omega)).1]
      rw [ht]
      refine zq_call hc (z_cx_ok hH (by rfl)) (gc_at4 d' (by omega) W1 t ht4) (by decide +kernel) (fun r9 μ9 hq => ?_)
      obtain ⟨hμ9, rfl⟩ := hq
      rw [hμ9]
      clear hμ9 μ9
      show Z 0 94 [(6, .int (((hnd (v1.1 * (bif decide ((nI u1) = (nI dl)) then (6 : Int32) else 4))) + (300 * (μ.1 0 11))) + ((μ.1 0 12) * 1000))), (5, .int ((hnd (v1.1 * (bif decide ((nI u1) = (nI dl)) then (6 : Int32) else 4))) + (300 * (μ.1 0 11)))), (4, .int (nI u1)), (3, .int 1), (2, .int (300 * (μ.1 0 11))), (1, .int 0), (0, .ref 0)] [.ref (18 + 8 * t)] W1
      refine z_rcs hc hH 1 (pc' := 95) (lv' := [(6, .int (((hnd (v1.1 * (bif decide ((nI u1) = (nI dl)) then (6 : Int32) else 4))) + (300 * (μ.1 0 11))) + ((μ.1 0 12) * 1000))), (5, .int ((hnd (v1.1 * (bif decide ((nI u1) = (nI dl)) then (6 : Int32) else 4))) + (300 * (μ.1 0 11)))), (4, .int (nI u1)), (3, .int 1), (2, .int (300 * (μ.1 0 11))), (1, .int 0), (0, .ref 0)]) (st' := [.ref (18 + 8 * t), .ref (18 + 8 * t)]) (μ' := W1) (by rfl) ?_
      refine zq_gfi hc hH (by rfl) (ci := 1) (f := 4) (by rfl) (sj (P := fun i => okf 79 1 4 (18 + 8 * i)) ht4 (by decide +kernel)) (by rfl) ?_
      rw [(hO1 _ _ (by omega)).1]
      refine z_rcs hc hH 2 (pc' := 101) (lv' := [(6, .int (((hnd (v1.1 * (bif decide ((nI u1) = (nI dl)) then (6 : Int32) else 4))) + (300 * (μ.1 0 11))) + ((μ.1 0 12) * 1000))), (5, .int ((hnd (v1.1 * (bif decide ((nI u1) = (nI dl)) then (6 : Int32) else 4))) + (300 * (μ.1 0 11)))), (4, .int (nI u1)), (3, .int 1), (2, .int (300 * (μ.1 0 11))), (1, .int 0), (0, .ref 0)]) (st' := [.int ((μ.1 (18 + 8 * t) 4) - ((hnd (v1.1 * (bif decide ((nI u1) = (nI dl)) then (6 : Int32) else 4))) + (300 * (μ.1 0 11)))), .ref (18 + 8 * t)]) (μ' := W1) (by rfl) ?_
      refine zq_pfi hc hH (by rfl) (ci := 1) (f := 4) (by rfl) (sj (P := fun i => okf 79 1 4 (18 + 8 * i)) ht4 (by decide +kernel)) (by rfl) ?_
      show Z 0 104 [(6, .int (((hnd (v1.1 * (bif decide ((nI u1) = (nI dl)) then (6 : Int32) else 4))) + (300 * (μ.1 0 11))) + ((μ.1 0 12) * 1000))), (5, .int ((hnd (v1.1 * (bif decide ((nI u1) = (nI dl)) then (6 : Int32) else 4))) + (300 * (μ.1 0 11)))), (4, .int (nI u1)), (3, .int 1), (2, .int (300 * (μ.1 0 11))), (1, .int 0), (0, .ref 0)] [] (z_ui W1 (18 + 8 * t) 4 ((μ.1 (18 + 8 * t) 4) - ((hnd (v1.1 * (bif decide ((nI u1) = (nI dl)) then (6 : Int32) else 4))) + (300 * (μ.1 0 11)))))
      refine z_rcs0 hc hH 2 (pc' := 107) (lv' := [(6, .int (((hnd (v1.1 * (bif decide ((nI u1) = (nI dl)) then (6 : Int32) else 4))) + (300 * (μ.1 0 11))) + ((μ.1 0 12) * 1000))), (5, .int ((hnd (v1.1 * (bif decide ((nI u1) = (nI dl)) then (6 : Int32) else 4))) + (300 * (μ.1 0 11)))), (4, .int (nI u1)), (3, .int 1), (2, .int (300 * (μ.1 0 11))), (1, .int 0), (0, .ref 0)]) (st' := [.int (nI u1), .ref 0]) (by rfl) ?_
      refine zq_call hc (z_cx_ok hH (by rfl)) (gc_at4 d' (by omega) (z_ui W1 (18 + 8 * t) 4 ((μ.1 (18 + 8 * t) 4) - ((hnd (v1.1 * (bif decide ((nI u1) = (nI dl)) then (6 : Int32) else 4))) + (300 * (μ.1 0 11))))) u1 hu14) (by decide +kernel) (fun r9 μ9 hq => ?_)
      obtain ⟨hμ9, rfl⟩ := hq
      rw [hμ9]
      clear hμ9 μ9
      show Z 0 110 [(6, .int (((hnd (v1.1 * (bif decide ((nI u1) = (nI dl)) then (6 : Int32) else 4))) + (300 * (μ.1 0 11))) + ((μ.1 0 12) * 1000))), (5, .int ((hnd (v1.1 * (bif decide ((nI u1) = (nI dl)) then (6 : Int32) else 4))) + (300 * (μ.1 0 11)))), (4, .int (nI u1)), (3, .int 1), (2, .int (300 * (μ.1 0 11))), (1, .int 0), (0, .ref 0)] [.ref (18 + 8 * u1)] _
      refine z_rcs0 hc hH 1 (pc' := 111) (lv' := [(6, .int (((hnd (v1.1 * (bif decide ((nI u1) = (nI dl)) then (6 : Int32) else 4))) + (300 * (μ.1 0 11))) + ((μ.1 0 12) * 1000))), (5, .int ((hnd (v1.1 * (bif decide ((nI u1) = (nI dl)) then (6 : Int32) else 4))) + (300 * (μ.1 0 11)))), (4, .int (nI u1)), (3, .int 1), (2, .int (300 * (μ.1 0 11))), (1, .int 0), (0, .ref 0)]) (st' := [.ref (18 + 8 * u1), .ref (18 + 8 * u1)]) (by rfl) ?_
      refine zq_gfi hc hH (by rfl) (ci := 1) (f := 4) (by rfl) (sj (P := fun i => okf 79 1 4 (18 + 8 * i)) hu14 (by decide +kernel)) (by rfl) ?_
      refine zV1 (Z := Z) (Eq.trans (ui_o (by first | decide | omega)) (hO1 _ _ (by omega)).1) ?_
      refine z_rcs0 hc hH 2 (pc' := 117) (lv' := [(6, .int (((hnd (v1.1 * (bif decide ((nI u1) = (nI dl)) then (6 : Int32) else 4))) + (300 * (μ.1 0 11))) + ((μ.1 0 12) * 1000))), (5, .int ((hnd (v1.1 * (bif decide ((nI u1) = (nI dl)) then (6 : Int32) else 4))) + (300 * (μ.1 0 11)))), (4, .int (nI u1)), (3, .int 1), (2, .int (300 * (μ.1 0 11))), (1, .int 0), (0, .ref 0)]) (st' := [.int ((μ.1 (18 + 8 * u1) 4) + (((hnd (v1.1 * (bif decide ((nI u1) = (nI dl)) then (6 : Int32) else 4))) + (300 * (μ.1 0 11))) + ((μ.1 0 12) * 1000))), .ref (18 + 8 * u1)]) (by rfl) ?_
      refine zq_pfi hc hH (by rfl) (ci := 1) (f := 4) (by rfl) (sj (P := fun i => okf 79 1 4 (18 + 8 * i)) hu14 (by decide +kernel)) (by rfl) ?_
      show Z 0 120 [(6, .int (((hnd (v1.1 * (bif decide ((nI u1) = (nI dl)) then (6 : Int32) else 4))) + (300 * (μ.1 0 11))) + ((μ.1 0 12) * 1000))), (5, .int ((hnd (v1.1 * (bif decide ((nI u1) = (nI dl)) then (6 : Int32) else 4))) + (300 * (μ.1 0 11)))), (4, .int (nI u1)), (3, .int 1), (2, .int (300 * (μ.1 0 11))), (1, .int 0), (0, .ref 0)] [] (z_ui (z_ui W1 (18 + 8 * t) 4 ((μ.1 (18 + 8 * t) 4) - ((hnd (v1.1 * (bif decide ((nI u1) = (nI dl)) then (6 : Int32) else 4))) + (300 * (μ.1 0 11))))) (18 + 8 * u1) 4 ((μ.1 (18 + 8 * u1) 4) + (((hnd (v1.1 * (bif decide ((nI u1) = (nI dl)) then (6 : Int32) else 4))) + (300 * (μ.1 0 11))) + ((μ.1 0 12) * 1000))))
      refine z_rcs0 hc hH 3 (pc' := 124) (lv' := [(6, .int (((hnd (v1.1 * (bif decide ((nI u1) = (nI dl)) then (6 : Int32) else 4))) + (300 * (μ.1 0 11))) + ((μ.1 0 12) * 1000))), (5, .int ((hnd (v1.1 * (bif decide ((nI u1) = (nI dl)) then (6 : Int32) else 4))) + (300 * (μ.1 0 11)))), (4, .int (nI u1)), (3, .int 1), (2, .int (300 * (μ.1 0 11))), (1, .int 0), (0, .ref 0)]) (st' := [.ref 0, .int (nI u1), .ref 0]) (by rfl) ?_
      refine zq_gfi hc hH (by rfl) (ci := 5) (f := 8) (by rfl) (by decide +kernel) (by rfl) ?_
      refine zV1 (Z := Z) (Eq.trans (ui_o (by first | decide | omega)) (Eq.trans (ui_o (by first | decide | omega)) (hO1 _ _ (by omega)).1)) ?_
      rw [ht]
      refine z_rcs0 hc hH 1 (pc' := 129) (lv' := [(6, .int (((hnd (v1.1 * (bif decide ((nI u1) = (nI dl)) then (6 : Int32) else 4))) + (300 * (μ.1 0 11))) + ((μ.1 0 12) * 1000))), (5, .int ((hnd (v1.1 * (bif decide ((nI u1) = (nI dl)) then (6 : Int32) else 4))) + (300 * (μ.1 0 11)))), (4, .int (nI u1)), (3, .int 1), (2, .int (300 * (μ.1 0 11))), (1, .int 0), (0, .ref 0)]) (st' := [.int (((hnd (v1.1 * (bif decide ((nI u1) = (nI dl)) then (6 : Int32) else 4))) + (300 * (μ.1 0 11))) + ((μ.1 0 12) * 1000)), .int (nI t), .int (nI u1), .ref 0]) (by rfl) ?_
      refine zq_call hc (z_cx_ok hH (by rfl)) (gc_recordWin d' (by omega) (z_ui (z_ui W1 (18 + 8 * t) 4 ((μ.1 (18 + 8 * t) 4) - ((hnd (v1.1 * (bif decide ((nI u1) = (nI dl)) then (6 : Int32) else 4))) + (300 * (μ.1 0 11))))) (18 + 8 * u1) 4 ((μ.1 (18 + 8 * u1) 4) + (((hnd (v1.1 * (bif decide ((nI u1) = (nI dl)) then (6 : Int32) else 4))) + (300 * (μ.1 0 11))) + ((μ.1 0 12) * 1000)))) 0 (by omega) (by rw [ui_o (by first | decide | omega), ui_o (by first | decide | omega), (hO1 _ _ (by omega)).1]; exact h06) (nI u1) (nI t) (((hnd (v1.1 * (bif decide ((nI u1) = (nI dl)) then (6 : Int32) else 4))) + (300 * (μ.1 0 11))) + ((μ.1 0 12) * 1000))) (by decide +kernel) (fun r9 μ9 hq => ?_)
      obtain ⟨rfl, rfl⟩ := hq
      show Z 0 132 [(6, .int (((hnd (v1.1 * (bif decide ((nI u1) = (nI dl)) then (6 : Int32) else 4))) + (300 * (μ.1 0 11))) + ((μ.1 0 12) * 1000))), (5, .int ((hnd (v1.1 * (bif decide ((nI u1) = (nI dl)) then (6 : Int32) else 4))) + (300 * (μ.1 0 11)))), (4, .int (nI u1)), (3, .int 1), (2, .int (300 * (μ.1 0 11))), (1, .int 0), (0, .ref 0)] [] (rcW (z_ui (z_ui W1 (18 + 8 * t) 4 ((μ.1 (18 + 8 * t) 4) - ((hnd (v1.1 * (bif decide ((nI u1) = (nI dl)) then (6 : Int32) else 4))) + (300 * (μ.1 0 11))))) (18 + 8 * u1) 4 ((μ.1 (18 + 8 * u1) 4) + (((hnd (v1.1 * (bif decide ((nI u1) = (nI dl)) then (6 : Int32) else 4))) + (300 * (μ.1 0 11))) + ((μ.1 0 12) * 1000)))) 0 (nI u1) (nI t) (((hnd (v1.1 * (bif decide ((nI u1) = (nI dl)) then (6 : Int32) else 4))) + (300 * (μ.1 0 11))) + ((μ.1 0 12) * 1000)))
      refine z_rcs0 hc hH 4 (pc' := 139) (lv' := [(6, .int (((hnd (v1.1 * (bif decide ((nI u1) = (nI dl)) then (6 : Int32) else 4))) + (300 * (μ.1 0 11))) + ((μ.1 0 12) * 1000))), (5, .int ((hnd (v1.1 * (bif decide ((nI u1) = (nI dl)) then (6 : Int32) else 4))) + (300 * (μ.1 0 11)))), (4, .int (nI u1)), (3, .int 1), (2, .int (300 * (μ.1 0 11))), (1, .int 0), (0, .ref 0)]) (st' := [.ref 0, .int (nI u1)]) (by rfl) ?_
      refine zq_gfi hc hH (by rfl) (ci := 5) (f := 9) (by rfl) (by decide +kernel) (by rfl) ?_
      refine zV1 (Z := Z) (Eq.trans (rcW_o (by first | decide | omega)) (Eq.trans (ui_o (by first | decide | omega)) (Eq.trans (ui_o (by first | decide | omega)) (hO1 _ _ (by omega)).1))) ?_
      rw [hdl]
      have hJ3 : Z 0 150 [(6, .int (((hnd (v1.1 * (bif decide ((nI u1) = (nI dl)) then (6 : Int32) else 4))) + (300 * (μ.1 0 11))) + ((μ.1 0 12) * 1000))), (5, .int ((hnd (v1.1 * (bif decide ((nI u1) = (nI dl)) then (6 : Int32) else 4))) + (300 * (μ.1 0 11)))), (4, .int (nI u1)), (3, .int 1), (2, .int (300 * (μ.1 0 11))), (1, .int 0), (0, .ref 0)] [.int (nB (decide ((nI u1) = (nI dl))))] (rcW (z_ui (z_ui W1 (18 + 8 * t) 4 ((μ.1 (18 + 8 * t) 4) - ((hnd (v1.1 * (bif decide ((nI u1) = (nI dl)) then (6 : Int32) else 4))) + (300 * (μ.1 0 11))))) (18 + 8 * u1) 4 ((μ.1 (18 + 8 * u1) 4) + (((hnd (v1.1 * (bif decide ((nI u1) = (nI dl)) then (6 : Int32) else 4))) + (300 * (μ.1 0 11))) + ((μ.1 0 12) * 1000)))) 0 (nI u1) (nI t) (((hnd (v1.1 * (bif decide ((nI u1) = (nI dl)) then (6 : Int32) else 4))) + (300 * (μ.1 0 11))) + ((μ.1 0 12) * 1000))) := by
        refine z_rcs0 hc hH 5 (pc' := 155) (lv' := [(2, .int 0), (1, .int (nB (decide ((nI u1) = (nI dl))))), (6, .int (((hnd (v1.1 * (bif decide ((nI u1) = (nI dl)) then (6 : Int32) else 4))) + (300 * (μ.1 0 11))) + ((μ.1 0 12) * 1000))), (5, .int ((hnd (v1.1 * (bif decide ((nI u1) = (nI dl)) then (6 : Int32) else 4))) + (300 * (μ.1 0 11)))), (4, .int (nI u1)), (3, .int 1), (0, .ref 0)]) (st' := [.int 0, .ref 0]) (by rfl) ?_
        refine zq_pfi hc hH (by rfl) (ci := 5) (f := 12) (by rfl) (by decide +kernel) (by rfl) ?_
        show Z 0 158 [(2, .int 0), (1, .int (nB (decide ((nI u1) = (nI dl))))), (6, .int (((hnd (v1.1 * (bif decide ((nI u1) = (nI dl)) then (6 : Int32) else 4))) + (300 * (μ.1 0 11))) + ((μ.1 0 12) * 1000))), (5, .int ((hnd (v1.1 * (bif decide ((nI u1) = (nI dl)) then (6 : Int32) else 4))) + (300 * (μ.1 0 11)))), (4, .int (nI u1)), (3, .int 1), (0, .ref 0)] [] (z_ui (rcW (z_ui (z_ui W1 (18 + 8 * t) 4 ((μ.1 (18 + 8 * t) 4) - ((hnd (v1.1 * (bif decide ((nI u1) = (nI dl)) then (6 : Int32) else 4))) + (300 * (μ.1 0 11))))) (18 + 8 * u1) 4 ((μ.1 (18 + 8 * u1) 4) + (((hnd (v1.1 * (bif decide ((nI u1) = (nI dl)) then (6 : Int32) else 4))) + (300 * (μ.1 0 11))) + ((μ.1 0 12) * 1000)))) 0 (nI u1) (nI t) (((hnd (v1.1 * (bif decide ((nI u1) = (nI dl)) then (6 : Int32) else 4))) + (300 * (μ.1 0 11))) + ((μ.1 0 12) * 1000))) 0 12 0)
        refine z_rcs0 hc hH 6 (pc' := 19) (lv' := [(3, .int 2), (2, .int 0), (1, .int (nB (decide ((nI u1) = (nI dl))))), (6, .int (((hnd (v1.1 * (bif decide ((nI u1) = (nI dl)) then (6 : Int32) else 4))) + (300 * (μ.1 0 11))) + ((μ.1 0 12) * 1000))), (5, .int ((hnd (v1.1 * (bif decide ((nI u1) = (nI dl)) then (6 : Int32) else 4))) + (300 * (μ.1 0 11)))), (4, .int (nI u1)), (0, .ref 0)]) (st' := [.ref 0]) (by rfl) ?_
        refine zq_gfi hc hH (by rfl) (ci := 5) (f := 8) (by rfl) (by decide +kernel) (by rfl) ?_
        refine zV1 (Z := Z) (Eq.trans (ui_k (by first | decide | omega)) (Eq.trans (rcW_o (by first | decide | omega)) (Eq.trans (ui_o (by first | decide | omega)) (Eq.trans (ui_o (by first | decide | omega)) (hO1 _ _ (by omega)).1)))) ?_
        rw [ht]
        refine z_rcs0 hc hH 2 (pc' := 24) (lv' := [(3, .int 2), (2, .int 0), (1, .int (nB (decide ((nI u1) = (nI dl))))), (6, .int (((hnd (v1.1 * (bif decide ((nI u1) = (nI dl)) then (6 : Int32) else 4))) + (300 * (μ.1 0 11))) + ((μ.1 0 12) * 1000))), (5, .int ((hnd (v1.1 * (bif decide ((nI u1) = (nI dl)) then (6 : Int32) else 4))) + (300 * (μ.1 0 11)))), (4, .int (nI u1)), (0, .ref 0)]) (st' := [.int ((nI t) + 2)]) (by rfl) ?_
        rw [show nI t + 2 = nI (t + 2) from by rw [show (2 : Int32) = nI 2 from rfl, nI_add]]
        refine z_rcs0 hc hH 2 (pc' := 26) (lv' := [(3, .int 2), (2, .int 0), (1, .int (nB (decide ((nI u1) = (nI dl))))), (6, .int (((hnd (v1.1 * (bif decide ((nI u1) = (nI dl)) then (6 : Int32) else 4))) + (300 * (μ.1 0 11))) + ((μ.1 0 12) * 1000))), (5, .int ((hnd (v1.1 * (bif decide ((nI u1) = (nI dl)) then (6 : Int32) else 4))) + (300 * (μ.1 0 11)))), (4, .int (nI u1)), (0, .ref 0)]) (st' := [.int ((nI (t + 2)) &&& 3)]) (by rfl) ?_
        rw [show nI (t + 2) &&& 3 = nI u2 from by rw [and3 (by omega), hu2]]
        refine z_rcs0 hc hH 3 (pc' := 31) (lv' := [(4, .int (nI u2)), (3, .int 2), (2, .int 0), (1, .int (nB (decide ((nI u1) = (nI dl))))), (6, .int (((hnd (v1.1 * (bif decide ((nI u1) = (nI dl)) then (6 : Int32) else 4))) + (300 * (μ.1 0 11))) + ((μ.1 0 12) * 1000))), (5, .int ((hnd (v1.1 * (bif decide ((nI u1) = (nI dl)) then (6 : Int32) else 4))) + (300 * (μ.1 0 11)))), (0, .ref 0)]) (st' := [.int (nI u2), .ref 0]) (by rfl) ?_
        refine zq_call hc (z_cx_ok hH (by rfl)) (gc_at4 d' (by omega) (z_ui (rcW (z_ui (z_ui W1 (18 + 8 * t) 4 ((μ.1 (18 + 8 * t) 4) - ((hnd (v1.1 * (bif decide ((nI u1) = (nI dl)) then (6 : Int32) else 4))) + (300 * (μ.1 0 11))))) (18 + 8 * u1) 4 ((μ.1 (18 + 8 * u1) 4) + (((hnd (v1.1 * (bif decide ((nI u1) = (nI dl)) then (6 : Int32) else 4))) + (300 * (μ.1 0 11))) + ((μ.1 0 12) * 1000)))) 0 (nI u1) (nI t) (((hnd (v1.1 * (bif decide ((nI u1) = (nI dl)) then (6 : Int32) else 4))) + (300 * (μ.1 0 11))) + ((μ.1 0 12) * 1000))) 0 12 0) u2 hu24) (by decide +kernel) (fun r9 μ9 hq => ?_)
        obtain ⟨hμ9, rfl⟩ := hq
        rw [hμ9]
        clear hμ9 μ9
        show Z 0 34 [(4, .int (nI u2)), (3, .int 2), (2, .int 0), (1, .int (nB (decide ((nI u1) = (nI dl))))), (6, .int (((hnd (v1.1 * (bif decide ((nI u1) = (nI dl)) then (6 : Int32) else 4))) + (300 * (μ.1 0 11))) + ((μ.1 0 12) * 1000))), (5, .int ((hnd (v1.1 * (bif decide ((nI u1) = (nI dl)) then (6 : Int32) else 4))) + (300 * (μ.1 0 11)))), (0, .ref 0)] [.ref (18 + 8 * u2)] _
        refine zq_gfi hc hH (by rfl) (ci := 1) (f := 9) (by rfl) (sj (P := fun i => okf 79 1 9 (18 + 8 * i)) hu24 (by decide +kernel)) (by rfl) ?_
        refine zV1 (Z := Z) (Eq.trans (ui_o (by first | decide | omega)) (Eq.trans (rcW_o (by first | decide | omega)) (Eq.trans (ui_o (by first | decide | omega)) (Eq.trans (ui_o (by first | decide | omega)) (hO1 _ _ (by omega)).1)))) ?_
        refine zq_if hc hH (by rfl) (tg := 43) (by rfl) (fun h4 => ?_) (fun h4 => ?_)
        · have h4 : (decide ((μ.1 (18 + 8 * u2) 9) = 0)) = false := decide_eq_false (cm_ne.mp h4)
          exact absurd (Eq.trans (Eq.symm (hs2)) h4) (by decide)
        · have h4 : (decide ((μ.1 (18 + 8 * u2) 9) = 0)) = true := decide_eq_true (cn_ne.mp h4)
          refine z_rcs0 hc hH 7 (pc' := 19) (lv' := [(3, .int 3), (4, .int (nI u2)), (2, .int 0), (1, .int (nB (decide ((nI u1) = (nI dl))))), (6, .int (((hnd (v1.1 * (bif decide ((nI u1) = (nI dl)) then (6 : Int32) else 4))) + (300 * (μ.1 0 11))) + ((μ.1 0 12) * 1000))), (5, .int ((hnd (v1.1 * (bif decide ((nI u1) = (nI dl)) then (6 : Int32) else 4))) + (300 * (μ.1 0 11)))), (0, .ref 0)]) (st' := [.ref 0]) (by rfl) ?_
          refine zq_gfi hc hH (by rfl) (ci := 5) (f := 8) (by rfl) (by decide +kernel) (by rfl) ?_
          refine zV1 (Z := Z) (Eq.trans (ui_k (by first | decide | omega)) (Eq.trans (rcW_o (by first | decide | omega)) (Eq.trans (ui_o (by first | decide | omega)) (Eq.trans (ui_o (by first | decide | omega)) (hO1 _ _ (by omega)).1)))) ?_
          rw [ht]
          refine z_rcs0 hc hH 2 (pc' := 24) (lv' := [(3, .int 3), (4, .int (nI u2)), (2, .int 0), (1, .int (nB (decide ((nI u1) = (nI dl))))), (6, .int (((hnd (v1.1 * (bif decide ((nI u1) = (nI dl)) then (6 : Int32) else 4))) + (300 * (μ.1 0 11))) + ((μ.1 0 12) * 1000))), (5, .int ((hnd (v1.1 * (bif decide ((nI u1) = (nI dl)) then (6 : Int32) else 4))) + (300 * (μ.1 0 11)))), (0, .ref 0)]) (st' := [.int ((nI t) + 3)]) (by rfl) ?_
          rw [show nI t + 3 = nI (t + 3) from by rw [show (3 : Int32) = nI 3 from rfl, nI_add]]
          refine z_rcs0 hc hH 2 (pc' := 26) (lv' := [(3, .int 3), (4, .int (nI u2)), (2, .int 0), (1, .int (nB (decide ((nI u1) = (nI dl))))), (6, .int (((hnd (v1.1 * (bif decide ((nI u1) = (nI dl)) then (6 : Int32) else 4))) + (300 * (μ.1 0 11))) + ((μ.1 0 12) * 1000))), (5, .int ((hnd (v1.1 * (bif decide ((nI u1) = (nI dl)) then (6 : Int32) else 4))) + (300 * (μ.1 0 11)))), (0, .ref 0)]) (st' := [.int ((nI (t + 3)) &&& 3)]) (by rfl) ?_
          rw [show nI (t + 3) &&& 3 = nI u3 from by rw [and3 (by omega), hu3]]
          refine z_rcs0 hc hH 3 (pc' := 31) (lv' := [(4, .int (nI u3)), (3, .int 3), (2, .int 0), (1, .int (nB (decide ((nI u1) = (nI dl))))), (6, .int (((hnd (v1.1 * (bif decide ((nI u1) = (nI dl)) then (6 : Int32) else 4))) + (300 * (μ.1 0 11))) + ((μ.1 0 12) * 1000))), (5, .int ((hnd (v1.1 * (bif decide ((nI u1) = (nI dl)) then (6 : Int32) else 4))) + (300 * (μ.1 0 11)))), (0, .ref 0)]) (st' := [.int (nI u3), .ref 0]) (by rfl) ?_
          refine zq_call hc (z_cx_ok hH (by rfl)) (gc_at4 d' (by omega) (z_ui (rcW (z_ui (z_ui W1 (18 + 8 * t) 4 ((μ.1 (18 + 8 * t) 4) - ((hnd (v1.1 * (bif decide ((nI u1) = (nI dl)) then (6 : Int32) else 4))) + (300 * (μ.1 0 11))))) (18 + 8 * u1) 4 ((μ.1 (18 + 8 * u1) 4) + (((hnd (v1.1 * (bif decide ((nI u1) = (nI dl)) then (6 : Int32) else 4))) + (300 * (μ.1 0 11))) + ((μ.1 0 12) * 1000)))) 0 (nI u1) (nI t) (((hnd (v1.1 * (bif decide ((nI u1) = (nI dl)) then (6 : Int32) else 4))) + (300 * (μ.1 0 11))) + ((μ.1 0 12) * 1000))) 0 12 0) u3 hu34) (by decide +kernel) (fun r9 μ9 hq => ?_)
          obtain ⟨hμ9, rfl⟩ := hq
          rw [hμ9]
          clear hμ9 μ9
          show Z 0 34 [(4, .int (nI u3)), (3, .int 3), (2, .int 0), (1, .int (nB (decide ((nI u1) = (nI dl))))), (6, .int (((hnd (v1.1 * (bif decide ((nI u1) = (nI dl)) then (6 : Int32) else 4))) + (300 * (μ.1 0 11))) + ((μ.1 0 12) * 1000))), (5, .int ((hnd (v1.1 * (bif decide ((nI u1) = (nI dl)) then (6 : Int32) else 4))) + (300 * (μ.1 0 11)))), (0, .ref 0)] [.ref (18 + 8 * u3)] _
          refine zq_gfi hc hH (by rfl) (ci := 1) (f := 9) (by rfl) (sj (P := fun i => okf 79 1 9 (18 + 8 * i)) hu34 (by decide +kernel)) (by rfl) ?_
          refine zV1 (Z := Z) (Eq.trans (ui_o (by first | decide | omega)) (Eq.trans (rcW_o (by first | decide | omega)) (Eq.trans (ui_o (by first | decide | omega)) (Eq.trans (ui_o (by first | decide | omega)) (hO1 _ _ (by omega)).1)))) ?_
          refine zq_if hc hH (by rfl) (tg := 43) (by rfl) (fun h5 => ?_) (fun h5 => ?_)
          · have h5 : (decide ((μ.1 (18 + 8 * u3) 9) = 0)) = false := decide_eq_false (cm_ne.mp h5)
            exact absurd (Eq.trans (Eq.symm (hs3)) h5) (by decide)
          · have h5 : (decide ((μ.1 (18 + 8 * u3) 9) = 0)) = true := decide_eq_true (cn_ne.mp h5)
            refine z_rcs0 hc hH 9 (pc' := 167) (lv' := [(3, .int 4), (4, .int (nI u3)), (2, .int 0), (1, .int (nB (decide ((nI u1) = (nI dl))))), (6, .int (((hnd (v1.1 * (bif decide ((nI u1) = (nI dl)) then (6 : Int32) else 4))) + (300 * (μ.1 0 11))) + ((μ.1 0 12) * 1000))), (5, .int ((hnd (v1.1 * (bif decide ((nI u1) = (nI dl)) then (6 : Int32) else 4))) + (300 * (μ.1 0 11)))), (0, .ref 0)]) (st' := [.int (nB (decide ((nI u1) = (nI dl)))), .int (nB (decide ((nI u1) = (nI dl)))), .ref 0]) (by rfl) ?_
            have hJ6 : Z 0 175 [(3, .int 4), (4, .int (nI u3)), (2, .int 0), (1, .int (nB (decide ((nI u1) = (nI dl))))), (6, .int (((hnd (v1.1 * (bif decide ((nI u1) = (nI dl)) then (6 : Int32) else 4))) + (300 * (μ.1 0 11))) + ((μ.1 0 12) * 1000))), (5, .int ((hnd (v1.1 * (bif decide ((nI u1) = (nI dl)) then (6 : Int32) else 4))) + (300 * (μ.1 0 11)))), (0, .ref 0)] [.int (nB (!(decide ((nI u1) = (nI dl))))), .int (nB (decide ((nI u1) = (nI dl)))), .ref 0] (z_ui (rcW (z_ui (z_ui W1 (18 + 8 * t) 4 ((μ.1 (18 + 8 * t) 4) - ((hnd (v1.1 * (bif decide ((nI u1) = (nI dl)) then (6 : Int32) else 4))) + (300 * (μ.1 0 11))))) (18 + 8 * u1) 4 ((μ.1 (18 + 8 * u1) 4) + (((hnd (v1.1 * (bif decide ((nI u1) = (nI dl)) then (6 : Int32) else 4))) + (300 * (μ.1 0 11))) + ((μ.1 0 12) * 1000)))) 0 (nI u1) (nI t) (((hnd (v1.1 * (bif decide ((nI u1) = (nI dl)) then (6 : Int32) else 4))) + (300 * (μ.1 0 11))) + ((μ.1 0 12) * 1000))) 0 12 0) := by
              refine zq_call hc (z_cx_ok hH (by rfl)) (gc_endHandB d' (by omega) (z_ui (rcW (z_ui (z_ui W1 (18 + 8 * t) 4 ((μ.1 (18 + 8 * t) 4) - ((hnd (v1.1 * (bif decide ((nI u1) = (nI dl)) then (6 : Int32) else 4))) + (300 * (μ.1 0 11))))) (18 + 8 * u1) 4 ((μ.1 (18 + 8 * u1) 4) + (((hnd (v1.1 * (bif decide ((nI u1) = (nI dl)) then (6 : Int32) else 4))) + (300 * (μ.1 0 11))) + ((μ.1 0 12) * 1000)))) 0 (nI u1) (nI t) (((hnd (v1.1 * (bif decide ((nI u1) = (nI dl)) then (6 : Int32) else 4))) + (300 * (μ.1 0 11))) + ((μ.1 0 12) * 1000))) 0 12 0) (decide ((nI u1) = (nI dl))) (!(decide ((nI u1) = (nI dl)))) dl e (by rw [ui_k (by first | decide | omega), rcW_o (by first | decide | omega), ui_o (by first | decide | omega), ui_o (by first | decide | omega), (hO1 _ _ (by omega)).1]; exact hdl) hdl4 he) (by decide +kernel) (fun r9 μ9 hq => ?_)
              obtain ⟨rfl, rfl⟩ := hq
              show Z 0 178 [(3, .int 4), (4, .int (nI u3)), (2, .int 0), (1, .int (nB (decide ((nI u1) = (nI dl))))), (6, .int (((hnd (v1.1 * (bif decide ((nI u1) = (nI dl)) then (6 : Int32) else 4))) + (300 * (μ.1 0 11))) + ((μ.1 0 12) * 1000))), (5, .int ((hnd (v1.1 * (bif decide ((nI u1) = (nI dl)) then (6 : Int32) else 4))) + (300 * (μ.1 0 11)))), (0, .ref 0)] [] (eHB (z_ui (rcW (z_ui (z_ui W1 (18 + 8 * t) 4 ((μ.1 (18 + 8 * t) 4) - ((hnd (v1.1 * (bif decide ((nI u1) = (nI dl)) then (6 : Int32) else 4))) + (300 * (μ.1 0 11))))) (18 + 8 * u1) 4 ((μ.1 (18 + 8 * u1) 4) + (((hnd (v1.1 * (bif decide ((nI u1) = (nI dl)) then (6 : Int32) else 4))) + (300 * (μ.1 0 11))) + ((μ.1 0 12) * 1000)))) 0 (nI u1) (nI t) (((hnd (v1.1 * (bif decide ((nI u1) = (nI dl)) then (6 : Int32) else 4))) + (300 * (μ.1 0 11))) + ((μ.1 0 12) * 1000))) 0 12 0) (decide ((nI u1) = (nI dl))) (!(decide ((nI u1) = (nI dl)))) (xBk (z_ui (rcW (z_ui (z_ui W1 (18 + 8 * t) 4 ((μ.1 (18 + 8 * t) 4) - ((hnd (v1.1 * (bif decide ((nI u1) = (nI dl)) then (6 : Int32) else 4))) + (300 * (μ.1 0 11))))) (18 + 8 * u1) 4 ((μ.1 (18 + 8 * u1) 4) + (((hnd (v1.1 * (bif decide ((nI u1) = (nI dl)) then (6 : Int32) else 4))) + (300 * (μ.1 0 11))) + ((μ.1 0 12) * 1000)))) 0 (nI u1) (nI t) (((hnd (v1.1 * (bif decide ((nI u1) = (nI dl)) then (6 : Int32) else 4))) + (300 * (μ.1 0 11))) + ((μ.1 0 12) * 1000))) 0 12 0)) dl e (rcM (z_ui (rcW (z_ui (z_ui W1 (18 + 8 * t) 4 ((μ.1 (18 + 8 * t) 4) - ((hnd (v1.1 * (bif decide ((nI u1) = (nI dl)) then (6 : Int32) else 4))) + (300 * (μ.1 0 11))))) (18 + 8 * u1) 4 ((μ.1 (18 + 8 * u1) 4) + (((hnd (v1.1 * (bif decide ((nI u1) = (nI dl)) then (6 : Int32) else 4))) + (300 * (μ.1 0 11))) + ((μ.1 0 12) * 1000)))) 0 (nI u1) (nI t) (((hnd (v1.1 * (bif decide ((nI u1) = (nI dl)) then (6 : Int32) else 4))) + (300 * (μ.1 0 11))) + ((μ.1 0 12) * 1000))) 0 12 0)))
              exact hr 0 178 _ _ _ none (by decide +kernel) (by rfl) (⟨rfl, v1, W1, hB1, hv1, hO1, rfl⟩)
            refine zq_if hc hH (by rfl) (tg := 174) (by rfl) (fun h7 => ?_) (fun h7 => ?_)
            · have h7 : (decide ((nI u1) = (nI dl))) = true := nB_n.mp (cm_ne.mp h7)
              refine z_rcs hc hH 1 (pc' := 175) (lv' := [(3, .int 4), (4, .int (nI u3)), (2, .int 0), (1, .int (nB (decide ((nI u1) = (nI dl))))), (6, .int (((hnd (v1.1 * (bif decide ((nI u1) = (nI dl)) then (6 : Int32) else 4))) + (300 * (μ.1 0 11))) + ((μ.1 0 12) * 1000))), (5, .int ((hnd (v1.1 * (bif decide ((nI u1) = (nI dl)) then (6 : Int32) else 4))) + (300 * (μ.1 0 11)))), (0, .ref 0)]) (st' := [.int 0, .int (nB (decide ((nI u1) = (nI dl)))), .ref 0]) (μ' := z_ui (rcW (z_ui (z_ui W1 (18 + 8 * t) 4 ((μ.1 (18 + 8 * t) 4) - ((hnd (v1.1 * (bif decide ((nI u1) = (nI dl)) then (6 : Int32) else 4))) + (300 * (μ.1 0 11))))) (18 + 8 * u1) 4 ((μ.1 (18 + 8 * u1) 4) + (((hnd (v1.1 * (bif decide ((nI u1) = (nI dl)) then (6 : Int32) else 4))) + (300 * (μ.1 0 11))) + ((μ.1 0 12) * 1000)))) 0 (nI u1) (nI t) (((hnd (v1.1 * (bif decide ((nI u1) = (nI dl)) then (6 : Int32) else 4))) + (300 * (μ.1 0 11))) + ((μ.1 0 12) * 1000))) 0 12 0) (by rfl) ?_
              exact zJ hJ6 rfl (by first | with_reducible rfl | (simp only [h7, lb_f, Int64.or_zero, Int32.add_zero, nB_t, nB_f, Bool.not_true, Bool.not_false, Bool.and_true, Bool.true_and, Bool.false_and, Bool.and_false, Bool.or_true, Bool.true_or, Bool.false_or, Bool.or_false, cond_true, cond_false]; done) | rfl) rfl
            · have h7 : (decide ((nI u1) = (nI dl))) = false := nB_z.mp (cn_ne.mp h7)
              refine z_rcs0 hc hH 2 (pc' := 175) (lv' := [(3, .int 4), (4, .int (nI u3)), (2, .int 0), (1, .int (nB (decide ((nI u1) = (nI dl))))), (6, .int (((hnd (v1.1 * (bif decide ((nI u1) = (nI dl)) then (6 : Int32) else 4))) + (300 * (μ.1 0 11))) + ((μ.1 0 12) * 1000))), (5, .int ((hnd (v1.1 * (bif decide ((nI u1) = (nI dl)) then (6 : Int32) else 4))) + (300 * (μ.1 0 11)))), (0, .ref 0)]) (st' := [.int 1, .int (nB (decide ((nI u1) = (nI dl)))), .ref 0]) (by rfl) ?_
              exact zJ hJ6 rfl (by first | with_reducible rfl | (simp only [h7, lb_f, Int64.or_zero, Int32.add_zero, nB_t, nB_f, Bool.not_true, Bool.not_false, Bool.and_true, Bool.true_and, Bool.false_and, Bool.and_false, Bool.or_true, Bool.true_or, Bool.false_or, Bool.or_false, cond_true, cond_false]; done) | rfl) rfl
      refine zq_ic hc hH (by rfl) (tg := 149) (by rfl) (fun h8 => ?_) (fun h8 => ?_)
      · have h8 : (decide ((nI u1) = (nI dl))) = false := decide_eq_false (cm_ne.mp h8)
        refine z_rcs hc hH 1 (pc' := 150) (lv' := [(6, .int (((hnd (v1.1 * (bif decide ((nI u1) = (nI dl)) then (6 : Int32) else 4))) + (300 * (μ.1 0 11))) + ((μ.1 0 12) * 1000))), (5, .int ((hnd (v1.1 * (bif decide ((nI u1) = (nI dl)) then (6 : Int32) else 4))) + (300 * (μ.1 0 11)))), (4, .int (nI u1)), (3, .int 1), (2, .int (300 * (μ.1 0 11))), (1, .int 0), (0, .ref 0)]) (st' := [.int 0]) (μ' := rcW (z_ui (z_ui W1 (18 + 8 * t) 4 ((μ.1 (18 + 8 * t) 4) - ((hnd (v1.1 * (bif decide ((nI u1) = (nI dl)) then (6 : Int32) else 4))) + (300 * (μ.1 0 11))))) (18 + 8 * u1) 4 ((μ.1 (18 + 8 * u1) 4) + (((hnd (v1.1 * (bif decide ((nI u1) = (nI dl)) then (6 : Int32) else 4))) + (300 * (μ.1 0 11))) + ((μ.1 0 12) * 1000)))) 0 (nI u1) (nI t) (((hnd (v1.1 * (bif decide ((nI u1) = (nI dl)) then (6 : Int32) else 4))) + (300 * (μ.1 0 11))) + ((μ.1 0 12) * 1000))) (by rfl) ?_
        exact zJ hJ3 rfl (by first | with_reducible rfl | (simp only [h8, lb_f, Int64.or_zero, Int32.add_zero, nB_t, nB_f, Bool.not_true, Bool.not_false, Bool.and_true, Bool.true_and, Bool.false_and, Bool.and_false, Bool.or_true, Bool.true_or, Bool.false_or, Bool.or_false, cond_true, cond_false]; done) | rfl) rfl
      · have h8 : (decide ((nI u1) = (nI dl))) = true := decide_eq_true (cn_ne.mp h8)
        refine z_rcs0 hc hH 2 (pc' := 150) (lv' := [(6, .int (((hnd (v1.1 * (bif decide ((nI u1) = (nI dl)) then (6 : Int32) else 4))) + (300 * (μ.1 0 11))) + ((μ.1 0 12) * 1000))), (5, .int ((hnd (v1.1 * (bif decide ((nI u1) = (nI dl)) then (6 : Int32) else 4))) + (300 * (μ.1 0 11)))), (4, .int (nI u1)), (3, .int 1), (2, .int (300 * (μ.1 0 11))), (1, .int 0), (0, .ref 0)]) (st' := [.int 1]) (by rfl) ?_
        exact zJ hJ3 rfl (by first | with_reducible rfl | (simp only [h8, lb_f, Int64.or_zero, Int32.add_zero, nB_t, nB_f, Bool.not_true, Bool.not_false, Bool.and_true, Bool.true_and, Bool.false_and, Bool.and_false, Bool.or_true, Bool.true_or, Bool.false_or, Bool.or_false, cond_true, cond_false]; done) | rfl) rfl
    refine zq_ic hc hH (by rfl) (tg := 64) (by rfl) (fun h9 => ?_) (fun h9 => ?_)
    · have h9 : (decide ((nI u1) = (nI dl))) = false := decide_eq_false (cm_ne.mp h9)
      refine z_rcs hc hH 1 (pc' := 65) (lv' := [(4, .int (nI u1)), (3, .int 1), (2, .int (300 * (μ.1 0 11))), (1, .int 0), (0, .ref 0)]) (st' := [.int 4, .int v1.1]) (μ' := W1) (by rfl) ?_
      exact zJ hJ2 rfl (by first | with_reducible rfl | (simp only [h9, lb_f, Int64.or_zero, Int32.add_zero, nB_t, nB_f, Bool.not_true, Bool.not_false, Bool.and_true, Bool.true_and, Bool.false_and, Bool.and_false, Bool.or_true, Bool.true_or, Bool.false_or, Bool.or_false, cond_true, cond_false]; done) | rfl) rfl
    · have h9 : (decide ((nI u1) = (nI dl))) = true := decide_eq_true (cn_ne.mp h9)
      refine z_rcs hc hH 2 (pc' := 65) (lv' := [(4, .int (nI u1)), (3, .int 1), (2, .int (300 * (μ.1 0 11))), (1, .int 0), (0, .ref 0)]) (st' := [.int 6, .int v1.1]) (μ' := W1) (by rfl) ?_
      exact zJ hJ2 rfl (by first | with_reducible rfl | (simp only [h9, lb_f, Int64.or_zero, Int32.add_zero, nB_t, nB_f, Bool.not_true, Bool.not_false, Bool.and_true, Bool.true_and, Bool.false_and, Bool.and_false, Bool.or_true, Bool.true_or, Bool.false_or, Bool.or_false, cond_true, cond_false]; done) | rfl) rfl
  · have h1 : (decide ((μ.1 (18 + 8 * u1) 9) = 0)) = true := decide_eq_true (cn_ne.mp h1)
    exact absurd (Eq.trans (Eq.symm (hs1)) h1) (by decide)
noncomputable def wA101 (W3 : zM) (t dl e u1 u2 u3 : Nat) (v1 v3 : Q4) (μ : zM) : zM := eHB (z_ui (rcW (z_ui (z_ui W3 (18 + 8 * t) 4 (((μ.1 (18 + 8 * t) 4) - ((hnd (v1.1 * (bif decide ((nI u1) = (nI dl)) then (6 : Int32) else 4))) + (300 * (μ.1 0 11)))) - ((hnd (v3.1 * (bif decide ((nI u3) = (nI dl)) then (6 : Int32) else 4))) + 0))) (18 + 8 * u3) 4 ((μ.1 (18 + 8 * u3) 4) + (((hnd (v3.1 * (bif decide ((nI u3) = (nI dl)) then (6 : Int32) else 4))) + 0) + 0))) 1 (nI u3) (nI t) (((hnd (v3.1 * (bif decide ((nI u3) = (nI dl)) then (6 : Int32) else 4))) + 0) + 0)) 0 12 0) ((decide ((nI u1) = (nI dl))) || (decide ((nI u3) = (nI dl)))) (!((decide ((nI u1) = (nI dl))) || (decide ((nI u3) = (nI dl))))) (xBk (z_ui (rcW (z_ui (z_ui W3 (18 + 8 * t) 4 (((μ.1 (18 + 8 * t) 4) - ((hnd (v1.1 * (bif decide ((nI u1) = (nI dl)) then (6 : Int32) else 4))) + (300 * (μ.1 0 11)))) - ((hnd (v3.1 * (bif decide ((nI u3) = (nI dl)) then (6 : Int32) else 4))) + 0))) (18 + 8 * u3) 4 ((μ.1 (18 + 8 * u3) 4) + (((hnd (v3.1 * (bif decide ((nI u3) = (nI dl)) then (6 : Int32) else 4))) + 0) + 0))) 1 (nI u3) (nI t) (((hnd (v3.1 * (bif decide ((nI u3) = (nI dl)) then (6 : Int32) else 4))) + 0) + 0)) 0 12 0)) dl e (rcM (z_ui (rcW (z_ui (z_ui W3 (18 + 8 * t) 4 (((μ.1 (18 + 8 * t) 4) - ((hnd (v1.1 * (bif decide ((nI u1) = (nI dl)) then (6 : Int32) else 4))) + (300 * (μ.1 0 11)))) - ((hnd (v3.1 * (bif decide ((nI u3) = (nI dl)) then (6 : Int32) else 4))) + 0))) (18 + 8 * u3) 4 ((μ.1 (18 + 8 * u3) 4) + (((hnd (v3.1 * (bif decide ((nI u3) = (nI dl)) then (6 : Int32) else 4))) + 0) + 0))) 1 (nI u3) (nI t) (((hnd (v3.1 * (bif decide ((nI u3) = (nI dl)) then (6 : Int32) else 4))) + 0) + 0)) 0 12 0))
theorem gc_winByTile101 (d : Nat) (hd : 11 ≤ d) (μ : zM) (t c u1 u2 u3 : Nat) (ht4 : t < 4) (ht : μ.1 0 8 = nI t) (hu1 : (t + 1) % 4 = u1) (hu14 : u1 < 4) (hu2 : (t + 2) % 4 = u2) (hu24 : u2 < 4) (hu3 : (t + 3) % 4 = u3) (hu34 : u3 < 4) (dl e : Nat) (hdl : μ.1 0 9 = nI dl) (hdl4 : dl < 4) (he : (dl + 1) % 4 = e) (h06 : μ.1 0 6 = nI 0) (hA0 : a_H μ) (hs1 : decide (μ.1 (18 + 8 * u1) 9 = 0) = false) (hs2 : decide (μ.1 (18 + 8 * u2) 9 = 0) = true) (hs3 : decide (μ.1 (18 + 8 * u3) 9 = 0) = false) (B1 : Q4 → Prop) (hwg1 : ∀ M, WE μ M → a_H M → ∀ d, 10 ≤ d → z_C d mi_X6_weighHand [.ref 0, .int (nI u1), .int 0] M (fun r W => ∃ v, B1 v ∧ r = some (.int v.1) ∧ WOj M W ∧ bqJ W = v ∧ a_H W)) (B3 : Q4 → Prop) (hwg3 : ∀ M, WE μ M → a_H M → ∀ d, 10 ≤ d → z_C d mi_X6_weighHand [.ref 0, .int (nI u3), .int 0] M (fun r W => ∃ v, B3 v ∧ r = some (.int v.1) ∧ WOj M W ∧ bqJ W = v ∧ a_H W)) : z_C d mi_X6_winByTile [.ref 0] μ (fun r μ' => r = none ∧ ∃ v1 W1 v3 W3, B1 v1 ∧ bqJ W1 = v1 ∧ WOj μ W1 ∧ B3 v3 ∧ bqJ W3 = v3 ∧ WOj (z_ui (rcW (z_ui (z_ui W1 (18 + 8 * t) 4 ((μ.1 (18 + 8 * t) 4) - ((hnd (v1.1 * (bif decide ((nI u1) = (nI dl)) then (6 : Int32) else 4))) + (300 * (μ.1 0 11))))) (18 + 8 * u1) 4 ((μ.1 (18 + 8 * u1) 4) + (((hnd (v1.1 * (bif decide ((nI u1) = (nI dl)) then (6 : Int32) else 4))) + (300 * (μ.1 0 11))) + ((μ.1 0 12) * 1000)))) 0 (nI u1) (nI t) (((hnd (v1.1 * (bif decide ((nI u1) = (nI dl)) then (6 : Int32) else 4))) + (300 * (μ.1 0 11))) + ((μ.1 0 12) * 1000))) 0 12 0) W3 ∧ μ' = wA101 W3 t dl e u1 u2 u3 v1 v3 μ) := by
  refine z_C_in (by decide) (by omega) (fun d' Z ed hc hr => ?_)
  have hH : zH mi_X6_winByTile zt_X6_winByTile 79 6 7 := hh_X6_winByTile
  refine z_rcs hc hH 4 (pc' := 6) (lv' := [(1, .int 0), (0, .ref 0)]) (st' := [.ref 0, .int 300]) (μ' := μ) (by rfl) ?_
  refine zq_gfi hc hH (by rfl) (ci := 5) (f := 11) (by rfl) (by decide +kernel) (by rfl) ?_
  refine z_rcs hc hH 8 (pc' := 19) (lv' := [(3, .int 1), (2, .int (300 * (μ.1 0 11))), (1, .int 0), (0, .ref 0)]) (st' := [.ref 0]) (μ' := μ) (by rfl) ?_
  refine zq_gfi hc hH (by rfl) (ci := 5) (f := 8) (by rfl) (by decide +kernel) (by rfl) ?_
  rw [ht]
  refine z_rcs hc hH 2 (pc' := 24) (lv' := [(3, .int 1), (2, .int (300 * (μ.1 0 11))), (1, .int 0), (0, .ref 0)]) (st' := [.int ((nI t) + 1)]) (μ' := μ) (by rfl) ?_
  rw [show nI t + 1 = nI (t + 1) from by rw [show (1 : Int32) = nI 1 from rfl, nI_add]]
  refine z_rcs hc hH 2 (pc' := 26) (lv' := [(3, .int 1), (2, .int (300 * (μ.1 0 11))), (1, .int 0), (0, .ref 0)]) (st' := [.int ((nI (t + 1)) &&& 3)]) (μ' := μ) (by rfl) ?_
  rw [show nI (t + 1) &&& 3 = nI u1 from by rw [and3 (by omega), hu1]]
  refine z_rcs hc hH 3 (pc' := 31) (lv' := [(4, .int (nI u1)), (3, .int 1), (2, .int (300 * (μ.1 0 11))), (1, .int 0), (0, .ref 0)]) (st' := [.int (nI u1), .ref 0]) (μ' := μ) (by rfl) ?_
  refine zq_call hc (z_cx_ok hH (by rfl)) (gc_at4 d' (by omega) μ u1 hu14) (by decide +kernel) (fun r9 μ9 hq => ?_)
  obtain ⟨hμ9, rfl⟩ := hq
  rw [hμ9]
  clear hμ9 μ9
  show Z 0 34 [(4, .int (nI u1)), (3, .int 1), (2, .int (300 * (μ.1 0 11))), (1, .int 0), (0, .ref 0)] [.ref (18 + 8 * u1)] μ
  refine zq_gfi hc hH (by rfl) (ci := 1) (f := 9) (by rfl) (sj (P := fun i => okf 79 1 9 (18 + 8 * i)) hu14 (by decide +kernel)) (by rfl) ?_
  refine zq_if hc hH (by rfl) (tg := 43) (by rfl) (fun h1 => ?_) (fun h1 => ?_)
  · have h1 : (decide ((μ.1 (18 + 8 * u1) 9) = 0)) = false := decide_eq_false (cm_ne.mp h1)
    refine z_rcs hc hH 3 (pc' := 47) (lv' := [(4, .int (nI u1)), (3, .int 1), (2, .int (300 * (μ.1 0 11))), (1, .int 0), (0, .ref 0)]) (st' := [.int 0, .int (nI u1), .ref 0]) (μ' := μ) (by rfl) ?_
    refine zq_call hc (z_cx_ok hH (by rfl)) (hwg1 _ (WE_rf _) (hA0) d' (by omega)) (by decide +kernel) (fun r9 W1 hq => ?_)
    obtain ⟨v1, hB1, rfl, hO1, hv1, hA1⟩ := hq
    show Z 0 50 [(4, .int (nI u1)), (3, .int 1), (2, .int (300 * (μ.1 0 11))), (1, .int 0), (0, .ref 0)] [.int v1.1] W1
    refine z_rcs hc hH 2 (pc' := 53) (lv' := [(4, .int (nI u1)), (3, .int 1), (2, .int (300 * (μ.1 0 11))), (1, .int 0), (0, .ref 0)]) (st' := [.ref 0, .int (nI u1), .int v1.1]) (μ' := W1) (by rfl) ?_
    refine zq_gfi hc hH (by rfl) (ci := 5) (f := 9) (by rfl) (by decide +kernel) (by rfl) ?_
    rw [(hO1 _ _ (by omega)).1]
    rw [hdl]
    have hJ2 : Z 0 65 [(4, .int (nI u1)), (3, .int 1), (2, .int (300 * (μ.1 0 11))), (1, .int 0), (0, .ref 0)] [.int (bif decide ((nI u1) = (nI dl)) then (6 : Int32) else 4), .int v1.1] W1 := by
      refine z_rcs hc hH 1 (pc' := 66) (lv' := [(4, .int (nI u1)), (3, .int 1), (2, .int (300 * (μ.1 0 11))), (1, .int 0), (0, .ref 0)]) (st' := [.int (v1.1 * (bif decide ((nI u1) = (nI dl)) then (6 : Int32) else 4))]) (μ' := W1) (by rfl) ?_
      refine zq_call hc (z_cx_ok hH (by rfl)) (gc_hundreds d' (by omega) W1 (v1.1 * (bif decide ((nI u1) = (nI dl)) then (6 : Int32) else 4))) (by decide +kernel) (fun r9 μ9 hq => ?_)
      obtain ⟨hμ9, rfl⟩ := hq
      rw [hμ9]
      clear hμ9 μ9
      show Z 0 69 [(4, .int (nI u1)), (3, .int 1), (2, .int (300 * (μ.1 0 11))), (1, .int 0), (0, .ref 0)] [.int (hnd (v1.1 * (bif decide ((nI u1) = (nI dl)) then (6 : Int32) else 4)))] W1
      refine z_rcs hc hH 5 (pc' := 76) (lv' := [(5, .int ((hnd (v1.1 * (bif decide ((nI u1) = (nI dl)) then (6 : Int32) else 4))) + (300 * (μ.1 0 11)))), (4, .int (nI u1)), (3, .int 1), (2, .int (300 * (μ.1 0 11))), (1, .int 0), (0, .ref 0)]) (st' := [.ref 0, .int ((hnd (v1.1 * (bif decide ((nI u1) = (nI dl)) then (6 : Int32) else 4))) + (300 * (μ.1 0 11)))]) (μ' := W1) (by rfl) ?_
      refine zq_gfi hc hH (by rfl) (ci := 5) (f := 12) (by rfl) (by decide +kernel) (by rfl) ?_
      rw [(hO1 _ _ (by omega)).1]
      refine z_rcs hc hH 6 (pc' := 88) (lv' := [(6, .int (((hnd (v1.1 * (bif decide ((nI u1) = (nI dl)) then (6 : Int32) else 4))) + (300 * (μ.1 0 11))) + ((μ.1 0 12) * 1000))), (5, .int ((hnd (v1.1 * (bif decide ((nI u1) = (nI dl)) then (6 : Int32) else 4))) + (300 * (μ.1 0 11)))), (4, .int (nI u1)), (3, .int 1), (2, .int (300 * (μ.1 0 11))), (1, .int 0), (0, .ref 0)]) (st' := [.ref 0, .ref 0]) (μ' := W1) (by rfl) ?_
      refine zq_gfi hc hH (by rfl) (ci := 5) (f := 8) (by rfl) (by decide +kernel) (by rfl) ?_
      rw [(hO1 _ _ (by omega)).1]
      rw [ht]
      refine zq_call hc (z_cx_ok hH (by rfl)) (gc_at4 d' (by omega) W1 t ht4) (by decide +kernel) (fun r9 μ9 hq => ?_)
      obtain ⟨hμ9, rfl⟩ := hq
      rw [hμ9]
      clear hμ9 μ9
      show Z 0 94 [(6, .int (((hnd (v1.1 * (bif decide ((nI u1) = (nI dl)) then (6 : Int32) else 4))) + (300 * (μ.1 0 11))) + ((μ.1 0 12) * 1000))), (5, .int ((hnd (v1.1 * (bif decide ((nI u1) = (nI dl)) then (6 : Int32) else 4))) + (300 * (μ.1 0 11)))), (4, .int (nI u1)), (3, .int 1), (2, .int (300 * (μ.1 0 11))), (1, .int 0), (0, .ref 0)] [.ref (18 + 8 * t)] W1
      refine z_rcs hc hH 1 (pc' := 95) (lv' := [(6, .int (((hnd (v1.1 * (bif decide ((nI u1) = (nI dl)) then (6 : Int32) else 4))) + (300 * (μ.1 0 11))) + ((μ.1 0 12) * 1000))), (5, .int ((hnd (v1.1 * (bif decide ((nI u1) = (nI dl)) then (6 : Int32) else 4))) + (300 * (μ.1 0 11)))), (4, .int (nI u1)), (3, .int 1), (2, .int (300 * (μ.1 0 11))), (1, .int 0), (0, .ref 0)]) (st' := [.ref (18 + 8 * t), .ref (18 + 8 * t)]) (μ' := W1) (by rfl) ?_
      refine zq_gfi hc hH (by rfl) (ci := 1) (f := 4) (by rfl) (sj (P := fun i => okf 79 1 4 (18 + 8 * i)) ht4 (by decide +kernel)) (by rfl) ?_
      rw [(hO1 _ _ (by omega)).1]
      refine z_rcs hc hH 2 (pc' := 101) (lv' := [(6, .int (((hnd (v1.1 * (bif decide ((nI u1) = (nI dl)) then (6 : Int32) else 4))) + (300 * (μ.1 0 11))) + ((μ.1 0 12) * 1000))), (5, .int ((hnd (v1.1 * (bif decide ((nI u1) = (nI dl)) then (6 : Int32) else 4))) + (300 * (μ.1 0 11)))), (4, .int (nI u1)), (3, .int 1), (2, .int (300 * (μ.1 0 11))), (1, .int 0), (0, .ref 0)]) (st' := [.int ((μ.1 (18 + 8 * t) 4) - ((hnd (v1.1 * (bif decide ((nI u1) = (nI dl)) then (6 : Int32) else 4))) + (300 * (μ.1 0 11)))), .ref (18 + 8 * t)]) (μ' := W1) (by rfl) ?_
      refine zq_pfi hc hH (by rfl) (ci := 1) (f := 4) (by rfl) (sj (P := fun i => okf 79 1 4 (18 + 8 * i)) ht4 (by decide +kernel)) (by rfl) ?_
      show Z 0 104 [(6, .int (((hnd (v1.1 * (bif decide ((nI u1) = (nI dl)) then (6 : Int32) else 4))) + (300 * (μ.1 0 11))) + ((μ.1 0 12) * 1000))), (5, .int ((hnd (v1.1 * (bif decide ((nI u1) = (nI dl)) then (6 : Int32) else 4))) + (300 * (μ.1 0 11)))), (4, .int (nI u1)), (3, .int 1), (2, .int (300 * (μ.1 0 11))), (1, .int 0), (0, .ref 0)] [] (z_ui W1 (18 + 8 * t) 4 ((μ.1 (18 + 8 * t) 4) - ((hnd (v1.1 * (bif decide ((nI u1) = (nI dl)) then (6 : Int32) else 4))) + (300 * (μ.1 0 11)))))
      refine z_rcs0 hc hH 2 (pc' := 107) (lv' := [(6, .int (((hnd (v1.1 * (bif decide ((nI u1) = (nI dl)) then (6 : Int32) else 4))) + (300 * (μ.1 0 11))) + ((μ.1 0 12) * 1000))), (5, .int ((hnd (v1.1 * (bif decide ((nI u1) = (nI dl)) then (6 : Int32) else 4))) + (300 * (μ.1 0 11)))), (4, .int (nI u1)), (3, .int 1), (2, .int (300 * (μ.1 0 11))), (1, .int 0), (0, .ref 0)]) (st' := [.int (nI u1), .ref 0]) (by rfl) ?_
      refine zq_call hc (z_cx_ok hH (by rfl)) (gc_at4 d' (by omega) (z_ui W1 (18 + 8 * t) 4 ((μ.1 (18 + 8 * t) 4) - ((hnd (v1.1 * (bif decide ((nI u1) = (nI dl)) then (6 : Int32) else 4))) + (300 * (μ.1 0 11))))) u1 hu14) (by decide +kernel) (fun r9 μ9 hq => ?_)
      obtain ⟨hμ9, rfl⟩ := hq
      rw [hμ9]
      clear hμ9 μ9
      show Z 0 110 [(6, .int (((hnd (v1.1 * (bif decide ((nI u1) = (nI dl)) then (6 : Int32) else 4))) + (300 * (μ.1 0 11))) + ((μ.1 0 12) * 1000))), (5, .int ((hnd (v1.1 * (bif decide ((nI u1) = (nI dl)) then (6 : Int32) else 4))) + (300 * (μ.1 0 11)))), (4, .int (nI u1)), (3, .int 1), (2, .int (300 * (μ.1 0 11))), (1, .int 0), (0, .ref 0)] [.ref (18 + 8 * u1)] _
      refine z_rcs0 hc hH 1 (pc' := 111) (lv' := [(6, .int (((hnd (v1.1 * (bif decide ((nI u1) = (nI dl)) then (6 : Int32) else 4))) + (300 * (μ.1 0 11))) + ((μ.1 0 12) * 1000))), (5, .int ((hnd (v1.1 * (bif decide ((nI u1) = (nI dl)) then (6 : Int32) else 4))) + (300 * (μ.1 0 11)))), (4, .int (nI u1)), (3, .int 1), (2, .int (300 * (μ.1 0 11))), (1, .int 0), (0, .ref 0)]) (st' := [.ref (18 + 8 * u1), .ref (18 + 8 * u1)]) (by rfl) ?_
      refine zq_gfi hc hH (by rfl) (ci := 1) (f := 4) (by rfl) (sj (P := fun i => okf 79 1 4 (18 + 8 * i)) hu14 (by decide +kernel)) (by rfl) ?_
      refine zV1 (Z := Z) (Eq.trans (ui_o (by first | decide | omega)) (hO1 _ _ (by omega)).1) ?_
      refine z_rcs0 hc hH 2 (pc' := 117) (lv' := [(6, .int (((hnd (v1.1 * (bif decide ((nI u1) = (nI dl)) then (6 : Int32) else 4))) + (300 * (μ.1 0 11))) + ((μ.1 0 12) * 1000))), (5, .int ((hnd (v1.1 * (bif decide ((nI u1) = (nI dl)) then (6 : Int32) else 4))) + (300 * (μ.1 0 11)))), (4, .int (nI u1)), (3, .int 1), (2, .int (300 * (μ.1 0 11))), (1, .int 0), (0, .ref 0)]) (st' := [.int ((μ.1 (18 + 8 * u1) 4) + (((hnd (v1.1 * (bif decide ((nI u1) = (nI dl)) then (6 : Int32) else 4))) + (300 * (μ.1 0 11))) + ((μ.1 0 12) * 1000))), .ref (18 + 8 * u1)]) (by rfl) ?_
      refine zq_pfi hc hH (by rfl) (ci := 1) (f := 4) (by rfl) (sj (P := fun i => okf 79 1 4 (18 + 8 * i)) hu14 (by decide +kernel)) (by rfl) ?_
      show Z 0 120 [(6, .int (((hnd (v1.1 * (bif decide ((nI u1) = (nI dl)) then (6 : Int32) else 4))) + (300 * (μ.1 0 11))) + ((μ.1 0 12) * 1000))), (5, .int ((hnd (v1.1 * (bif decide ((nI u1) = (nI dl)) then (6 : Int32) else 4))) + (300 * (μ.1 0 11)))), (4, .int (nI u1)), (3, .int 1), (2, .int (300 * (μ.1 0 11))), (1, .int 0), (0, .ref 0)] [] (z_ui (z_ui W1 (18 + 8 * t) 4 ((μ.1 (18 + 8 * t) 4) - ((hnd (v1.1 * (bif decide ((nI u1) = (nI dl)) then (6 : Int32) else 4))) + (300 * (μ.1 0 11))))) (18 + 8 * u1) 4 ((μ.1 (18 + 8 * u1) 4) + (((hnd (v1.1 * (bif decide ((nI u1) = (nI dl)) then (6 : Int32) else 4))) + (300 * (μ.1 0 11))) + ((μ.1 0 12) * 1000))))
      refine z_rcs0 hc hH 3 (pc' := 124) (lv' := [(6, .int (((hnd (v1.1 * (bif decide ((nI u1) = (nI dl)) then (6 : Int32) else 4))) + (300 * (μ.1 0 11))) + ((μ.1 0 12) * 1000))), (5, .int ((hnd (v1.1 * (bif decide ((nI u1) = (nI dl)) then (6 : Int32) else 4))) + (300 * (μ.1 0 11)))), (4, .int (nI u1)), (3, .int 1), (2, .int (300 * (μ.1 0 11))), (1, .int 0), (0, .ref 0)]) (st' := [.ref 0, .int (nI u1), .ref 0]) (by rfl) ?_
      refine zq_gfi hc hH (by rfl) (ci := 5) (f := 8) (by rfl) (by decide +kernel) (by rfl) ?_
      refine zV1 (Z := Z) (Eq.trans (ui_o (by first | decide | omega)) (Eq.trans (ui_o (by first | decide | omega)) (hO1 _ _ (by omega)).1)) ?_
      rw [ht]
      refine z_rcs0 hc hH 1 (pc' := 129) (lv' := [(6, .int (((hnd (v1.1 * (bif decide ((nI u1) = (nI dl)) then (6 : Int32) else 4))) + (300 * (μ.1 0 11))) + ((μ.1 0 12) * 1000))), (5, .int ((hnd (v1.1 * (bif decide ((nI u1) = (nI dl)) then (6 : Int32) else 4))) + (300 * (μ.1 0 11)))), (4, .int (nI u1)), (3, .int 1), (2, .int (300 * (μ.1 0 11))), (1, .int 0), (0, .ref 0)]) (st' := [.int (((hnd (v1.1 * (bif decide ((nI u1) = (nI dl)) then (6 : Int32) else 4))) + (300 * (μ.1 0 11))) + ((μ.1 0 12) * 1000)), .int (nI t), .int (nI u1), .ref 0]) (by rfl) ?_
      refine zq_call hc (z_cx_ok hH (by rfl)) (gc_recordWin d' (by omega) (z_ui (z_ui W1 (18 + 8 * t) 4 ((μ.1 (18 + 8 * t) 4) - ((hnd (v1.1 * (bif decide ((nI u1) = (nI dl)) then (6 : Int32) else 4))) + (300 * (μ.1 0 11))))) (18 + 8 * u1) 4 ((μ.1 (18 + 8 * u1) 4) + (((hnd (v1.1 * (bif decide ((nI u1) = (nI dl)) then (6 : Int32) else 4))) + (300 * (μ.1 0 11))) + ((μ.1 0 12) * 1000)))) 0 (by omega) (by rw [ui_o (by first | decide | omega), ui_o (by first | decide | omega), (hO1 _ _ (by omega)).1]; exact h06) (nI u1) (nI t) (((hnd (v1.1 * (bif decide ((nI u1) = (nI dl)) then (6 : Int32) else 4))) + (300 * (μ.1 0 11))) + ((μ.1 0 12) * 1000))) (by decide +kernel) (fun r9 μ9 hq => ?_)
      obtain ⟨rfl, rfl⟩ := hq
      show Z 0 132 [(6, .int (((hnd (v1.1 * (bif decide ((nI u1) = (nI dl)) then (6 : Int32) else 4))) + (300 * (μ.1 0 11))) + ((μ.1 0 12) * 1000))), (5, .int ((hnd (v1.1 * (bif decide ((nI u1) = (nI dl)) then (6 : Int32) else 4))) + (300 * (μ.1 0 11)))), (4, .int (nI u1)), (3, .int 1), (2, .int (300 * (μ.1 0 11))), (1, .int 0), (0, .ref 0)] [] (rcW (z_ui (z_ui W1 (18 + 8 * t) 4 ((μ.1 (18 + 8 * t) 4) - ((hnd (v1.1 * (bif decide ((nI u1) = (nI dl)) then (6 : Int32) else 4))) + (300 * (μ.1 0 11))))) (18 + 8 * u1) 4 ((μ.1 (18 + 8 * u1) 4) + (((hnd (v1.1 * (bif decide ((nI u1) = (nI dl)) then (6 : Int32) else 4))) + (300 * (μ.1 0 11))) + ((μ.1 0 12) * 1000)))) 0 (nI u1) (nI t) (((hnd (v1.1 * (bif decide ((nI u1) = (nI dl)) then (6 : Int32) else 4))) + (300 * (μ.1 0 11))) + ((μ.1 0 12) * 1000)))
      refine z_rcs0 hc hH 4 (pc' := 139) (lv' := [(6, .int (((hnd (v1.1 * (bif decide ((nI u1) = (nI dl)) then (6 : Int32) else 4))) + (300 * (μ.1 0 11))) + ((μ.1 0 12) * 1000))), (5, .int ((hnd (v1.1 * (bif decide ((nI u1) = (nI dl)) then (6 : Int32) else 4))) + (300 * (μ.1 0 11)))), (4, .int (nI u1)), (3, .int 1), (2, .int (300 * (μ.1 0 11))), (1, .int 0), (0, .ref 0)]) (st' := [.ref 0, .int (nI u1)]) (by rfl) ?_
      refine zq_gfi hc hH (by rfl) (ci := 5) (f := 9) (by rfl) (by decide +kernel) (by rfl) ?_
      refine zV1 (Z := Z) (Eq.trans (rcW_o (by first | decide | omega)) (Eq.trans (ui_o (by first | decide | omega)) (Eq.trans (ui_o (by first | decide | omega)) (hO1 _ _ (by omega)).1))) ?_
      rw [hdl]
      have hJ3 : Z 0 150 [(6, .int (((hnd (v1.1 * (bif decide ((nI u1) = (nI dl)) then (6 : Int32) else 4))) + (300 * (μ.1 0 11))) + ((μ.1 0 12) * 1000))), (5, .int ((hnd (v1.1 * (bif decide ((nI u1) = (nI dl)) then (6 : Int32) else 4))) + (300 * (μ.1 0 11)))), (4, .int (nI u1)), (3, .int 1), (2, .int (300 * (μ.1 0 11))), (1, .int 0), (0, .ref 0)] [.int (nB (decide ((nI u1) = (nI dl))))] (rcW (z_ui (z_ui W1 (18 + 8 * t) 4 ((μ.1 (18 + 8 * t) 4) - ((hnd (v1.1 * (bif decide ((nI u1) = (nI dl)) then (6 : Int32) else 4))) + (300 * (μ.1 0 11))))) (18 + 8 * u1) 4 ((μ.1 (18 + 8 * u1) 4) + (((hnd (v1.1 * (bif decide ((nI u1) = (nI dl)) then (6 : Int32) else 4))) + (300 * (μ.1 0 11))) + ((μ.1 0 12) * 1000)))) 0 (nI u1) (nI t) (((hnd (v1.1 * (bif decide ((nI u1) = (nI dl)) then (6 : Int32) else 4))) + (300 * (μ.1 0 11))) + ((μ.1 0 12) * 1000))) := by
        refine z_rcs0 hc hH 5 (pc' := 155) (lv' := [(2, .int 0), (1, .int (nB (decide ((nI u1) = (nI dl))))), (6, .int (((hnd (v1.1 * (bif decide ((nI u1) = (nI dl)) then (6 : Int32) else 4))) + (300 * (μ.1 0 11))) + ((μ.1 0 12) * 1000))), (5, .int ((hnd (v1.1 * (bif decide ((nI u1) = (nI dl)) then (6 : Int32) else 4))) + (300 * (μ.1 0 11)))), (4, .int (nI u1)), (3, .int 1), (0, .ref 0)]) (st' := [.int 0, .ref 0]) (by rfl) ?_
        refine zq_pfi hc hH (by rfl) (ci := 5) (f := 12) (by rfl) (by decide +kernel) (by rfl) ?_
        show Z 0 158 [(2, .int 0), (1, .int (nB (decide ((nI u1) = (nI dl))))), (6, .int (((hnd (v1.1 * (bif decide ((nI u1) = (nI dl)) then (6 : Int32) else 4))) + (300 * (μ.1 0 11))) + ((μ.1 0 12) * 1000))), (5, .int ((hnd (v1.1 * (bif decide ((nI u1) = (nI dl)) then (6 : Int32) else 4))) + (300 * (μ.1 0 11)))), (4, .int (nI u1)), (3, .int 1), (0, .ref 0)] [] (z_ui (rcW (z_ui (z_ui W1 (18 + 8 * t) 4 ((μ.1 (18 + 8 * t) 4) - ((hnd (v1.1 * (bif decide ((nI u1) = (nI dl)) then (6 : Int32) else 4))) + (300 * (μ.1 0 11))))) (18 + 8 * u1) 4 ((μ.1 (18 + 8 * u1) 4) + (((hnd (v1.1 * (bif decide ((nI u1) = (nI dl)) then (6 : Int32) else 4))) + (300 * (μ.1 0 11))) + ((μ.1 0 12) * 1000)))) 0 (nI u1) (nI t) (((hnd (v1.1 * (bif decide ((nI u1) = (nI dl)) then (6 : Int32) else 4))) + (300 * (μ.1 0 11))) + ((μ.1 0 12) * 1000))) 0 12 0)
        refine z_rcs0 hc hH 6 (pc' := 19) (lv' := [(3, .int 2), (2, .int 0), (1, .int (nB (decide ((nI u1) = (nI dl))))), (6, .int (((hnd (v1.1 * (bif decide ((nI u1) = (nI dl)) then (6 : Int32) else 4))) + (300 * (μ.1 0 11))) + ((μ.1 0 12) * 1000))), (5, .int ((hnd (v1.1 * (bif decide ((nI u1) = (nI dl)) then (6 : Int32) else 4))) + (300 * (μ.1 0 11)))), (4, .int (nI u1)), (0, .ref 0)]) (st' := [.ref 0]) (by rfl) ?_
        refine zq_gfi hc hH (by rfl) (ci := 5) (f := 8) (by rfl) (by decide +kernel) (by rfl) ?_
        refine zV1 (Z := Z) (Eq.trans (ui_k (by first | decide | omega)) (Eq.trans (rcW_o (by first | decide | omega)) (Eq.trans (ui_o (by first | decide | omega)) (Eq.trans (ui_o (by first | decide | omega)) (hO1 _ _ (by omega)).1)))) ?_
        rw [ht]
        refine z_rcs0 hc hH 2 (pc' := 24) (lv' := [(3, .int 2), (2, .int 0), (1, .int (nB (decide ((nI u1) = (nI dl))))), (6, .int (((hnd (v1.1 * (bif decide ((nI u1) = (nI dl)) then (6 : Int32) else 4))) + (300 * (μ.1 0 11))) + ((μ.1 0 12) * 1000))), (5, .int ((hnd (v1.1 * (bif decide ((nI u1) = (nI dl)) then (6 : Int32) else 4))) + (300 * (μ.1 0 11)))), (4, .int (nI u1)), (0, .ref 0)]) (st' := [.int ((nI t) + 2)]) (by rfl) ?_
        rw [show nI t + 2 = nI (t + 2) from by rw [show (2 : Int32) = nI 2 from rfl, nI_add]]
        refine z_rcs0 hc hH 2 (pc' := 26) (lv' := [(3, .int 2), (2, .int 0), (1, .int (nB (decide ((nI u1) = (nI dl))))), (6, .int (((hnd (v1.1 * (bif decide ((nI u1) = (nI dl)) then (6 : Int32) else 4))) + (300 * (μ.1 0 11))) + ((μ.1 0 12) * 1000))), (5, .int ((hnd (v1.1 * (bif decide ((nI u1) = (nI dl)) then (6 : Int32) else 4))) + (300 * (μ.1 0 11)))), (4, .int (nI u1)), (0, .ref 0)]) (st' := [.int ((nI (t + 2)) &&& 3)]) (by rfl) ?_
        rw [show nI (t + 2) &&& 3 = nI u2 from by rw [and3 (by omega), hu2]]
        refine z_rcs0 hc hH 3 (pc' := 31) (lv' := [(4, .int (nI u2)), (3, .int 2), (2, .int 0), (1, .int (nB (decide ((nI u1) = (nI dl))))), (6, .int (((hnd (v1.1 * (bif decide ((nI u1) = (nI dl)) then (6 : Int32) else 4))) + (300 * (μ.1 0 11))) + ((μ.1 0 12) * 1000))), (5, .int ((hnd (v1.1 * (bif decide ((nI u1) = (nI dl)) then (6 : Int32) else 4))) + (300 * (μ.1 0 11)))), (0, .ref 0)]) (st' := [.int (nI u2), .ref 0]) (by rfl) ?_
        refine zq_call hc (z_cx_ok hH (by rfl)) (gc_at4 d' (by omega) (z_ui (rcW (z_ui (z_ui W1 (18 + 8 * t) 4 ((μ.1 (18 + 8 * t) 4) - ((hnd (v1.1 * (bif decide ((nI u1) = (nI dl)) then (6 : Int32) else 4))) + (300 * (μ.1 0 11))))) (18 + 8 * u1) 4 ((μ.1 (18 + 8 * u1) 4) + (((hnd (v1.1 * (bif decide ((nI u1) = (nI dl)) then (6 : Int32) else 4))) + (300 * (μ.1 0 11))) + ((μ.1 0 12) * 1000)))) 0 (nI u1) (nI t) (((hnd (v1.1 * (bif decide ((nI u1) = (nI dl)) then (6 : Int32) else 4))) + (300 * (μ.1 0 11))) + ((μ.1 0 12) * 1000))) 0 12 0) u2 hu24) (by decide +kernel) (fun r9 μ9 hq => ?_)
        obtain ⟨hμ9, rfl⟩ := hq
        rw [hμ9]
        clear hμ9 μ9
        show Z 0 34 [(4, .int (nI u2)), (3, .int 2), (2, .int 0), (1, .int (nB (decide ((nI u1) = (nI dl))))), (6, .int (((hnd (v1.1 * (bif decide ((nI u1) = (nI dl)) then (6 : Int32) else 4))) + (300 * (μ.1 0 11))) + ((μ.1 0 12) * 1000))), (5, .int ((hnd (v1.1 * (bif decide ((nI u1) = (nI dl)) then (6 : Int32) else 4))) + (300 * (μ.1 0 11)))), (0, .ref 0)] [.ref (18 + 8 * u2)] _
        refine zq_gfi hc hH (by rfl) (ci := 1) (f := 9) (by rfl) (sj (P := fun i => okf 79 1 9 (18 + 8 * i)) hu24 (by decide +kernel)) (by rfl) ?_
        refine zV1 (Z := Z) (Eq.trans (ui_o (by first | decide | omega)) (Eq.trans (rcW_o (by first | decide | omega)) (Eq.trans (ui_o (by first | decide | omega)) (Eq.trans (ui_o (by first | decide | omega)) (hO1 _ _ (by omega)).1)))) ?_
        refine zq_if hc hH (by rfl) (tg := 43) (by rfl) (fun h4 => ?_) (fun h4 => ?_)
        · have h4 : (decide ((μ.1 (18 + 8 * u2) 9) = 0)) = false := decide_eq_false (cm_ne.mp h4)
          exact absurd (Eq.trans (Eq.symm (hs2)) h4) (by decide)
        · have h4 : (decide ((μ.1 (18 + 8 * u2) 9) = 0)) = true := decide_eq_true (cn_ne.mp h4)
          refine z_rcs0 hc hH 7 (pc' := 19) (lv' := [(3, .int 3), (4, .int (nI u2)), (2, .int 0), (1, .int (nB (decide ((nI u1) = (nI dl))))), (6, .int (((hnd (v1.1 * (bif decide ((nI u1) = (nI dl)) then (6 : Int32) else 4))) + (300 * (μ.1 0 11))) + ((μ.1 0 12) * 1000))), (5, .int ((hnd (v1.1 * (bif decide ((nI u1) = (nI dl)) then (6 : Int32) else 4))) + (300 * (μ.1 0 11)))), (0, .ref 0)]) (st' := [.ref 0]) (by rfl) ?_
          refine zq_gfi hc hH (by rfl) (ci := 5) (f := 8) (by rfl) (by decide +kernel) (by rfl) ?_
          refine zV1 (Z := Z) (Eq.trans (ui_k (by first | decide | omega)) (Eq.trans (rcW_o (by first | decide | omega)) (Eq.trans (ui_o (by first | decide | omega)) (Eq.trans (ui_o (by first | decide | omega)) (hO1 _ _ (by omega)).1)))) ?_
          rw [ht]
          refine z_rcs0 hc hH 2 (pc' := 24) (lv' := [(3, .int 3), (4, .int (nI u2)), (2, .int 0), (1, .int (nB (decide ((nI u1) = (nI dl))))), (6, .int (((hnd (v1.1 * (bif decide ((nI u1) = (nI dl)) then (6 : Int32) else 4))) + (300 * (μ.1 0 11))) + ((μ.1 0 12) * 1000))), (5, .int ((hnd (v1.1 * (bif decide ((nI u1) = (nI dl)) then (6 : Int32) else 4))) + (300 * (μ.1 0 11)))), (0, .ref 0)]) (st' := [.int ((nI t) + 3)]) (by rfl) ?_
          rw [show nI t + 3 = nI (t + 3) from by rw [show (3 : Int32) = nI 3 from rfl, nI_add]]
          refine z_rcs0 hc hH 2 (pc' := 26) (lv' := [(3, .int 3), (4, .int (nI u2)), (2, .int 0), (1, .int (nB (decide ((nI u1) = (nI dl))))), (6, .int (((hnd (v1.1 * (bif decide ((nI u1) = (nI dl)) then (6 : Int32) else 4))) + (300 * (μ.1 0 11))) + ((μ.1 0 12) * 1000))), (5, .int ((hnd (v1.1 * (bif decide ((nI u1) = (nI dl)) then (6 : Int32) else 4))) + (300 * (μ.1 0 11)))), (0, .ref 0)]) (st' := [.int ((nI (t + 3)) &&& 3)]) (by rfl) ?_
          rw [show nI (t + 3) &&& 3 = nI u3 from by rw [and3 (by omega), hu3]]
          refine z_rcs0 hc hH 3 (pc' := 31) (lv' := [(4, .int (nI u3)), (3, .int 3), (2, .int 0), (1, .int (nB (decide ((nI u1) = (nI dl))))), (6, .int (((hnd (v1.1 * (bif decide ((nI u1) = (nI dl)) then (6 : Int32) else 4))) + (300 * (μ.1 0 11))) + ((μ.1 0 12) * 1000))), (5, .int ((hnd (v1.1 * (bif decide ((nI u1) = (nI dl)) then (6 : Int32) else 4))) + (300 * (μ.1 0 11)))), (0, .ref 0)]) (st' := [.int (nI u3), .ref 0]) (by rfl) ?_
          refine zq_call hc (z_cx_ok hH (by rfl)) (gc_at4 d' (by omega) (z_ui (rcW (z_ui (z_ui W1 (18 + 8 * t) 4 ((μ.1 (18 + 8 * t) 4) - ((hnd (v1.1 * (bif decide ((nI u1) = (nI dl)) then (6 : Int32) else 4))) + (300 * (μ.1 0 11))))) (18 + 8 * u1) 4 ((μ.1 (18 + 8 * u1) 4) + (((hnd (v1.1 * (bif decide ((nI u1) = (nI dl)) then (6 : Int32) else 4))) + (300 * (μ.1 0 11))) + ((μ.1 0 12) * 1000)))) 0 (nI u1) (nI t) (((hnd (v1.1 * (bif decide ((nI u1) = (nI dl)) then (6 : Int32) else 4))) + (300 * (μ.1 0 11))) + ((μ.1 0 12) * 1000))) 0 12 0) u3 hu34) (by decide +kernel) (fun r9 μ9 hq => ?_)
          obtain ⟨hμ9, rfl⟩ := hq
          rw [hμ9]
          clear hμ9 μ9
          show Z 0 34 [(4, .int (nI u3)), (3, .int 3), (2, .int 0), (1, .int (nB (decide ((nI u1) = (nI dl))))), (6, .int (((hnd (v1.1 * (bif decide ((nI u1) = (nI dl)) then (6 : Int32) else 4))) + (300 * (μ.1 0 11))) + ((μ.1 0 12) * 1000))), (5, .int ((hnd (v1.1 * (bif decide ((nI u1) = (nI dl)) then (6 : Int32) else 4))) + (300 * (μ.1 0 11)))), (0, .ref 0)] [.ref (18 + 8 * u3)] _
          refine zq_gfi hc hH (by rfl) (ci := 1) (f := 9) (by rfl) (sj (P := fun i => okf 79 1 9 (18 + 8 * i)) hu34 (by decide +kernel)) (by rfl) ?_
          refine zV1 (Z := Z) (Eq.trans (ui_o (by first | decide | omega)) (Eq.trans (rcW_o (by first | decide | omega)) (Eq.trans (ui_o (by first | decide | omega)) (Eq.trans (ui_o (by first | decide | omega)) (hO1 _ _ (by omega)).1)))) ?_
          refine zq_if hc hH (by rfl) (tg := 43) (by rfl) (fun h5 => ?_) (fun h5 => ?_)
          · have h5 : (decide ((μ.1 (18 + 8 * u3) 9) = 0)) = false := decide_eq_false (cm_ne.mp h5)
            refine z_rcs0 hc hH 3 (pc' := 47) (lv' := [(4, .int (nI u3)), (3, .int 3), (2, .int 0), (1, .int (nB (decide ((nI u1) = (nI dl))))), (6, .int (((hnd (v1.1 * (bif decide ((nI u1) = (nI dl)) then (6 : Int32) else 4))) + (300 * (μ.1 0 11))) + ((μ.1 0 12) * 1000))), (5, .int ((hnd (v1.1 * (bif decide ((nI u1) = (nI dl)) then (6 : Int32) else 4))) + (300 * (μ.1 0 11)))), (0, .ref 0)]) (st' := [.int 0, .int (nI u3), .ref 0]) (by rfl) ?_
            refine zq_call hc (z_cx_ok hH (by rfl)) (hwg3 _ (WE_b (WE_rc (WE_p (WE_p (WE_wo (WE_rf _) hO1) (by omega)) (by omega)) (by omega))) (a_H_ui (a_H_rcW (a_H_pt (a_H_pt (hA1) (by omega)) (by omega)) (by omega)) (bI_top _)) d' (by omega)) (by decide +kernel) (fun r9 W3 hq => ?_)
            obtain ⟨v3, hB3, rfl, hO3, hv3, hA3⟩ := hq
            show Z 0 50 [(4, .int (nI u3)), (3, .int 3), (2, .int 0), (1, .int (nB (decide ((nI u1) = (nI dl))))), (6, .int (((hnd (v1.1 * (bif decide ((nI u1) = (nI dl)) then (6 : Int32) else 4))) + (300 * (μ.1 0 11))) + ((μ.1 0 12) * 1000))), (5, .int ((hnd (v1.1 * (bif decide ((nI u1) = (nI dl)) then (6 : Int32) else 4))) + (300 * (μ.1 0 11)))), (0, .ref 0)] [.int v3.1] W3
            refine z_rcs hc hH 2 (pc' := 53) (lv' := [(4, .int (nI u3)), (3, .int 3), (2, .int 0), (1, .int (nB (decide ((nI u1) = (nI dl))))), (6, .int (((hnd (v1.1 * (bif decide ((nI u1) = (nI dl)) then (6 : Int32) else 4))) + (300 * (μ.1 0 11))) + ((μ.1 0 12) * 1000))), (5, .int ((hnd (v1.1 * (bif decide ((nI u1) = (nI dl)) then (6 : Int32) else 4))) + (300 * (μ.1 0 11)))), (0, .ref 0)]) (st' := [.ref 0, .int (nI u3), .int v3.1]) (μ' := W3) (by rfl) ?_
            refine zq_gfi hc hH (by rfl) (ci := 5) (f := 9) (by rfl) (by decide +kernel) (by rfl) ?_
            refine zV1 (Z := Z) (Eq.trans (hO3 _ _ (by omega)).1 (Eq.trans (ui_k (by first | decide | omega)) (Eq.trans (rcW_o (by first | decide | omega)) (Eq.trans (ui_o (by first | decide | omega)) (Eq.trans (ui_o (by first | decide | omega)) (hO1 _ _ (by omega)).1))))) ?_
            rw [hdl]
            have hJ6 : Z 0 65 [(4, .int (nI u3)), (3, .int 3), (2, .int 0), (1, .int (nB (decide ((nI u1) = (nI dl))))), (6, .int (((hnd (v1.1 * (bif decide ((nI u1) = (nI dl)) then (6 : Int32) else 4))) + (300 * (μ.1 0 11))) + ((μ.1 0 12) * 1000))), (5, .int ((hnd (v1.1 * (bif decide ((nI u1) = (nI dl)) then (6 : Int32) else 4))) + (300 * (μ.1 0 11)))), (0, .ref 0)] [.int (bif decide ((nI u3) = (nI dl)) then (6 : Int32) else 4), .int v3.1] W3 := by
              refine z_rcs hc hH 1 (pc' := 66) (lv' := [(4, .int (nI u3)), (3, .int 3), (2, .int 0), (1, .int (nB (decide ((nI u1) = (nI dl))))), (6, .int (((hnd (v1.1 * (bif decide ((nI u1) = (nI dl)) then (6 : Int32) else 4))) + (300 * (μ.1 0 11))) + ((μ.1 0 12) * 1000))), (5, .int ((hnd (v1.1 * (bif decide ((nI u1) = (nI dl)) then (6 : Int32) else 4))) + (300 * (μ.1 0 11)))), (0, .ref 0)]) (st' := [.int (v3.1 * (bif decide ((nI u3) = (nI dl)) then (6 : Int32) else 4))]) (μ' := W3) (by rfl) ?_
              refine zq_call hc (z_cx_ok hH (by rfl)) (gc_hundreds d' (by omega) W3 (v3.1 * (bif decide ((nI u3) = (nI dl)) then (6 : Int32) else 4))) (by decide +kernel) (fun r9 μ9 hq => ?_)
              obtain ⟨hμ9, rfl⟩ := hq
              rw [hμ9]
              clear hμ9 μ9
              show Z 0 69 [(4, .int (nI u3)), (3, .int 3), (2, .int 0), (1, .int (nB (decide ((nI u1) = (nI dl))))), (6, .int (((hnd (v1.1 * (bif decide ((nI u1) = (nI dl)) then (6 : Int32) else 4))) + (300 * (μ.1 0 11))) + ((μ.1 0 12) * 1000))), (5, .int ((hnd (v1.1 * (bif decide ((nI u1) = (nI dl)) then (6 : Int32) else 4))) + (300 * (μ.1 0 11)))), (0, .ref 0)] [.int (hnd (v3.1 * (bif decide ((nI u3) = (nI dl)) then (6 : Int32) else 4)))] W3
              refine z_rcs hc hH 5 (pc' := 76) (lv' := [(5, .int ((hnd (v3.1 * (bif decide ((nI u3) = (nI dl)) then (6 : Int32) else 4))) + 0)), (4, .int (nI u3)), (3, .int 3), (2, .int 0), (1, .int (nB (decide ((nI u1) = (nI dl))))), (6, .int (((hnd (v1.1 * (bif decide ((nI u1) = (nI dl)) then (6 : Int32) else 4))) + (300 * (μ.1 0 11))) + ((μ.1 0 12) * 1000))), (0, .ref 0)]) (st' := [.ref 0, .int ((hnd (v3.1 * (bif decide ((nI u3) = (nI dl)) then (6 : Int32) else 4))) + 0)]) (μ' := W3) (by rfl) ?_
              refine zq_gfi hc hH (by rfl) (ci := 5) (f := 12) (by rfl) (by decide +kernel) (by rfl) ?_
              rw [(hO3 _ _ (by omega)).1, ui_s]
              refine z_rcs hc hH 6 (pc' := 88) (lv' := [(6, .int (((hnd (v3.1 * (bif decide ((nI u3) = (nI dl)) then (6 : Int32) else 4))) + 0) + 0)), (5, .int ((hnd (v3.1 * (bif decide ((nI u3) = (nI dl)) then (6 : Int32) else 4))) + 0)), (4, .int (nI u3)), (3, .int 3), (2, .int 0), (1, .int (nB (decide ((nI u1) = (nI dl))))), (0, .ref 0)]) (st' := [.ref 0, .ref 0]) (μ' := W3) (by rfl) ?_
              refine zq_gfi hc hH (by rfl) (ci := 5) (f := 8) (by rfl) (by decide +kernel) (by rfl) ?_
              refine zV1 (Z := Z) (Eq.trans (hO3 _ _ (by omega)).1 (Eq.trans (ui_k (by first | decide | omega)) (Eq.trans (rcW_o (by first | decide | omega)) (Eq.trans (ui_o (by first | decide | omega)) (Eq.trans (ui_o (by first | decide | omega)) (hO1 _ _ (by omega)).1))))) ?_
              rw [ht]
              refine zq_call hc (z_cx_ok hH (by rfl)) (gc_at4 d' (by omega) W3 t ht4) (by decide +kernel) (fun r9 μ9 hq => ?_)
              obtain ⟨hμ9, rfl⟩ := hq
              rw [hμ9]
              clear hμ9 μ9
              show Z 0 94 [(6, .int (((hnd (v3.1 * (bif decide ((nI u3) = (nI dl)) then (6 : Int32) else 4))) + 0) + 0)), (5, .int ((hnd (v3.1 * (bif decide ((nI u3) = (nI dl)) then (6 : Int32) else 4))) + 0)), (4, .int (nI u3)), (3, .int 3), (2, .int 0), (1, .int (nB (decide ((nI u1) = (nI dl))))), (0, .ref 0)] [.ref (18 + 8 * t)] W3
              refine z_rcs hc hH 1 (pc' := 95) (lv' := [(6, .int (((hnd (v3.1 * (bif decide ((nI u3) = (nI dl)) then (6 : Int32) else 4))) + 0) + 0)), (5, .int ((hnd (v3.1 * (bif decide ((nI u3) = (nI dl)) then (6 : Int32) else 4))) + 0)), (4, .int (nI u3)), (3, .int 3), (2, .int 0), (1, .int (nB (decide ((nI u1) = (nI dl))))), (0, .ref 0)]) (st' := [.ref (18 + 8 * t), .ref (18 + 8 * t)]) (μ' := W3) (by rfl) ?_
              refine zq_gfi hc hH (by rfl) (ci := 1) (f := 4) (by rfl) (sj (P := fun i => okf 79 1 4 (18 + 8 * i)) ht4 (by decide +kernel)) (by rfl) ?_
              refine zV1 (Z := Z) (Eq.trans (hO3 _ _ (by omega)).1 (Eq.trans (ui_o (by first | decide | omega)) (Eq.trans (rcW_o (by first | decide | omega)) (Eq.trans (ui_o (by first | decide | omega)) (ui_s))))) ?_
              refine z_rcs hc hH 2 (pc' := 101) (lv' := [(6, .int (((hnd (v3.1 * (bif decide ((nI u3) = (nI dl)) then (6 : Int32) else 4))) + 0) + 0)), (5, .int ((hnd (v3.1 * (bif decide ((nI u3) = (nI dl)) then (6 : Int32) else 4))) + 0)), (4, .int (nI u3)), (3, .int 3), (2, .int 0), (1, .int (nB (decide ((nI u1) = (nI dl))))), (0, .ref 0)]) (st' := [.int (((μ.1 (18 + 8 * t) 4) - ((hnd (v1.1 * (bif decide ((nI u1) = (nI dl)) then (6 : Int32) else 4))) + (300 * (μ.1 0 11)))) - ((hnd (v3.1 * (bif decide ((nI u3) = (nI dl)) then (6 : Int32) else 4))) + 0)), .ref (18 + 8 * t)]) (μ' := W3) (by rfl) ?_
              refine zq_pfi hc hH (by rfl) (ci := 1) (f := 4) (by rfl) (sj (P := fun i => okf 79 1 4 (18 + 8 * i)) ht4 (by decide +kernel)) (by rfl) ?_
              show Z 0 104 [(6, .int (((hnd (v3.1 * (bif decide ((nI u3) = (nI dl)) then (6 : Int32) else 4))) + 0) + 0)), (5, .int ((hnd (v3.1 * (bif decide ((nI u3) = (nI dl)) then (6 : Int32) else 4))) + 0)), (4, .int (nI u3)), (3, .int 3), (2, .int 0), (1, .int (nB (decide ((nI u1) = (nI dl))))), (0, .ref 0)] [] (z_ui W3 (18 + 8 * t) 4 (((μ.1 (18 + 8 * t) 4) - ((hnd (v1.1 * (bif decide ((nI u1) = (nI dl)) then (6 : Int32) else 4))) + (300 * (μ.1 0 11)))) - ((hnd (v3.1 * (bif decide ((nI u3) = (nI dl)) then (6 : Int32) else 4))) + 0)))
              refine z_rcs0 hc hH 2 (pc' := 107) (lv' := [(6, .int (((hnd (v3.1 * (bif decide ((nI u3) = (nI dl)) then (6 : Int32) else 4))) + 0) + 0)), (5, .int ((hnd (v3.1 * (bif decide ((nI u3) = (nI dl)) then (6 : Int32) else 4))) + 0)), (4, .int (nI u3)), (3, .int 3), (2, .int 0), (1, .int (nB (decide ((nI u1) = (nI dl))))), (0, .ref 0)]) (st' := [.int (nI u3), .ref 0]) (by rfl) ?_
              refine zq_call hc (z_cx_ok hH (by rfl)) (gc_at4 d' (by omega) (z_ui W3 (18 + 8 * t) 4 (((μ.1 (18 + 8 * t) 4) - ((hnd (v1.1 * (bif decide ((nI u1) = (nI dl)) then (6 : Int32) else 4))) + (300 * (μ.1 0 11)))) - ((hnd (v3.1 * (bif decide ((nI u3) = (nI dl)) then (6 : Int32) else 4))) + 0))) u3 hu34) (by decide +kernel) (fun r9 μ9 hq => ?_)
              obtain ⟨hμ9, rfl⟩ := hq
              rw [hμ9]
              clear hμ9 μ9
              show Z 0 110 [(6, .int (((hnd (v3.1 * (bif decide ((nI u3) = (nI dl)) then (6 : Int32) else 4))) + 0) + 0)), (5, .int ((hnd (v3.1 * (bif decide ((nI u3) = (nI dl)) then (6 : Int32) else 4))) + 0)), (4, .int (nI u3)), (3, .int 3), (2, .int 0), (1, .int (nB (decide ((nI u1) = (nI dl))))), (0, .ref 0)] [.ref (18 + 8 * u3)] _
              refine z_rcs0 hc hH 1 (pc' := 111) (lv' := [(6, .int (((hnd (v3.1 * (bif decide ((nI u3) = (nI dl)) then (6 : Int32) else 4))) + 0) + 0)), (5, .int ((hnd (v3.1 * (bif decide ((nI u3) = (nI dl)) then (6 : Int32) else 4))) + 0)), (4, .int (nI u3)), (3, .int 3), (2, .int 0), (1, .int (nB (decide ((nI u1) = (nI dl))))), (0, .ref 0)]) (st' := [.ref (18 + 8 * u3), .ref (18 + 8 * u3)]) (by rfl) ?_
              refine zq_gfi hc hH (by rfl) (ci := 1) (f := 4) (by rfl) (sj (P := fun i => okf 79 1 4 (18 + 8 * i)) hu34 (by decide +kernel)) (by rfl) ?_
              refine zV1 (Z := Z) (Eq.trans (ui_o (by first | decide | omega)) (Eq.trans (hO3 _ _ (by omega)).1 (Eq.trans (ui_o (by first | decide | omega)) (Eq.trans (rcW_o (by first | decide | omega)) (Eq.trans (ui_o (by first | decide | omega)) (Eq.trans (ui_o (by first | decide | omega)) (hO1 _ _ (by omega)).1)))))) ?_
              refine z_rcs0 hc hH 2 (pc' := 117) (lv' := [(6, .int (((hnd (v3.1 * (bif decide ((nI u3) = (nI dl)) then (6 : Int32) else 4))) + 0) + 0)), (5, .int ((hnd (v3.1 * (bif decide ((nI u3) = (nI dl)) then (6 : Int32) else 4))) + 0)), (4, .int (nI u3)), (3, .int 3), (2, .int 0), (1, .int (nB (decide ((nI u1) = (nI dl))))), (0, .ref 0)]) (st' := [.int ((μ.1 (18 + 8 * u3) 4) + (((hnd (v3.1 * (bif decide ((nI u3) = (nI dl)) then (6 : Int32) else 4))) + 0) + 0)), .ref (18 + 8 * u3)]) (by rfl) ?_
              refine zq_pfi hc hH (by rfl) (ci := 1) (f := 4) (by rfl) (sj (P := fun i => okf 79 1 4 (18 + 8 * i)) hu34 (by decide +kernel)) (by rfl) ?_
              show Z 0 120 [(6, .int (((hnd (v3.1 * (bif decide ((nI u3) = (nI dl)) then (6 : Int32) else 4))) + 0) + 0)), (5, .int ((hnd (v3.1 * (bif decide ((nI u3) = (nI dl)) then (6 : Int32) else 4))) + 0)), (4, .int (nI u3)), (3, .int 3), (2, .int 0), (1, .int (nB (decide ((nI u1) = (nI dl))))), (0, .ref 0)] [] (z_ui (z_ui W3 (18 + 8 * t) 4 (((μ.1 (18 + 8 * t) 4) - ((hnd (v1.1 * (bif decide ((nI u1) = (nI dl)) then (6 : Int32) else 4))) + (300 * (μ.1 0 11)))) - ((hnd (v3.1 * (bif decide ((nI u3) = (nI dl)) then (6 : Int32) else 4))) + 0))) (18 + 8 * u3) 4 ((μ.1 (18 + 8 * u3) 4) + (((hnd (v3.1 * (bif decide ((nI u3) = (nI dl)) then (6 : Int32) else 4))) + 0) + 0)))
              refine z_rcs0 hc hH 3 (pc' := 124) (lv' := [(6, .int (((hnd (v3.1 * (bif decide ((nI u3) = (nI dl)) then (6 : Int32) else 4))) + 0) + 0)), (5, .int ((hnd (v3.1 * (bif decide ((nI u3) = (nI dl)) then (6 : Int32) else 4))) + 0)), (4, .int (nI u3)), (3, .int 3), (2, .int 0), (1, .int (nB (decide ((nI u1) = (nI dl))))), (0, .ref 0)]) (st' := [.ref 0, .int (nI u3), .ref 0]) (by rfl) ?_
              refine zq_gfi hc hH (by rfl) (ci := 5) (f := 8) (by rfl) (by decide +kernel) (by rfl) ?_
              refine zV1 (Z := Z) (Eq.trans (ui_o (by first | decide | omega)) (Eq.trans (ui_o (by first | decide | omega)) (Eq.trans (hO3 _ _ (by omega)).1 (Eq.trans (ui_k (by first | decide | omega)) (Eq.trans (rcW_o (by first | decide | omega)) (Eq.trans (ui_o (by first | decide | omega)) (Eq.trans (ui_o (by first | decide | omega)) (hO1 _ _ (by omega)).1))))))) ?_
              rw [ht]
              refine z_rcs0 hc hH 1 (pc' := 129) (lv' := [(6, .int (((hnd (v3.1 * (bif decide ((nI u3) = (nI dl)) then (6 : Int32) else 4))) + 0) + 0)), (5, .int ((hnd (v3.1 * (bif decide ((nI u3) = (nI dl)) then (6 : Int32) else 4))) + 0)), (4, .int (nI u3)), (3, .int 3), (2, .int 0), (1, .int (nB (decide ((nI u1) = (nI dl))))), (0, .ref 0)]) (st' := [.int (((hnd (v3.1 * (bif decide ((nI u3) = (nI dl)) then (6 : Int32) else 4))) + 0) + 0), .int (nI t), .int (nI u3), .ref 0]) (by rfl) ?_
              refine zq_call hc (z_cx_ok hH (by rfl)) (gc_recordWin d' (by omega) (z_ui (z_ui W3 (18 + 8 * t) 4 (((μ.1 (18 + 8 * t) 4) - ((hnd (v1.1 * (bif decide ((nI u1) = (nI dl)) then (6 : Int32) else 4))) + (300 * (μ.1 0 11)))) - ((hnd (v3.1 * (bif decide ((nI u3) = (nI dl)) then (6 : Int32) else 4))) + 0))) (18 + 8 * u3) 4 ((μ.1 (18 + 8 * u3) 4) + (((hnd (v3.1 * (bif decide ((nI u3) = (nI dl)) then (6 : Int32) else 4))) + 0) + 0))) 1 (by omega) (by rw [ui_o (by first | decide | omega), ui_o (by first | decide | omega), (hO3 _ _ (by omega)).1, ui_k (by first | decide | omega), rcW_6]) (nI u3) (nI t) (((hnd (v3.1 * (bif decide ((nI u3) = (nI dl)) then (6 : Int32) else 4))) + 0) + 0)) (by decide +kernel) (fun r9 μ9 hq => ?_)
              obtain ⟨rfl, rfl⟩ := hq
              show Z 0 132 [(6, .int (((hnd (v3.1 * (bif decide ((nI u3) = (nI dl)) then (6 : Int32) else 4))) + 0) + 0)), (5, .int ((hnd (v3.1 * (bif decide ((nI u3) = (nI dl)) then (6 : Int32) else 4))) + 0)), (4, .int (nI u3)), (3, .int 3), (2, .int 0), (1, .int (nB (decide ((nI u1) = (nI dl))))), (0, .ref 0)] [] (rcW (z_ui (z_ui W3 (18 + 8 * t) 4 (((μ.1 (18 + 8 * t) 4) - ((hnd (v1.1 * (bif decide ((nI u1) = (nI dl)) then (6 : Int32) else 4))) + (300 * (μ.1 0 11)))) - ((hnd (v3.1 * (bif decide ((nI u3) = (nI dl)) then (6 : Int32) else 4))) + 0))) (18 + 8 * u3) 4 ((μ.1 (18 + 8 * u3) 4) + (((hnd (v3.1 * (bif decide ((nI u3) = (nI dl)) then (6 : Int32) else 4))) + 0) + 0))) 1 (nI u3) (nI t) (((hnd (v3.1 * (bif decide ((nI u3) = (nI dl)) then (6 : Int32) else 4))) + 0) + 0))
              refine z_rcs0 hc hH 1 (pc' := 133) (lv' := [(6, .int (((hnd (v3.1 * (bif decide ((nI u3) = (nI dl)) then (6 : Int32) else 4))) + 0) + 0)), (5, .int ((hnd (v3.1 * (bif decide ((nI u3) = (nI dl)) then (6 : Int32) else 4))) + 0)), (4, .int (nI u3)), (3, .int 3), (2, .int 0), (1, .int (nB (decide ((nI u1) = (nI dl))))), (0, .ref 0)]) (st' := [.int (nB (decide ((nI u1) = (nI dl))))]) (by rfl) ?_
              have hJ7 : Z 0 150 [(6, .int (((hnd (v3.1 * (bif decide ((nI u3) = (nI dl)) then (6 : Int32) else 4))) + 0) + 0)), (5, .int ((hnd (v3.1 * (bif decide ((nI u3) = (nI dl)) then (6 : Int32) else 4))) + 0)), (4, .int (nI u3)), (3, .int 3), (2, .int 0), (1, .int (nB (decide ((nI u1) = (nI dl))))), (0, .ref 0)] [.int (nB ((decide ((nI u1) = (nI dl))) || (decide ((nI u3) = (nI dl)))))] (rcW (z_ui (z_ui W3 (18 + 8 * t) 4 (((μ.1 (18 + 8 * t) 4) - ((hnd (v1.1 * (bif decide ((nI u1) = (nI dl)) then (6 : Int32) else 4))) + (300 * (μ.1 0 11)))) - ((hnd (v3.1 * (bif decide ((nI u3) = (nI dl)) then (6 : Int32) else 4))) + 0))) (18 + 8 * u3) 4 ((μ.1 (18 + 8 * u3) 4) + (((hnd (v3.1 * (bif decide ((nI u3) = (nI dl)) then (6 : Int32) else 4))) + 0) + 0))) 1 (nI u3) (nI t) (((hnd (v3.1 * (bif decide ((nI u3) = (nI dl)) then (6 : Int32) else 4))) + 0) + 0)) := by
                refine z_rcs0 hc hH 5 (pc' := 155) (lv' := [(2, .int 0), (1, .int (nB ((decide ((nI u1) = (nI dl))) || (decide ((nI u3) = (nI dl)))))), (6, .int (((hnd (v3.1 * (bif decide ((nI u3) = (nI dl)) then (6 : Int32) else 4))) + 0) + 0)), (5, .int ((hnd (v3.1 * (bif decide ((nI u3) = (nI dl)) then (6 : Int32) else 4))) + 0)), (4, .int (nI u3)), (3, .int 3), (0, .ref 0)]) (st' := [.int 0, .ref 0]) (by rfl) ?_
                refine zq_pfi hc hH (by rfl) (ci := 5) (f := 12) (by rfl) (by decide +kernel) (by rfl) ?_
                show Z 0 158 [(2, .int 0), (1, .int (nB ((decide ((nI u1) = (nI dl))) || (decide ((nI u3) = (nI dl)))))), (6, .int (((hnd (v3.1 * (bif decide ((nI u3) = (nI dl)) then (6 : Int32) else 4))) + 0) + 0)), (5, .int ((hnd (v3.1 * (bif decide ((nI u3) = (nI dl)) then (6 : Int32) else 4))) + 0)), (4, .int (nI u3)), (3, .int 3), (0, .ref 0)] [] (z_ui (rcW (z_ui (z_ui W3 (18 + 8 * t) 4 (((μ.1 (18 + 8 * t) 4) - ((hnd (v1.1 * (bif decide ((nI u1) = (nI dl)) then (6 : Int32) else 4))) + (300 * (μ.1 0 11)))) - ((hnd (v3.1 * (bif decide ((nI u3) = (nI dl)) then (6 : Int32) else 4))) + 0))) (18 + 8 * u3) 4 ((μ.1 (18 + 8 * u3) 4) + (((hnd (v3.1 * (bif decide ((nI u3) = (nI dl)) then (6 : Int32) else 4))) + 0) + 0))) 1 (nI u3) (nI t) (((hnd (v3.1 * (bif decide ((nI u3) = (nI dl)) then (6 : Int32) else 4))) + 0) + 0)) 0 12 0)
                refine z_rcs0 hc hH 8 (pc' := 167) (lv' := [(3, .int 4), (2, .int 0), (1, .int (nB ((decide ((nI u1) = (nI dl))) || (decide ((nI u3) = (nI dl)))))), (6, .int (((hnd (v3.1 * (bif decide ((nI u3) = (nI dl)) then (6 : Int32) else 4))) + 0) + 0)), (5, .int ((hnd (v3.1 * (bif decide ((nI u3) = (nI dl)) then (6 : Int32) else 4))) + 0)), (4, .int (nI u3)), (0, .ref 0)]) (st' := [.int (nB ((decide ((nI u1) = (nI dl))) || (decide ((nI u3) = (nI dl))))), .int (nB ((decide ((nI u1) = (nI dl))) || (decide ((nI u3) = (nI dl))))), .ref 0]) (by rfl) ?_
                have hJ8 : Z 0 175 [(3, .int 4), (2, .int 0), (1, .int (nB ((decide ((nI u1) = (nI dl))) || (decide ((nI u3) = (nI dl)))))), (6, .int (((hnd (v3.1 * (bif decide ((nI u3) = (nI dl)) then (6 : Int32) else 4))) + 0) + 0)), (5, .int ((hnd (v3.1 * (bif decide ((nI u3) = (nI dl)) then (6 : Int32) else 4))) + 0)), (4, .int (nI u3)), (0, .ref 0)] [.int (nB (!((decide ((nI u1) = (nI dl))) || (decide ((nI u3) = (nI dl)))))), .int (nB ((decide ((nI u1) = (nI dl))) || (decide ((nI u3) = (nI dl))))), .ref 0] (z_ui (rcW (z_ui (z_ui W3 (18 + 8 * t) 4 (((μ.1 (18 + 8 * t) 4) - ((hnd (v1.1 * (bif decide ((nI u1) = (nI dl)) then (6 : Int32) else 4))) + (300 * (μ.1 0 11)))) - ((hnd (v3.1 * (bif decide ((nI u3) = (nI dl)) then (6 : Int32) else 4))) + 0))) (18 + 8 * u3) 4 ((μ.1 (18 + 8 * u3) 4) + (((hnd (v3.1 * (bif decide ((nI u3) = (nI dl)) then (6 : Int32) else 4))) + 0) + 0))) 1 (nI u3) (nI t) (((hnd (v3.1 * (bif decide ((nI u3) = (nI dl)) then (6 : Int32) else 4))) + 0) + 0)) 0 12 0) := by
                  refine zq_call hc (z_cx_ok hH (by rfl)) (gc_endHandB d' (by omega) (z_ui (rcW (z_ui (z_ui W3 (18 + 8 * t) 4 (((μ.1 (18 + 8 * t) 4) - ((hnd (v1.1 * (bif decide ((nI u1) = (nI dl)) then (6 : Int32) else 4))) + (300 * (μ.1 0 11)))) - ((hnd (v3.1 * (bif decide ((nI u3) = (nI dl)) then (6 : Int32) else 4))) + 0))) (18 + 8 * u3) 4 ((μ.1 (18 + 8 * u3) 4) + (((hnd (v3.1 * (bif decide ((nI u3) = (nI dl)) then (6 : Int32) else 4))) + 0) + 0))) 1 (nI u3) (nI t) (((hnd (v3.1 * (bif decide ((nI u3) = (nI dl)) then (6 : Int32) else 4))) + 0) + 0)) 0 12 0) ((decide ((nI u1) = (nI dl))) || (decide ((nI u3) = (nI dl)))) (!((decide ((nI u1) = (nI dl))) || (decide ((nI u3) = (nI dl))))) dl e (by rw [ui_k (by first | decide | omega), rcW_o (by first | decide | omega), ui_o (by first | decide | omega), ui_o (by first | decide | omega), (hO3 _ _ (by omega)).1, ui_k (by first | decide | omega), rcW_o (by first | decide | omega), ui_o (by first | decide | omega), ui_o (by first | decide | omega), (hO1 _ _ (by omega)).1]; exact hdl) hdl4 he) (by decide +kernel) (fun r9 μ9 hq => ?_)
                  obtain ⟨rfl, rfl⟩ := hq
                  show Z 0 178 [(3, .int 4), (2, .int 0), (1, .int (nB ((decide ((nI u1) = (nI dl))) || (decide ((nI u3) = (nI dl)))))), (6, .int (((hnd (v3.1 * (bif decide ((nI u3) = (nI dl)) then (6 : Int32) else 4))) + 0) + 0)), (5, .int ((hnd (v3.1 * (bif decide ((nI u3) = (nI dl)) then (6 : Int32) else 4))) + 0)), (4, .int (nI u3)), (0, .ref 0)] [] (eHB (z_ui (rcW (z_ui (z_ui W3 (18 + 8 * t) 4 (((μ.1 (18 + 8 * t) 4) - ((hnd (v1.1 * (bif decide ((nI u1) = (nI dl)) then (6 : Int32) else 4))) + (300 * (μ.1 0 11)))) - ((hnd (v3.1 * (bif decide ((nI u3) = (nI dl)) then (6 : Int32) else 4))) + 0))) (18 + 8 * u3) 4 ((μ.1 (18 + 8 * u3) 4) + (((hnd (v3.1 * (bif decide ((nI u3) = (nI dl)) then (6 : Int32) else 4))) + 0) + 0))) 1 (nI u3) (nI t) (((hnd (v3.1 * (bif decide ((nI u3) = (nI dl)) then (6 : Int32) else 4))) + 0) + 0)) 0 12 0) ((decide ((nI u1) = (nI dl))) || (decide ((nI u3) = (nI dl)))) (!((decide ((nI u1) = (nI dl))) || (decide ((nI u3) = (nI dl))))) (xBk (z_ui (rcW (z_ui (z_ui W3 (18 + 8 * t) 4 (((μ.1 (18 + 8 * t) 4) - ((hnd (v1.1 * (bif decide ((nI u1) = (nI dl)) then (6 : Int32) else 4))) + (300 * (μ.1 0 11)))) - ((hnd (v3.1 * (bif decide ((nI u3) = (nI dl)) then (6 : Int32) else 4))) + 0))) (18 + 8 * u3) 4 ((μ.1 (18 + 8 * u3) 4) + (((hnd (v3.1 * (bif decide ((nI u3) = (nI dl)) then (6 : Int32) else 4))) + 0) + 0))) 1 (nI u3) (nI t) (((hnd (v3.1 * (bif decide ((nI u3) = (nI dl)) then (6 : Int32) else 4))) + 0) + 0)) 0 12 0)) dl e (rcM (z_ui (rcW (z_ui (z_ui W3 (18 + 8 * t) 4 (((μ.1 (18 + 8 * t) 4) - ((hnd (v1.1 * (bif decide ((nI u1) = (nI dl)) then (6 : Int32) else 4))) + (300 * (μ.1 0 11)))) - ((hnd (v3.1 * (bif decide ((nI u3) = (nI dl)) then (6 : Int32) else 4))) + 0))) (18 + 8 * u3) 4 ((μ.1 (18 + 8 * u3) 4) + (((hnd (v3.1 * (bif decide ((nI u3) = (nI dl)) then (6 : Int32) else 4))) + 0) + 0))) 1 (nI u3) (nI t) (((hnd (v3.1 * (bif decide ((nI u3) = (nI dl)) then (6 : Int32) else 4))) + 0) + 0)) 0 12 0)))
                  exact hr 0 178 _ _ _ none (by decide +kernel) (by rfl) (⟨rfl, v1, W1, v3, W3, hB1, hv1, hO1, hB3, hv3, hO3, rfl⟩)
                refine zq_if hc hH (by rfl) (tg := 174) (by rfl) (fun h9 => ?_) (fun h9 => ?_)
                · have h9 : ((decide ((nI u1) = (nI dl))) || (decide ((nI u3) = (nI dl)))) = true := nB_n.mp (cm_ne.mp h9)
                  refine z_rcs hc hH 1 (pc' := 175) (lv' := [(3, .int 4), (2, .int 0), (1, .int (nB ((decide ((nI u1) = (nI dl))) || (decide ((nI u3) = (nI dl)))))), (6, .int (((hnd (v3.1 * (bif decide ((nI u3) = (nI dl)) then (6 : Int32) else 4))) + 0) + 0)), (5, .int ((hnd (v3.1 * (bif decide ((nI u3) = (nI dl)) then (6 : Int32) else 4))) + 0)), (4, .int (nI u3)), (0, .ref 0)]) (st' := [.int 0, .int (nB ((decide ((nI u1) = (nI dl))) || (decide ((nI u3) = (nI dl))))), .ref 0]) (μ' := z_ui (rcW (z_ui (z_ui W3 (18 + 8 * t) 4 (((μ.1 (18 + 8 * t) 4) - ((hnd (v1.1 * (bif decide ((nI u1) = (nI dl)) then (6 : Int32) else 4))) + (300 * (μ.1 0 11)))) - ((hnd (v3.1 * (bif decide ((nI u3) = (nI dl)) then (6 : Int32) else 4))) + 0))) (18 + 8 * u3) 4 ((μ.1 (18 + 8 * u3) 4) + (((hnd (v3.1 * (bif decide ((nI u3) = (nI dl)) then (6 : Int32) else 4))) + 0) + 0))) 1 (nI u3) (nI t) (((hnd (v3.1 * (bif decide ((nI u3) = (nI dl)) then (6 : Int32) else 4))) + 0) + 0)) 0 12 0) (by rfl) ?_
                  exact zJ hJ8 rfl (by first | with_reducible rfl | (simp only [h9, lb_f, Int64.or_zero, Int32.add_zero, nB_t, nB_f, Bool.not_true, Bool.not_false, Bool.and_true, Bool.true_and, Bool.false_and, Bool.and_false, Bool.or_true, Bool.true_or, Bool.false_or, Bool.or_false, cond_true, cond_false]; done) | rfl) rfl
                · have h9 : ((decide ((nI u1) = (nI dl))) || (decide ((nI u3) = (nI dl)))) = false := nB_z.mp (cn_ne.mp h9)
                  refine z_rcs0 hc hH 2 (pc' := 175) (lv' := [(3, .int 4), (2, .int 0), (1, .int (nB ((decide ((nI u1) = (nI dl))) || (decide ((nI u3) = (nI dl)))))), (6, .int (((hnd (v3.1 * (bif decide ((nI u3) = (nI dl)) then (6 : Int32) else 4))) + 0) + 0)), (5, .int ((hnd (v3.1 * (bif decide ((nI u3) = (nI dl)) then (6 : Int32) else 4))) + 0)), (4, .int (nI u3)), (0, .ref 0)]) (st' := [.int 1, .int (nB ((decide ((nI u1) = (nI dl))) || (decide ((nI u3) = (nI dl))))), .ref 0]) (by rfl) ?_
                  exact zJ hJ8 rfl (by first | with_reducible rfl | (simp only [h9, lb_f, Int64.or_zero, Int32.add_zero, nB_t, nB_f, Bool.not_true, Bool.not_false, Bool.and_true, Bool.true_and, Bool.false_and, Bool.and_false, Bool.or_true, Bool.true_or, Bool.false_or, Bool.or_false, cond_true, cond_false]; done) | rfl) rfl
              refine zq_if hc hH (by rfl) (tg := 145) (by rfl) (fun h10 => ?_) (fun h10 => ?_)
              · have h10 : (decide ((nI u1) = (nI dl))) = true := nB_n.mp (cm_ne.mp h10)
                refine z_rcs hc hH 2 (pc' := 150) (lv' := [(6, .int (((hnd (v3.1 * (bif decide ((nI u3) = (nI dl)) then (6 : Int32) else 4))) + 0) + 0)), (5, .int ((hnd (v3.1 * (bif decide ((nI u3) = (nI dl)) then (6 : Int32) else 4))) + 0)), (4, .int (nI u3)), (3, .int 3), (2, .int 0), (1, .int (nB (decide ((nI u1) = (nI dl))))), (0, .ref 0)]) (st' := [.int 1]) (μ' := rcW (z_ui (z_ui W3 (18 + 8 * t) 4 (((μ.1 (18 + 8 * t) 4) - ((hnd (v1.1 * (bif decide ((nI u1) = (nI dl)) then (6 : Int32) else 4))) + (300 * (μ.1 0 11)))) - ((hnd (v3.1 * (bif decide ((nI u3) = (nI dl)) then (6 : Int32) else 4))) + 0))) (18 + 8 * u3) 4 ((μ.1 (18 + 8 * u3) 4) + (((hnd (v3.1 * (bif decide ((nI u3) = (nI dl)) then (6 : Int32) else 4))) + 0) + 0))) 1 (nI u3) (nI t) (((hnd (v3.1 * (bif decide ((nI u3) = (nI dl)) then (6 : Int32) else 4))) + 0) + 0)) (by rfl) ?_
                exact zJ hJ7 rfl (by first | with_reducible rfl | (simp only [h10, lb_f, Int64.or_zero, Int32.add_zero, nB_t, nB_f, Bool.not_true, Bool.not_false, Bool.and_true, Bool.true_and, Bool.false_and, Bool.and_false, Bool.or_true, Bool.true_or, Bool.false_or, Bool.or_false, cond_true, cond_false]; done) | rfl) rfl
              · have h10 : (decide ((nI u1) = (nI dl))) = false := nB_z.mp (cn_ne.mp h10)
                refine z_rcs0 hc hH 2 (pc' := 139) (lv' := [(6, .int (((hnd (v3.1 * (bif decide ((nI u3) = (nI dl)) then (6 : Int32) else 4))) + 0) + 0)), (5, .int ((hnd (v3.1 * (bif decide ((nI u3) = (nI dl)) then (6 : Int32) else 4))) + 0)), (4, .int (nI u3)), (3, .int 3), (2, .int 0), (1, .int (nB (decide ((nI u1) = (nI dl))))), (0, .ref 0)]) (st' := [.ref 0, .int (nI u3)]) (by rfl) ?_
                refine zq_gfi hc hH (by rfl) (ci := 5) (f := 9) (by rfl) (by decide +kernel) (by rfl) ?_
                refine zV1 (Z := Z) (Eq.trans (rcW_o (by first | decide | omega)) (Eq.trans (ui_o (by first | decide | omega)) (Eq.trans (ui_o (by first | decide | omega)) (Eq.trans (hO3 _ _ (by omega)).1 (Eq.trans (ui_k (by first | decide | omega)) (Eq.trans (rcW_o (by first | decide | omega)) (Eq.trans (ui_o (by first | decide | omega)) (Eq.trans (ui_o (by first | decide | omega)) (hO1 _ _ (by omega)).1)))))))) ?_
                rw [hdl]
                refine zq_ic hc hH (by rfl) (tg := 149) (by rfl) (fun h11 => ?_) (fun h11 => ?_)
                · have h11 : (decide ((nI u3) = (nI dl))) = false := decide_eq_false (cm_ne.mp h11)
                  refine z_rcs0 hc hH 1 (pc' := 150) (lv' := [(6, .int (((hnd (v3.1 * (bif decide ((nI u3) = (nI dl)) then (6 : Int32) else 4))) + 0) + 0)), (5, .int ((hnd (v3.1 * (bif decide ((nI u3) = (nI dl)) then (6 : Int32) else 4))) + 0)), (4, .int (nI u3)), (3, .int 3), (2, .int 0), (1, .int (nB (decide ((nI u1) = (nI dl))))), (0, .ref 0)]) (st' := [.int 0]) (by rfl) ?_
                  exact zJ hJ7 rfl (by first | with_reducible rfl | (simp only [h10, h11, lb_f, Int64.or_zero, Int32.add_zero, nB_t, nB_f, Bool.not_true, Bool.not_false, Bool.and_true, Bool.true_and, Bool.false_and, Bool.and_false, Bool.or_true, Bool.true_or, Bool.false_or, Bool.or_false, cond_true, cond_false]; done) | rfl) rfl
                · have h11 : (decide ((nI u3) = (nI dl))) = true := decide_eq_true (cn_ne.mp h11)
                  refine z_rcs0 hc hH 2 (pc' := 150) (lv' := [(6, .int (((hnd (v3.1 * (bif decide ((nI u3) = (nI dl)) then (6 : Int32) else 4))) + 0) + 0)), (5, .int ((hnd (v3.1 * (bif decide ((nI u3) = (nI dl)) then (6 : Int32) else 4))) + 0)), (4, .int (nI u3)), (3, .int 3), (2, .int 0), (1, .int (nB (decide ((nI u1) = (nI dl))))), (0, .ref 0)]) (st' := [.int 1]) (by rfl) ?_
                  exact zJ hJ7 rfl (by first | with_reducible rfl | (simp only [h10, h11, lb_f, Int64.or_zero, Int32.add_zero, nB_t, nB_f, Bool.not_true, Bool.not_false, Bool.and_true, Bool.true_and, Bool.false_and, Bool.and_false, Bool.or_true, Bool.true_or, Bool.false_or, Bool.or_false, cond_true, cond_false]; done) | rfl) rfl
            refine zq_ic hc hH (by rfl) (tg := 64) (by rfl) (fun h12 => ?_) (fun h12 => ?_)
            · have h12 : (decide ((nI u3) = (nI dl))) = false := decide_eq_false (cm_ne.mp h12)
              refine z_rcs hc hH 1 (pc' := 65) (lv' := [(4, .int (nI u3)), (3, .int 3), (2, .int 0), (1, .int (nB (decide ((nI u1) = (nI dl))))), (6, .int (((hnd (v1.1 * (bif decide ((nI u1) = (nI dl)) then (6 : Int32) else 4))) + (300 * (μ.1 0 11))) + ((μ.1 0 12) * 1000))), (5, .int ((hnd (v1.1 * (bif decide ((nI u1) = (nI dl)) then (6 : Int32) else 4))) + (300 * (μ.1 0 11)))), (0, .ref 0)]) (st' := [.int 4, .int v3.1]) (μ' := W3) (by rfl) ?_
              exact zJ hJ6 rfl (by first | with_reducible rfl | (simp only [h12, lb_f, Int64.or_zero, Int32.add_zero, nB_t, nB_f, Bool.not_true, Bool.not_false, Bool.and_true, Bool.true_and, Bool.false_and, Bool.and_false, Bool.or_true, Bool.true_or, Bool.false_or, Bool.or_false, cond_true, cond_false]; done) | rfl) rfl
            · have h12 : (decide ((nI u3) = (nI dl))) = true := decide_eq_true (cn_ne.mp h12)
              refine z_rcs hc hH 2 (pc' := 65) (lv' := [(4, .int (nI u3)), (3, .int 3), (2, .int 0), (1, .int (nB (decide ((nI u1) = (nI dl))))), (6, .int (((hnd (v1.1 * (bif decide ((nI u1) = (nI dl)) then (6 : Int32) else 4))) + (300 * (μ.1 0 11))) + ((μ.1 0 12) * 1000))), (5, .int ((hnd (v1.1 * (bif decide ((nI u1) = (nI dl)) then (6 : Int32) else 4))) + (300 * (μ.1 0 11)))), (0, .ref 0)]) (st' := [.int 6, .int v3.1]) (μ' := W3) (by rfl) ?_
              exact zJ hJ6 rfl (by first | with_reducible rfl | (simp only [h12, lb_f, Int64.or_zero, Int32.add_zero, nB_t, nB_f, Bool.not_true, Bool.not_false, Bool.and_true, Bool.true_and, Bool.false_and, Bool.and_false, Bool.or_true, Bool.true_or, Bool.false_or, Bool.or_false, cond_true, cond_false]; done) | rfl) rfl
          · have h5 : (decide ((μ.1 (18 + 8 * u3) 9) = 0)) = true := decide_eq_true (cn_ne.mp h5)
            exact absurd (Eq.trans (Eq.symm (hs3)) h5) (by decide)
      refine zq_ic hc hH (by rfl) (tg := 149) (by rfl) (fun h13 => ?_) (fun h13 => ?_)
      · have h13 : (decide ((nI u1) = (nI dl))) = false := decide_eq_false (cm_ne.mp h13)
        refine z_rcs hc hH 1 (pc' := 150) (lv' := [(6, .int (((hnd (v1.1 * (bif decide ((nI u1) = (nI dl)) then (6 : Int32) else 4))) + (300 * (μ.1 0 11))) + ((μ.1 0 12) * 1000))), (5, .int ((hnd (v1.1 * (bif decide ((nI u1) = (nI dl)) then (6 : Int32) else 4))) + (300 * (μ.1 0 11)))), (4, .int (nI u1)), (3, .int 1), (2, .int (300 * (μ.1 0 11))), (1, .int 0), (0, .ref 0)]) (st' := [.int 0]) (μ' := rcW (z_ui (z_ui W1 (18 + 8 * t) 4 ((μ.1 (18 + 8 * t) 4) - ((hnd (v1.1 * (bif decide ((nI u1) = (nI dl)) then (6 : Int32) else 4))) + (300 * (μ.1 0 11))))) (18 + 8 * u1) 4 ((μ.1 (18 + 8 * u1) 4) + (((hnd (v1.1 * (bif decide ((nI u1) = (nI dl)) then (6 : Int32) else 4))) + (300 * (μ.1 0 11))) + ((μ.1 0 12) * 1000)))) 0 (nI u1) (nI t) (((hnd (v1.1 * (bif decide ((nI u1) = (nI dl)) then (6 : Int32) else 4))) + (300 * (μ.1 0 11))) + ((μ.1 0 12) * 1000))) (by rfl) ?_
        exact zJ hJ3 rfl (by first | with_reducible rfl | (simp only [h13, lb_f, Int64.or_zero, Int32.add_zero, nB_t, nB_f, Bool.not_true, Bool.not_false, Bool.and_true, Bool.true_and, Bool.false_and, Bool.and_false, Bool.or_true, Bool.true_or, Bool.false_or, Bool.or_false, cond_true, cond_false]; done) | rfl) rfl
      · have h13 : (decide ((nI u1) = (nI dl))) = true := decide_eq_true (cn_ne.mp h13)
        refine z_rcs0 hc hH 2 (pc' := 150) (lv' := [(6, .int (((hnd (v1.1 * (bif decide ((nI u1) = (nI dl)) then (6 : Int32) else 4))) + (300 * (μ.1 0 11))) + ((μ.1 0 12) * 1000))), (5, .int ((hnd (v1.1 * (bif decide ((nI u1) = (nI dl)) then (6 : Int32) else 4))) + (300 * (μ.1 0 11)))), (4, .int (nI u1)), (3, .int 1), (2, .int (300 * (μ.1 0 11))), (1, .int 0), (0, .ref 0)]) (st' := [.int 1]) (by rfl) ?_
        exact zJ hJ3 rfl (by first | with_reducible rfl | (simp only [h13, lb_f, Int64.or_zero, Int32.add_zero, nB_t, nB_f, Bool.not_true, Bool.not_false, Bool.and_true, Bool.true_and, Bool.false_and, Bool.and_false, Bool.or_true, Bool.true_or, Bool.false_or, Bool.or_false, cond_true, cond_false]; done) | rfl) rfl
    refine zq_ic hc hH (by rfl) (tg := 64) (by rfl) (fun h14 => ?_) (fun h14 => ?_)
    · have h14 : (decide ((nI u1) = (nI dl))) = false := decide_eq_false (cm_ne.mp h14)
      refine z_rcs hc hH 1 (pc' := 65) (lv' := [(4, .int (nI u1)), (3, .int 1), (2, .int (300 * (μ.1 0 11))), (1, .int 0), (0, .ref 0)]) (st' := [.int 4, .int v1.1]) (μ' := W1) (by rfl) ?_
      exact zJ hJ2 rfl (by first | with_reducible rfl | (simp only [h14, lb_f, Int64.or_zero, Int32.add_zero, nB_t, nB_f, Bool.not_true, Bool.not_false, Bool.and_true, Bool.true_and, Bool.false_and, Bool.and_false, Bool.or_true, Bool.true_or, Bool.false_or, Bool.or_false, cond_true, cond_false]; done) | rfl) rfl
    · have h14 : (decide ((nI u1) = (nI dl))) = true := decide_eq_true (cn_ne.mp h14)
      refine z_rcs hc hH 2 (pc' := 65) (lv' := [(4, .int (nI u1)), (3, .int 1), (2, .int (300 * (μ.1 0 11))), (1, .int 0), (0, .ref 0)]) (st' := [.int 6, .int v1.1]) (μ' := W1) (by rfl) ?_
      exact zJ hJ2 rfl (by first | with_reducible rfl | (simp only [h14, lb_f, Int64.or_zero, Int32.add_zero, nB_t, nB_f, Bool.not_true, Bool.not_false, Bool.and_true, Bool.true_and, Bool.false_and, Bool.and_false, Bool.or_true, Bool.true_or, Bool.false_or, Bool.or_false, cond_true, cond_false]; done) | rfl) rfl
  · have h1 : (decide ((μ.1 (18 + 8 * u1) 9) = 0)) = true := decide_eq_true (cn_ne.mp h1)
    exact absurd (Eq.trans (Eq.symm (hs1)) h1) (by decide)
noncomputable def wA110 (W2 : zM) (t dl e u1 u2 u3 : Nat) (v1 v2 : Q4) (μ : zM) : zM := eHB (z_ui (rcW (z_ui (z_ui W2 (18 + 8 * t) 4 (((μ.1 (18 + 8 * t) 4) - ((hnd (v1.1 * (bif decide ((nI u1) = (nI dl)) then (6 : Int32) else 4))) + (300 * (μ.1 0 11)))) - ((hnd (v2.1 * (bif decide ((nI u2) = (nI dl)) then (6 : Int32) else 4))) + 0))) (18 + 8 * u2) 4 ((μ.1 (18 + 8 * u2) 4) + (((hnd (v2.1 * (bif decide ((nI u2) = (nI dl)) then (6 : Int32) else 4))) + 0) + 0))) 1 (nI u2) (nI t) (((hnd (v2.1 * (bif decide ((nI u2) = (nI dl)) then (6 : Int32) else 4))) + 0) + 0)) 0 12 0) ((decide ((nI u1) = (nI dl))) || (decide ((nI u2) = (nI dl)))) (!((decide ((nI u1) = (nI dl))) || (decide ((nI u2) = (nI dl))))) (xBk (z_ui (rcW (z_ui (z_ui W2 (18 + 8 * t) 4 (((μ.1 (18 + 8 * t) 4) - ((hnd (v1.1 * (bif decide ((nI u1) = (nI dl)) then (6 : Int32) else 4))) + (300 * (μ.1 0 11)))) - ((hnd (v2.1 * (bif decide ((nI u2) = (nI dl)) then (6 : Int32) else 4))) + 0))) (18 + 8 * u2) 4 ((μ.1 (18 + 8 * u2) 4) + (((hnd (v2.1 * (bif decide ((nI u2) = (nI dl)) then (6 : Int32) else 4))) + 0) + 0))) 1 (nI u2) (nI t) (((hnd (v2.1 * (bif decide ((nI u2) = (nI dl)) then (6 : Int32) else 4))) + 0) + 0)) 0 12 0)) dl e (rcM (z_ui (rcW (z_ui (z_ui W2 (18 + 8 * t) 4 (((μ.1 (18 + 8 * t) 4) - ((hnd (v1.1 * (bif decide ((nI u1) = (nI dl)) then (6 : Int32) else 4))) + (300 * (μ.1 0 11)))) - ((hnd (v2.1 * (bif decide ((nI u2) = (nI dl)) then (6 : Int32) else 4))) + 0))) (18 + 8 * u2) 4 ((μ.1 (18 + 8 * u2) 4) + (((hnd (v2.1 * (bif decide ((nI u2) = (nI dl)) then (6 : Int32) else 4))) + 0) + 0))) 1 (nI u2) (nI t) (((hnd (v2.1 * (bif decide ((nI u2) = (nI dl)) then (6 : Int32) else 4))) + 0) + 0)) 0 12 0))
theorem gc_winByTile110 (d : Nat) (hd : 11 ≤ d) (μ : zM) (t c u1 u2 u3 : Nat) (ht4 : t < 4) (ht : μ.1 0 8 = nI t) (hu1 : (t + 1) % 4 = u1) (hu14 : u1 < 4) (hu2 : (t + 2) % 4 = u2) (hu24 : u2 < 4) (hu3 : (t + 3) % 4 = u3) (hu34 : u3 < 4) (dl e : Nat) (hdl : μ.1 0 9 = nI dl) (hdl4 : dl < 4) (he : (dl + 1) % 4 = e) (h06 : μ.1 0 6 = nI 0) (hA0 : a_H μ) (hs1 : decide (μ.1 (18 + 8 * u1) 9 = 0) = false) (hs2 : decide (μ.1 (18 + 8 * u2) 9 = 0) = false) (hs3 : decide (μ.1 (18 + 8 * u3) 9 = 0) = true) (B1 : Q4 → Prop) (hwg1 : ∀ M, WE μ M → a_H M → ∀ d, 10 ≤ d → z_C d mi_X6_weighHand [.ref 0, .int (nI u1), .int 0] M (fun r W => ∃ v, B1 v ∧ r = some (.int v.1) ∧ WOj M W ∧ bqJ W = v ∧ a_H W)) (B2 : Q4 → Prop) (hwg2 : ∀ M, WE μ M → a_H M → ∀ d, 10 ≤ d → z_C d mi_X6_weighHand [.ref 0, .int (nI u2), .int 0] M (fun r W => ∃ v, B2 v ∧ r = some (.int v.1) ∧ WOj M W ∧ bqJ W = v ∧ a_H W)) : z_C d mi_X6_winByTile [.ref 0] μ (fun r μ' => r = none ∧ ∃ v1 W1 v2 W2, B1 v1 ∧ bqJ W1 = v1 ∧ WOj μ W1 ∧ B2 v2 ∧ bqJ W2 = v2 ∧ WOj (z_ui (rcW (z_ui (z_ui W1 (18 + 8 * t) 4 ((μ.1 (18 + 8 * t) 4) - ((hnd (v1.1 * (bif decide ((nI u1) = (nI dl)) then (6 : Int32) else 4))) + (300 * (μ.1 0 11))))) (18 + 8 * u1) 4 ((μ.1 (18 + 8 * u1) 4) + (((hnd (v1.1 * (bif decide ((nI u1) = (nI dl)) then (6 : Int32) else 4))) + (300 * (μ.1 0 11))) + ((μ.1 0 12) * 1000)))) 0 (nI u1) (nI t) (((hnd (v1.1 * (bif decide ((nI u1) = (nI dl)) then (6 : Int32) else 4))) + (300 * (μ.1 0 11))) + ((μ.1 0 12) * 1000))) 0 12 0) W2 ∧ μ' = wA110 W2 t dl e u1 u2 u3 v1 v2 μ) := by
  refine z_C_in (by decide) (by omega) (fun d' Z ed hc hr => ?_)
  have hH : zH mi_X6_winByTile zt_X6_winByTile 79 6 7 := hh_X6_winByTile
  refine z_rcs hc hH 4 (pc' := 6) (lv' := [(1, .int 0), (0, .ref 0)]) (st' := [.ref 0, .int 300]) (μ' := μ) (by rfl) ?_
  refine zq_gfi hc hH (by rfl) (ci := 5) (f := 11) (by rfl) (by decide +kernel) (by rfl) ?_
  refine z_rcs hc hH 8 (pc' := 19) (lv' := [(3, .int 1), (2, .int (300 * (μ.1 0 11))), (1, .int 0), (0, .ref 0)]) (st' := [.ref 0]) (μ' := μ) (by rfl) ?_
  refine zq_gfi hc hH (by rfl) (ci := 5) (f := 8) (by rfl) (by decide +kernel) (by rfl) ?_
  rw [ht]
  refine z_rcs hc hH 2 (pc' := 24) (lv' := [(3, .int 1), (2, .int (300 * (μ.1 0 11))), (1, .int 0), (0, .ref 0)]) (st' := [.int ((nI t) + 1)]) (μ' := μ) (by rfl) ?_
  rw [show nI t + 1 = nI (t + 1) from by rw [show (1 : Int32) = nI 1 from rfl, nI_add]]
  refine z_rcs hc hH 2 (pc' := 26) (lv' := [(3, .int 1), (2, .int (300 * (μ.1 0 11))), (1, .int 0), (0, .ref 0)]) (st' := [.int ((nI (t + 1)) &&& 3)]) (μ' := μ) (by rfl) ?_
  rw [show nI (t + 1) &&& 3 = nI u1 from by rw [and3 (by omega), hu1]]
  refine z_rcs hc hH 3 (pc' := 31) (lv' := [(4, .int (nI u1)), (3, .int 1), (2, .int (300 * (μ.1 0 11))), (1, .int 0), (0, .ref 0)]) (st' := [.int (nI u1), .ref 0]) (μ' := μ) (by rfl) ?_
  refine zq_call hc (z_cx_ok hH (by rfl)) (gc_at4 d' (by omega) μ u1 hu14) (by decide +kernel) (fun r9 μ9 hq => ?_)
  obtain ⟨hμ9, rfl⟩ := hq
  rw [hμ9]
  clear hμ9 μ9
  show Z 0 34 [(4, .int (nI u1)), (3, .int 1), (2, .int (300 * (μ.1 0 11))), (1, .int 0), (0, .ref 0)] [.ref (18 + 8 * u1)] μ
  refine zq_gfi hc hH (by rfl) (ci := 1) (f := 9) (by rfl) (sj (P := fun i => okf 79 1 9 (18 + 8 * i)) hu14 (by decide +kernel)) (by rfl) ?_
  refine zq_if hc hH (by rfl) (tg := 43) (by rfl) (fun h1 => ?_) (fun h1 => ?_)
  · have h1 : (decide ((μ.1 (18 + 8 * u1) 9) = 0)) = false := decide_eq_false (cm_ne.mp h1)
    refine z_rcs hc hH 3 (pc' := 47) (lv' := [(4, .int (nI u1)), (3, .int 1), (2, .int (300 * (μ.1 0 11))), (1, .int 0), (0, .ref 0)]) (st' := [.int 0, .int (nI u1), .ref 0]) (μ' := μ) (by rfl) ?_
    refine zq_call hc (z_cx_ok hH (by rfl)) (hwg1 _ (WE_rf _) (hA0) d' (by omega)) (by decide +kernel) (fun r9 W1 hq => ?_)
    obtain ⟨v1, hB1, rfl, hO1, hv1, hA1⟩ := hq
    show Z 0 50 [(4, .int (nI u1)), (3, .int 1), (2, .int (300 * (μ.1 0 11))), (1, .int 0), (0, .ref 0)] [.int v1.1] W1
    refine z_rcs hc hH 2 (pc' := 53) (lv' := [(4, .int (nI u1)), (3, .int 1), (2, .int (300 * (μ.1 0 11))), (1, .int 0), (0, .ref 0)]) (st' := [.ref 0, .int (nI u1), .int v1.1]) (μ' := W1) (by rfl) ?_
    refine zq_gfi hc hH (by rfl) (ci := 5) (f := 9) (by rfl) (by decide +kernel) (by rfl) ?_
    rw [(hO1 _ _ (by omega)).1]
    rw [hdl]
    have hJ2 : Z 0 65 [(4, .int (nI u1)), (3, .int 1), (2, .int (300 * (μ.1 0 11))), (1, .int 0), (0, .ref 0)] [.int (bif decide ((nI u1) = (nI dl)) then (6 : Int32) else 4), .int v1.1] W1 := by
      refine z_rcs hc hH 1 (pc' := 66) (lv' := [(4, .int (nI u1)), (3, .int 1), (2, .int (300 * (μ.1 0 11))), (1, .int 0), (0, .ref 0)]) (st' := [.int (v1.1 * (bif decide ((nI u1) = (nI dl)) then (6 : Int32) else 4))]) (μ' := W1) (by rfl) ?_
      refine zq_call hc (z_cx_ok hH (by rfl)) (gc_hundreds d' (by omega) W1 (v1.1 * (bif decide ((nI u1) = (nI dl)) then (6 : Int32) else 4))) (by decide +kernel) (fun r9 μ9 hq => ?_)
      obtain ⟨hμ9, rfl⟩ := hq
      rw [hμ9]
      clear hμ9 μ9
      show Z 0 69 [(4, .int (nI u1)), (3, .int 1), (2, .int (300 * (μ.1 0 11))), (1, .int 0), (0, .ref 0)] [.int (hnd (v1.1 * (bif decide ((nI u1) = (nI dl)) then (6 : Int32) else 4)))] W1
      refine z_rcs hc hH 5 (pc' := 76) (lv' := [(5, .int ((hnd (v1.1 * (bif decide ((nI u1) = (nI dl)) then (6 : Int32) else 4))) + (300 * (μ.1 0 11)))), (4, .int (nI u1)), (3, .int 1), (2, .int (300 * (μ.1 0 11))), (1, .int 0), (0, .ref 0)]) (st' := [.ref 0, .int ((hnd (v1.1 * (bif decide ((nI u1) = (nI dl)) then (6 : Int32) else 4))) + (300 * (μ.1 0 11)))]) (μ' := W1) (by rfl) ?_
      refine zq_gfi hc hH (by rfl) (ci := 5) (f := 12) (by rfl) (by decide +kernel) (by rfl) ?_
      rw [(hO1 _ _ (by omega)).1]
      refine z_rcs hc hH 6 (pc' := 88) (lv' := [(6, .int (((hnd (v1.1 * (bif decide ((nI u1) = (nI dl)) then (6 : Int32) else 4))) + (300 * (μ.1 0 11))) + ((μ.1 0 12) * 1000))), (5, .int ((hnd (v1.1 * (bif decide ((nI u1) = (nI dl)) then (6 : Int32) else 4))) + (300 * (μ.1 0 11)))), (4, .int (nI u1)), (3, .int 1), (2, .int (300 * (μ.1 0 11))), (1, .int 0), (0, .ref 0)]) (st' := [.ref 0, .ref 0]) (μ' := W1) (by rfl) ?_
      refine zq_gfi hc hH (by rfl) (ci := 5) (f := 8) (by rfl) (by decide +kernel) (by rfl) ?_
      rw [(hO1 _ _ (by omega)).1]
      rw [ht]
      refine zq_call hc (z_cx_ok hH (by rfl)) (gc_at4 d' (by omega) W1 t ht4) (by decide +kernel) (fun r9 μ9 hq => ?_)
      obtain ⟨hμ9, rfl⟩ := hq
      rw [hμ9]
      clear hμ9 μ9
      show Z 0 94 [(6, .int (((hnd (v1.1 * (bif decide ((nI u1) = (nI dl)) then (6 : Int32) else 4))) + (300 * (μ.1 0 11))) + ((μ.1 0 12) * 1000))), (5, .int ((hnd (v1.1 * (bif decide ((nI u1) = (nI dl)) then (6 : Int32) else 4))) + (300 * (μ.1 0 11)))), (4, .int (nI u1)), (3, .int 1), (2, .int (300 * (μ.1 0 11))), (1, .int 0), (0, .ref 0)] [.ref (18 + 8 * t)] W1
      refine z_rcs hc hH 1 (pc' := 95) (lv' := [(6, .int (((hnd (v1.1 * (bif decide ((nI u1) = (nI dl)) then (6 : Int32) else 4))) + (300 * (μ.1 0 11))) + ((μ.1 0 12) * 1000))), (5, .int ((hnd (v1.1 * (bif decide ((nI u1) = (nI dl)) then (6 : Int32) else 4))) + (300 * (μ.1 0 11)))), (4, .int (nI u1)), (3, .int 1), (2, .int (300 * (μ.1 0 11))), (1, .int 0), (0, .ref 0)]) (st' := [.ref (18 + 8 * t), .ref (18 + 8 * t)]) (μ' := W1) (by rfl) ?_
      refine zq_gfi hc hH (by rfl) (ci := 1) (f := 4) (by rfl) (sj (P := fun i => okf 79 1 4 (18 + 8 * i)) ht4 (by decide +kernel)) (by rfl) ?_
      rw [(hO1 _ _ (by omega)).1]
      refine z_rcs hc hH 2 (pc' := 101) (lv' := [(6, .int (((hnd (v1.1 * (bif decide ((nI u1) = (nI dl)) then (6 : Int32) else 4))) + (300 * (μ.1 0 11))) + ((μ.1 0 12) * 1000))), (5, .int ((hnd (v1.1 * (bif decide ((nI u1) = (nI dl)) then (6 : Int32) else 4))) + (300 * (μ.1 0 11)))), (4, .int (nI u1)), (3, .int 1), (2, .int (300 * (μ.1 0 11))), (1, .int 0), (0, .ref 0)]) (st' := [.int ((μ.1 (18 + 8 * t) 4) - ((hnd (v1.1 * (bif decide ((nI u1) = (nI dl)) then (6 : Int32) else 4))) + (300 * (μ.1 0 11)))), .ref (18 + 8 * t)]) (μ' := W1) (by rfl) ?_
      refine zq_pfi hc hH (by rfl) (ci := 1) (f := 4) (by rfl) (sj (P := fun i => okf 79 1 4 (18 + 8 * i)) ht4 (by decide +kernel)) (by rfl) ?_
      show Z 0 104 [(6, .int (((hnd (v1.1 * (bif decide ((nI u1) = (nI dl)) then (6 : Int32) else 4))) + (300 * (μ.1 0 11))) + ((μ.1 0 12) * 1000))), (5, .int ((hnd (v1.1 * (bif decide ((nI u1) = (nI dl)) then (6 : Int32) else 4))) + (300 * (μ.1 0 11)))), (4, .int (nI u1)), (3, .int 1), (2, .int (300 * (μ.1 0 11))), (1, .int 0), (0, .ref 0)] [] (z_ui W1 (18 + 8 * t) 4 ((μ.1 (18 + 8 * t) 4) - ((hnd (v1.1 * (bif decide ((nI u1) = (nI dl)) then (6 : Int32) else 4))) + (300 * (μ.1 0 11)))))
      refine z_rcs0 hc hH 2 (pc' := 107) (lv' := [(6, .int (((hnd (v1.1 * (bif decide ((nI u1) = (nI dl)) then (6 : Int32) else 4))) + (300 * (μ.1 0 11))) + ((μ.1 0 12) * 1000))), (5, .int ((hnd (v1.1 * (bif decide ((nI u1) = (nI dl)) then (6 : Int32) else 4))) + (300 * (μ.1 0 11)))), (4, .int (nI u1)), (3, .int 1), (2, .int (300 * (μ.1 0 11))), (1, .int 0), (0, .ref 0)]) (st' := [.int (nI u1), .ref 0]) (by rfl) ?_
      refine zq_call hc (z_cx_ok hH (by rfl)) (gc_at4 d' (by omega) (z_ui W1 (18 + 8 * t) 4 ((μ.1 (18 + 8 * t) 4) - ((hnd (v1.1 * (bif decide ((nI u1) = (nI dl)) then (6 : Int32) else 4))) + (300 * (μ.1 0 11))))) u1 hu14) (by decide +kernel) (fun r9 μ9 hq => ?_)
      obtain ⟨hμ9, rfl⟩ := hq
      rw [hμ9]
      clear hμ9 μ9
      show Z 0 110 [(6, .int (((hnd (v1.1 * (bif decide ((nI u1) = (nI dl)) then (6 : Int32) else 4))) + (300 * (μ.1 0 11))) + ((μ.1 0 12) * 1000))), (5, .int ((hnd (v1.1 * (bif decide ((nI u1) = (nI dl)) then (6 : Int32) else 4))) + (300 * (μ.1 0 11)))), (4, .int (nI u1)), (3, .int 1), (2, .int (300 * (μ.1 0 11))), (1, .int 0), (0, .ref 0)] [.ref (18 + 8 * u1)] _
      refine z_rcs0 hc hH 1 (pc' := 111) (lv' := [(6, .int (((hnd (v1.1 * (bif decide ((nI u1) = (nI dl)) then (6 : Int32) else 4))) + (300 * (μ.1 0 11))) + ((μ.1 0 12) * 1000))), (5, .int ((hnd (v1.1 * (bif decide ((nI u1) = (nI dl)) then (6 : Int32) else 4))) + (300 * (μ.1 0 11)))), (4, .int (nI u1)), (3, .int 1), (2, .int (300 * (μ.1 0 11))), (1, .int 0), (0, .ref 0)]) (st' := [.ref (18 + 8 * u1), .ref (18 + 8 * u1)]) (by rfl) ?_
      refine zq_gfi hc hH (by rfl) (ci := 1) (f := 4) (by rfl) (sj (P := fun i => okf 79 1 4 (18 + 8 * i)) hu14 (by decide +kernel)) (by rfl) ?_
      refine zV1 (Z := Z) (Eq.trans (ui_o (by first | decide | omega)) (hO1 _ _ (by omega)).1) ?_
      refine z_rcs0 hc hH 2 (pc' := 117) (lv' := [(6, .int (((hnd (v1.1 * (bif decide ((nI u1) = (nI dl)) then (6 : Int32) else 4))) + (300 * (μ.1 0 11))) + ((μ.1 0 12) * 1000))), (5, .int ((hnd (v1.1 * (bif decide ((nI u1) = (nI dl)) then (6 : Int32) else 4))) + (300 * (μ.1 0 11)))), (4, .int (nI u1)), (3, .int 1), (2, .int (300 * (μ.1 0 11))), (1, .int 0), (0, .ref 0)]) (st' := [.int ((μ.1 (18 + 8 * u1) 4) + (((hnd (v1.1 * (bif decide ((nI u1) = (nI dl)) then (6 : Int32) else 4))) + (300 * (μ.1 0 11))) + ((μ.1 0 12) * 1000))), .ref (18 + 8 * u1)]) (by rfl) ?_
      refine zq_pfi hc hH (by rfl) (ci := 1) (f := 4) (by rfl) (sj (P := fun i => okf 79 1 4 (18 + 8 * i)) hu14 (by decide +kernel)) (by rfl) ?_
      show Z 0 120 [(6, .int (((hnd (v1.1 * (bif decide ((nI u1) = (nI dl)) then (6 : Int32) else 4))) + (300 * (μ.1 0 11))) + ((μ.1 0 12) * 1000))), (5, .int ((hnd (v1.1 * (bif decide ((nI u1) = (nI dl)) then (6 : Int32) else 4))) + (300 * (μ.1 0 11)))), (4, .int (nI u1)), (3, .int 1), (2, .int (300 * (μ.1 0 11))), (1, .int 0), (0, .ref 0)] [] (z_ui (z_ui W1 (18 + 8 * t) 4 ((μ.1 (18 + 8 * t) 4) - ((hnd (v1.1 * (bif decide ((nI u1) = (nI dl)) then (6 : Int32) else 4))) + (300 * (μ.1 0 11))))) (18 + 8 * u1) 4 ((μ.1 (18 + 8 * u1) 4) + (((hnd (v1.1 * (bif decide ((nI u1) = (nI dl)) then (6 : Int32) else 4))) + (300 * (μ.1 0 11))) + ((μ.1 0 12) * 1000))))
      refine z_rcs0 hc hH 3 (pc' := 124) (lv' := [(6, .int (((hnd (v1.1 * (bif decide ((nI u1) = (nI dl)) then (6 : Int32) else 4))) + (300 * (μ.1 0 11))) + ((μ.1 0 12) * 1000))), (5, .int ((hnd (v1.1 * (bif decide ((nI u1) = (nI dl)) then (6 : Int32) else 4))) + (300 * (μ.1 0 11)))), (4, .int (nI u1)), (3, .int 1), (2, .int (300 * (μ.1 0 11))), (1, .int 0), (0, .ref 0)]) (st' := [.ref 0, .int (nI u1), .ref 0]) (by rfl) ?_
      refine zq_gfi hc hH (by rfl) (ci := 5) (f := 8) (by rfl) (by decide +kernel) (by rfl) ?_
      refine zV1 (Z := Z) (Eq.trans (ui_o (by first | decide | omega)) (Eq.trans (ui_o (by first | decide | omega)) (hO1 _ _ (by omega)).1)) ?_
      rw [ht]
      refine z_rcs0 hc hH 1 (pc' := 129) (lv' := [(6, .int (((hnd (v1.1 * (bif decide ((nI u1) = (nI dl)) then (6 : Int32) else 4))) + (300 * (μ.1 0 11))) + ((μ.1 0 12) * 1000))), (5, .int ((hnd (v1.1 * (bif decide ((nI u1) = (nI dl)) then (6 : Int32) else 4))) + (300 * (μ.1 0 11)))), (4, .int (nI u1)), (3, .int 1), (2, .int (300 * (μ.1 0 11))), (1, .int 0), (0, .ref 0)]) (st' := [.int (((hnd (v1.1 * (bif decide ((nI u1) = (nI dl)) then (6 : Int32) else 4))) + (300 * (μ.1 0 11))) + ((μ.1 0 12) * 1000)), .int (nI t), .int (nI u1), .ref 0]) (by rfl) ?_
      refine zq_call hc (z_cx_ok hH (by rfl)) (gc_recordWin d' (by omega) (z_ui (z_ui W1 (18 + 8 * t) 4 ((μ.1 (18 + 8 * t) 4) - ((hnd (v1.1 * (bif decide ((nI u1) = (nI dl)) then (6 : Int32) else 4))) + (300 * (μ.1 0 11))))) (18 + 8 * u1) 4 ((μ.1 (18 + 8 * u1) 4) + (((hnd (v1.1 * (bif decide ((nI u1) = (nI dl)) then (6 : Int32) else 4))) + (300 * (μ.1 0 11))) + ((μ.1 0 12) * 1000)))) 0 (by omega) (by rw [ui_o (by first | decide | omega), ui_o (by first | decide | omega), (hO1 _ _ (by omega)).1]; exact h06) (nI u1) (nI t) (((hnd (v1.1 * (bif decide ((nI u1) = (nI dl)) then (6 : Int32) else 4))) + (300 * (μ.1 0 11))) + ((μ.1 0 12) * 1000))) (by decide +kernel) (fun r9 μ9 hq => ?_)
      obtain ⟨rfl, rfl⟩ := hq
      show Z 0 132 [(6, .int (((hnd (v1.1 * (bif decide ((nI u1) = (nI dl)) then (6 : Int32) else 4))) + (300 * (μ.1 0 11))) + ((μ.1 0 12) * 1000))), (5, .int ((hnd (v1.1 * (bif decide ((nI u1) = (nI dl)) then (6 : Int32) else 4))) + (300 * (μ.1 0 11)))), (4, .int (nI u1)), (3, .int 1), (2, .int (300 * (μ.1 0 11))), (1, .int 0), (0, .ref 0)] [] (rcW (z_ui (z_ui W1 (18 + 8 * t) 4 ((μ.1 (18 + 8 * t) 4) - ((hnd (v1.1 * (bif decide ((nI u1) = (nI dl)) then (6 : Int32) else 4))) + (300 * (μ.1 0 11))))) (18 + 8 * u1) 4 ((μ.1 (18 + 8 * u1) 4) + (((hnd (v1.1 * (bif decide ((nI u1) = (nI dl)) then (6 : Int32) else 4))) + (300 * (μ.1 0 11))) + ((μ.1 0 12) * 1000)))) 0 (nI u1) (nI t) (((hnd (v1.1 * (bif decide ((nI u1) = (nI dl)) then (6 : Int32) else 4))) + (300 * (μ.1 0 11))) + ((μ.1 0 12) * 1000)))
      refine z_rcs0 hc hH 4 (pc' := 139) (lv' := [(6, .int (((hnd (v1.1 * (bif decide ((nI u1) = (nI dl)) then (6 : Int32) else 4))) + (300 * (μ.1 0 11))) + ((μ.1 0 12) * 1000))), (5, .int ((hnd (v1.1 * (bif decide ((nI u1) = (nI dl)) then (6 : Int32) else 4))) + (300 * (μ.1 0 11)))), (4, .int (nI u1)), (3, .int 1), (2, .int (300 * (μ.1 0 11))), (1, .int 0), (0, .ref 0)]) (st' := [.ref 0, .int (nI u1)]) (by rfl) ?_
      refine zq_gfi hc hH (by rfl) (ci := 5) (f := 9) (by rfl) (by decide +kernel) (by rfl) ?_
      refine zV1 (Z := Z) (Eq.trans (rcW_o (by first | decide | omega)) (Eq.trans (ui_o (by first | decide | omega)) (Eq.trans (ui_o (by first | decide | omega)) (hO1 _ _ (by omega)).1))) ?_
      rw [hdl]
      have hJ3 : Z 0 150 [(6, .int (((hnd (v1.1 * (bif decide ((nI u1) = (nI dl)) then (6 : Int32) else 4))) + (300 * (μ.1 0 11))) + ((μ.1 0 12) * 1000))), (5, .int ((hnd (v1.1 * (bif decide ((nI u1) = (nI dl)) then (6 : Int32) else 4))) + (300 * (μ.1 0 11)))), (4, .int (nI u1)), (3, .int 1), (2, .int (300 * (μ.1 0 11))), (1, .int 0), (0, .ref 0)] [.int (nB (decide ((nI u1) = (nI dl))))] (rcW (z_ui (z_ui W1 (18 + 8 * t) 4 ((μ.1 (18 + 8 * t) 4) - ((hnd (v1.1 * (bif decide ((nI u1) = (nI dl)) then (6 : Int32) else 4))) + (300 * (μ.1 0 11))))) (18 + 8 * u1) 4 ((μ.1 (18 + 8 * u1) 4) + (((hnd (v1.1 * (bif decide ((nI u1) = (nI dl)) then (6 : Int32) else 4))) + (300 * (μ.1 0 11))) + ((μ.1 0 12) * 1000)))) 0 (nI u1) (nI t) (((hnd (v1.1 * (bif decide ((nI u1) = (nI dl)) then (6 : Int32) else 4))) + (300 * (μ.1 0 11))) + ((μ.1 0 12) * 1000))) := by
        refine z_rcs0 hc hH 5 (pc' := 155) (lv' := [(2, .int 0), (1, .int (nB (decide ((nI u1) = (nI dl))))), (6, .int (((hnd (v1.1 * (bif decide ((nI u1) = (nI dl)) then (6 : Int32) else 4))) + (300 * (μ.1 0 11))) + ((μ.1 0 12) * 1000))), (5, .int ((hnd (v1.1 * (bif decide ((nI u1) = (nI dl)) then (6 : Int32) else 4))) + (300 * (μ.1 0 11)))), (4, .int (nI u1)), (3, .int 1), (0, .ref 0)]) (st' := [.int 0, .ref 0]) (by rfl) ?_
        refine zq_pfi hc hH (by rfl) (ci := 5) (f := 12) (by rfl) (by decide +kernel) (by rfl) ?_
        show Z 0 158 [(2, .int 0), (1, .int (nB (decide ((nI u1) = (nI dl))))), (6, .int (((hnd (v1.1 * (bif decide ((nI u1) = (nI dl)) then (6 : Int32) else 4))) + (300 * (μ.1 0 11))) + ((μ.1 0 12) * 1000))), (5, .int ((hnd (v1.1 * (bif decide ((nI u1) = (nI dl)) then (6 : Int32) else 4))) + (300 * (μ.1 0 11)))), (4, .int (nI u1)), (3, .int 1), (0, .ref 0)] [] (z_ui (rcW (z_ui (z_ui W1 (18 + 8 * t) 4 ((μ.1 (18 + 8 * t) 4) - ((hnd (v1.1 * (bif decide ((nI u1) = (nI dl)) then (6 : Int32) else 4))) + (300 * (μ.1 0 11))))) (18 + 8 * u1) 4 ((μ.1 (18 + 8 * u1) 4) + (((hnd (v1.1 * (bif decide ((nI u1) = (nI dl)) then (6 : Int32) else 4))) + (300 * (μ.1 0 11))) + ((μ.1 0 12) * 1000)))) 0 (nI u1) (nI t) (((hnd (v1.1 * (bif decide ((nI u1) = (nI dl)) then (6 : Int32) else 4))) + (300 * (μ.1 0 11))) + ((μ.1 0 12) * 1000))) 0 12 0)
        refine z_rcs0 hc hH 6 (pc' := 19) (lv' := [(3, .int 2), (2, .int 0), (1, .int (nB (decide ((nI u1) = (nI dl))))), (6, .int (((hnd (v1.1 * (bif decide ((nI u1) = (nI dl)) then (6 : Int32) else 4))) + (300 * (μ.1 0 11))) + ((μ.1 0 12) * 1000))), (5, .int ((hnd (v1.1 * (bif decide ((nI u1) = (nI dl)) then (6 : Int32) else 4))) + (300 * (μ.1 0 11)))), (4, .int (nI u1)), (0, .ref 0)]) (st' := [.ref 0]) (by rfl) ?_
        refine zq_gfi hc hH (by rfl) (ci := 5) (f := 8) (by rfl) (by decide +kernel) (by rfl) ?_
        refine zV1 (Z := Z) (Eq.trans (ui_k (by first | decide | omega)) (Eq.trans (rcW_o (by first | decide | omega)) (Eq.trans (ui_o (by first | decide | omega)) (Eq.trans (ui_o (by first | decide | omega)) (hO1 _ _ (by omega)).1)))) ?_
        rw [ht]
        refine z_rcs0 hc hH 2 (pc' := 24) (lv' := [(3, .int 2), (2, .int 0), (1, .int (nB (decide ((nI u1) = (nI dl))))), (6, .int (((hnd (v1.1 * (bif decide ((nI u1) = (nI dl)) then (6 : Int32) else 4))) + (300 * (μ.1 0 11))) + ((μ.1 0 12) * 1000))), (5, .int ((hnd (v1.1 * (bif decide ((nI u1) = (nI dl)) then (6 : Int32) else 4))) + (300 * (μ.1 0 11)))), (4, .int (nI u1)), (0, .ref 0)]) (st' := [.int ((nI t) + 2)]) (by rfl) ?_
        rw [show nI t + 2 = nI (t + 2) from by rw [show (2 : Int32) = nI 2 from rfl, nI_add]]
        refine z_rcs0 hc hH 2 (pc' := 26) (lv' := [(3, .int 2), (2, .int 0), (1, .int (nB (decide ((nI u1) = (nI dl))))), (6, .int (((hnd (v1.1 * (bif decide ((nI u1) = (nI dl)) then (6 : Int32) else 4))) + (300 * (μ.1 0 11))) + ((μ.1 0 12) * 1000))), (5, .int ((hnd (v1.1 * (bif decide ((nI u1) = (nI dl)) then (6 : Int32) else 4))) + (300 * (μ.1 0 11)))), (4, .int (nI u1)), (0, .ref 0)]) (st' := [.int ((nI (t + 2)) &&& 3)]) (by rfl) ?_
        rw [show nI (t + 2) &&& 3 = nI u2 from by rw [and3 (by omega), hu2]]
        refine z_rcs0 hc hH 3 (pc' := 31) (lv' := [(4, .int (nI u2)), (3, .int 2), (2, .int 0), (1, .int (nB (decide ((nI u1) = (nI dl))))), (6, .int (((hnd (v1.1 * (bif decide ((nI u1) = (nI dl)) then (6 : Int32) else 4))) + (300 * (μ.1 0 11))) + ((μ.1 0 12) * 1000))), (5, .int ((hnd (v1.1 * (bif decide ((nI u1) = (nI dl)) then (6 : Int32) else 4))) + (300 * (μ.1 0 11)))), (0, .ref 0)]) (st' := [.int (nI u2), .ref 0]) (by rfl) ?_
        refine zq_call hc (z_cx_ok hH (by rfl)) (gc_at4 d' (by omega) (z_ui (rcW (z_ui (z_ui W1 (18 + 8 * t) 4 ((μ.1 (18 + 8 * t) 4) - ((hnd (v1.1 * (bif decide ((nI u1) = (nI dl)) then (6 : Int32) else 4))) + (300 * (μ.1 0 11))))) (18 + 8 * u1) 4 ((μ.1 (18 + 8 * u1) 4) + (((hnd (v1.1 * (bif decide ((nI u1) = (nI dl)) then (6 : Int32) else 4))) + (300 * (μ.1 0 11))) + ((μ.1 0 12) * 1000)))) 0 (nI u1) (nI t) (((hnd (v1.1 * (bif decide ((nI u1) = (nI dl)) then (6 : Int32) else 4))) + (300 * (μ.1 0 11))) + ((μ.1 0 12) * 1000))) 0 12 0) u2 hu24) (by decide +kernel) (fun r9 μ9 hq => ?_)
        obtain ⟨hμ9, rfl⟩ := hq
        rw [hμ9]
        clear hμ9 μ9
        show Z 0 34 [(4, .int (nI u2)), (3, .int 2), (2, .int 0), (1, .int (nB (decide ((nI u1) = (nI dl))))), (6, .int (((hnd (v1.1 * (bif decide ((nI u1) = (nI dl)) then (6 : Int32) else 4))) + (300 * (μ.1 0 11))) + ((μ.1 0 12) * 1000))), (5, .int ((hnd (v1.1 * (bif decide ((nI u1) = (nI dl)) then (6 : Int32) else 4))) + (300 * (μ.1 0 11)))), (0, .ref 0)] [.ref (18 + 8 * u2)] _
        refine zq_gfi hc hH (by rfl) (ci := 1) (f := 9) (by rfl) (sj (P := fun i => okf 79 1 9 (18 + 8 * i)) hu24 (by decide +kernel)) (by rfl) ?_
        refine zV1 (Z := Z) (Eq.trans (ui_o (by first | decide | omega)) (Eq.trans (rcW_o (by first | decide | omega)) (Eq.trans (ui_o (by first | decide | omega)) (Eq.trans (ui_o (by first | decide | omega)) (hO1 _ _ (by omega)).1)))) ?_
        refine zq_if hc hH (by rfl) (tg := 43) (by rfl) (fun h4 => ?_) (fun h4 => ?_)
        · have h4 : (decide ((μ.1 (18 + 8 * u2) 9) = 0)) = false := decide_eq_false (cm_ne.mp h4)
          refine z_rcs0 hc hH 3 (pc' := 47) (lv' := [(4, .int (nI u2)), (3, .int 2), (2, .int 0), (1, .int (nB (decide ((nI u1) = (nI dl))))), (6, .int (((hnd (v1.1 * (bif decide ((nI u1) = (nI dl)) then (6 : Int32) else 4))) + (300 * (μ.1 0 11))) + ((μ.1 0 12) * 1000))), (5, .int ((hnd (v1.1 * (bif decide ((nI u1) = (nI dl)) then (6 : Int32) else 4))) + (300 * (μ.1 0 11)))), (0, .ref 0)]) (st' := [.int 0, .int (nI u2), .ref 0]) (by rfl) ?_
          refine zq_call hc (z_cx_ok hH (by rfl)) (hwg2 _ (WE_b (WE_rc (WE_p (WE_p (WE_wo (WE_rf _) hO1) (by omega)) (by omega)) (by omega))) (a_H_ui (a_H_rcW (a_H_pt (a_H_pt (hA1) (by omega)) (by omega)) (by omega)) (bI_top _)) d' (by omega)) (by decide +kernel) (fun r9 W2 hq => ?_)
          obtain ⟨v2, hB2, rfl, hO2, hv2, hA2⟩ := hq
          show Z 0 50 [(4, .int (nI u2)), (3, .int 2), (2, .int 0), (1, .int (nB (decide ((nI u1) = (nI dl))))), (6, .int (((hnd (v1.1 * (bif decide ((nI u1) = (nI dl)) then (6 : Int32) else 4))) + (300 * (μ.1 0 11))) + ((μ.1 0 12) * 1000))), (5, .int ((hnd (v1.1 * (bif decide ((nI u1) = (nI dl)) then (6 : Int32) else 4))) + (300 * (μ.1 0 11)))), (0, .ref 0)] [.int v2.1] W2
          refine z_rcs hc hH 2 (pc' := 53) (lv' := [(4, .int (nI u2)), (3, .int 2), (2, .int 0), (1, .int (nB (decide ((nI u1) = (nI dl))))), (6, .int (((hnd (v1.1 * (bif decide ((nI u1) = (nI dl)) then (6 : Int32) else 4))) + (300 * (μ.1 0 11))) + ((μ.1 0 12) * 1000))), (5, .int ((hnd (v1.1 * (bif decide ((nI u1) = (nI dl)) then (6 : Int32) else 4))) + (300 * (μ.1 0 11)))), (0, .ref 0)]) (st' := [.ref 0, .int (nI u2), .int v2.1]) (μ' := W2) (by rfl) ?_
          refine zq_gfi hc hH (by rfl) (ci := 5) (f := 9) (by rfl) (by decide +kernel) (by rfl) ?_
          refine zV1 (Z := Z) (Eq.trans (hO2 _ _ (by omega)).1 (Eq.trans (ui_k (by first | decide | omega)) (Eq.trans (rcW_o (by first | decide | omega)) (Eq.trans (ui_o (by first | decide | omega)) (Eq.trans (ui_o (by first | decide | omega)) (hO1 _ _ (by omega)).1))))) ?_
          rw [hdl]
          have hJ5 : Z 0 65 [(4, .int (nI u2)), (3, .int 2), (2, .int 0), (1, .int (nB (decide ((nI u1) = (nI dl))))), (6, .int (((hnd (v1.1 * (bif decide ((nI u1) = (nI dl)) then (6 : Int32) else 4))) + (300 * (μ.1 0 11))) + ((μ.1 0 12) * 1000))), (5, .int ((hnd (v1.1 * (bif decide ((nI u1) = (nI dl)) then (6 : Int32) else 4))) + (300 * (μ.1 0 11)))), (0, .ref 0)] [.int (bif decide ((nI u2) = (nI dl)) then (6 : Int32) else 4), .int v2.1] W2 := by
            refine z_rcs hc hH 1 (pc' := 66) (lv' := [(4, .int (nI u2)), (3, .int 2), (2, .int 0), (1, .int (nB (decide ((nI u1) = (nI dl))))), (6, .int (((hnd (v1.1 * (bif decide ((nI u1) = (nI dl)) then (6 : Int32) else 4))) + (300 * (μ.1 0 11))) + ((μ.1 0 12) * 1000))), (5, .int ((hnd (v1.1 * (bif decide ((nI u1) = (nI dl)) then (6 : Int32) else 4))) + (300 * (μ.1 0 11)))), (0, .ref 0)]) (st' := [.int (v2.1 * (bif decide ((nI u2) = (nI dl)) then (6 : Int32) else 4))]) (μ' := W2) (by rfl) ?_
            refine zq_call hc (z_cx_ok hH (by rfl)) (gc_hundreds d' (by omega) W2 (v2.1 * (bif decide ((nI u2) = (nI dl)) then (6 : Int32) else 4))) (by decide +kernel) (fun r9 μ9 hq => ?_)
            obtain ⟨hμ9, rfl⟩ := hq
            rw [hμ9]
            clear hμ9 μ9
            show Z 0 69 [(4, .int (nI u2)), (3, .int 2), (2, .int 0), (1, .int (nB (decide ((nI u1) = (nI dl))))), (6, .int (((hnd (v1.1 * (bif decide ((nI u1) = (nI dl)) then (6 : Int32) else 4))) + (300 * (μ.1 0 11))) + ((μ.1 0 12) * 1000))), (5, .int ((hnd (v1.1 * (bif decide ((nI u1) = (nI dl)) then (6 : Int32) else 4))) + (300 * (μ.1 0 11)))), (0, .ref 0)] [.int (hnd (v2.1 * (bif decide ((nI u2) = (nI dl)) then (6 : Int32) else 4)))] W2
            refine z_rcs hc hH 5 (pc' := 76) (lv' := [(5, .int ((hnd (v2.1 * (bif decide ((nI u2) = (nI dl)) then (6 : Int32) else 4))) + 0)), (4, .int (nI u2)), (3, .int 2), (2, .int 0), (1, .int (nB (decide ((nI u1) = (nI dl))))), (6, .int (((hnd (v1.1 * (bif decide ((nI u1) = (nI dl)) then (6 : Int32) else 4))) + (300 * (μ.1 0 11))) + ((μ.1 0 12) * 1000))), (0, .ref 0)]) (st' := [.ref 0, .int ((hnd (v2.1 * (bif decide ((nI u2) = (nI dl)) then (6 : Int32) else 4))) + 0)]) (μ' := W2) (by rfl) ?_
            refine zq_gfi hc hH (by rfl) (ci := 5) (f := 12) (by rfl) (by decide +kernel) (by rfl) ?_
            rw [(hO2 _ _ (by omega)).1, ui_s]
            refine z_rcs hc hH 6 (pc' := 88) (lv' := [(6, .int (((hnd (v2.1 * (bif decide ((nI u2) = (nI dl)) then (6 : Int32) else 4))) + 0) + 0)), (5, .int ((hnd (v2.1 * (bif decide ((nI u2) = (nI dl)) then (6 : Int32) else 4))) + 0)), (4, .int (nI u2)), (3, .int 2), (2, .int 0), (1, .int (nB (decide ((nI u1) = (nI dl))))), (0, .ref 0)]) (st' := [.ref 0, .ref 0]) (μ' := W2) (by rfl) ?_
            refine zq_gfi hc hH (by rfl) (ci := 5) (f := 8) (by rfl) (by decide +kernel) (by rfl) ?_
            refine zV1 (Z := Z) (Eq.trans (hO2 _ _ (by omega)).1 (Eq.trans (ui_k (by first | decide | omega)) (Eq.trans (rcW_o (by first | decide | omega)) (Eq.trans (ui_o (by first | decide | omega)) (Eq.trans (ui_o (by first | decide | omega)) (hO1 _ _ (by omega)).1))))) ?_
            rw [ht]
            refine zq_call hc (z_cx_ok hH (by rfl)) (gc_at4 d' (by omega) W2 t ht4) (by decide +kernel) (fun r9 μ9 hq => ?_)
            obtain ⟨hμ9, rfl⟩ := hq
            rw [hμ9]
            clear hμ9 μ9
            show Z 0 94 [(6, .int (((hnd (v2.1 * (bif decide ((nI u2) = (nI dl)) then (6 : Int32) else 4))) + 0) + 0)), (5, .int ((hnd (v2.1 * (bif decide ((nI u2) = (nI dl)) then (6 : Int32) else 4))) + 0)), (4, .int (nI u2)), (3, .int 2), (2, .int 0), (1, .int (nB (decide ((nI u1) = (nI dl))))), (0, .ref 0)] [.ref (18 + 8 * t)] W2
            refine z_rcs hc hH 1 (pc' := 95) (lv' := [(6, .int (((hnd (v2.1 * (bif decide ((nI u2) = (nI dl)) then (6 : Int32) else 4))) + 0) + 0)), (5, .int ((hnd (v2.1 * (bif decide ((nI u2) = (nI dl)) then (6 : Int32) else 4))) + 0)), (4, .int (nI u2)), (3, .int 2), (2, .int 0), (1, .int (nB (decide ((nI u1) = (nI dl))))), (0, .ref 0)]) (st' := [.ref (18 + 8 * t), .ref (18 + 8 * t)]) (μ' := W2) (by rfl) ?_
            refine zq_gfi hc hH (by rfl) (ci := 1) (f := 4) (by rfl) (sj (P := fun i => okf 79 1 4 (18 + 8 * i)) ht4 (by decide +kernel)) (by rfl) ?_
            refine zV1 (Z := Z) (Eq.trans (hO2 _ _ (by omega)).1 (Eq.trans (ui_o (by first | decide | omega)) (Eq.trans (rcW_o (by first | decide | omega)) (Eq.trans (ui_o (by first | decide | omega)) (ui_s))))) ?_
            refine z_rcs hc hH 2 (pc' := 101) (lv' := [(6, .int (((hnd (v2.1 * (bif decide ((nI u2) = (nI dl)) then (6 : Int32) else 4))) + 0) + 0)), (5, .int ((hnd (v2.1 * (bif decide ((nI u2) = (nI dl)) then (6 : Int32) else 4))) + 0)), (4, .int (nI u2)), (3, .int 2), (2, .int 0), (1, .int (nB (decide ((nI u1) = (nI dl))))), (0, .ref 0)]) (st' := [.int (((μ.1 (18 + 8 * t) 4) - ((hnd (v1.1 * (bif decide ((nI u1) = (nI dl)) then (6 : Int32) else 4))) + (300 * (μ.1 0 11)))) - ((hnd (v2.1 * (bif decide ((nI u2) = (nI dl)) then (6 : Int32) else 4))) + 0)), .ref (18 + 8 * t)]) (μ' := W2) (by rfl) ?_
            refine zq_pfi hc hH (by rfl) (ci := 1) (f := 4) (by rfl) (sj (P := fun i => okf 79 1 4 (18 + 8 * i)) ht4 (by decide +kernel)) (by rfl) ?_
            show Z 0 104 [(6, .int (((hnd (v2.1 * (bif decide ((nI u2) = (nI dl)) then (6 : Int32) else 4))) + 0) + 0)), (5, .int ((hnd (v2.1 * (bif decide ((nI u2) = (nI dl)) then (6 : Int32) else 4))) + 0)), (4, .int (nI u2)), (3, .int 2), (2, .int 0), (1, .int (nB (decide ((nI u1) = (nI dl))))), (0, .ref 0)] [] (z_ui W2 (18 + 8 * t) 4 (((μ.1 (18 + 8 * t) 4) - ((hnd (v1.1 * (bif decide ((nI u1) = (nI dl)) then (6 : Int32) else 4))) + (300 * (μ.1 0 11)))) - ((hnd (v2.1 * (bif decide ((nI u2) = (nI dl)) then (6 : Int32) else 4))) + 0)))
            refine z_rcs0 hc hH 2 (pc' := 107) (lv' := [(6, .int (((hnd (v2.1 * (bif decide ((nI u2) = (nI dl)) then (6 : Int32) else 4))) + 0) + 0)), (5, .int ((hnd (v2.1 * (bif decide ((nI u2) = (nI dl)) then (6 : Int32) else 4))) + 0)), (4, .int (nI u2)), (3, .int 2), (2, .int 0), (1, .int (nB (decide ((nI u1) = (nI dl))))), (0, .ref 0)]) (st' := [.int (nI u2), .ref 0]) (by rfl) ?_
            refine zq_call hc (z_cx_ok hH (by rfl)) (gc_at4 d' (by omega) (z_ui W2 (18 + 8 * t) 4 (((μ.1 (18 + 8 * t) 4) - ((hnd (v1.1 * (bif decide ((nI u1) = (nI dl)) then (6 : Int32) else 4))) + (300 * (μ.1 0 11)))) - ((hnd (v2.1 * (bif decide ((nI u2) = (nI dl)) then (6 : Int32) else 4))) + 0))) u2 hu24) (by decide +kernel) (fun r9 μ9 hq => ?_)
            obtain ⟨hμ9, rfl⟩ := hq
            rw [hμ9]
            clear hμ9 μ9
            show Z 0 110 [(6, .int (((hnd (v2.1 * (bif decide ((nI u2) = (nI dl)) then (6 : Int32) else 4))) + 0) + 0)), (5, .int ((hnd (v2.1 * (bif decide ((nI u2) = (nI dl)) then (6 : Int32) else 4))) + 0)), (4, .int (nI u2)), (3, .int 2), (2, .int 0), (1, .int (nB (decide ((nI u1) = (nI dl))))), (0, .ref 0)] [.ref (18 + 8 * u2)] _
            refine z_rcs0 hc hH 1 (pc' := 111) (lv' := [(6, .int (((hnd (v2.1 * (bif decide ((nI u2) = (nI dl)) then (6 : Int32) else 4))) + 0) + 0)), (5, .int ((hnd (v2.1 * (bif decide ((nI u2) = (nI dl)) then (6 : Int32) else 4))) + 0)), (4, .int (nI u2)), (3, .int 2), (2, .int 0), (1, .int (nB (decide ((nI u1) = (nI dl))))), (0, .ref 0)]) (st' := [.ref (18 + 8 * u2), .ref (18 + 8 * u2)]) (by rfl) ?_
            refine zq_gfi hc hH (by rfl) (ci := 1) (f := 4) (by rfl) (sj (P := fun i => okf 79 1 4 (18 + 8 * i)) hu24 (by decide +kernel)) (by rfl) ?_
            refine zV1 (Z := Z) (Eq.trans (ui_o (by first | decide | omega)) (Eq.trans (hO2 _ _ (by omega)).1 (Eq.trans (ui_o (by first | decide | omega)) (Eq.trans (rcW_o (by first | decide | omega)) (Eq.trans (ui_o (by first | decide | omega)) (Eq.trans (ui_o (by first | decide | omega)) (hO1 _ _ (by omega)).1)))))) ?_
            refine z_rcs0 hc hH 2 (pc' := 117) (lv' := [(6, .int (((hnd (v2.1 * (bif decide ((nI u2) = (nI dl)) then (6 : Int32) else 4))) + 0) + 0)), (5, .int ((hnd (v2.1 * (bif decide ((nI u2) = (nI dl)) then (6 : Int32) else 4))) + 0)), (4, .int (nI u2)), (3, .int 2), (2, .int 0), (1, .int (nB (decide ((nI u1) = (nI dl))))), (0, .ref 0)]) (st' := [.int ((μ.1 (18 + 8 * u2) 4) + (((hnd (v2.1 * (bif decide ((nI u2) = (nI dl)) then (6 : Int32) else 4))) + 0) + 0)), .ref (18 + 8 * u2)]) (by rfl) ?_
            refine zq_pfi hc hH (by rfl) (ci := 1) (f := 4) (by rfl) (sj (P := fun i => okf 79 1 4 (18 + 8 * i)) hu24 (by decide +kernel)) (by rfl) ?_
            show Z 0 120 [(6, .int (((hnd (v2.1 * (bif decide ((nI u2) = (nI dl)) then (6 : Int32) else 4))) + 0) + 0)), (5, .int ((hnd (v2.1 * (bif decide ((nI u2) = (nI dl)) then (6 : Int32) else 4))) + 0)), (4, .int (nI u2)), (3, .int 2), (2, .int 0), (1, .int (nB (decide ((nI u1) = (nI dl))))), (0, .ref 0)] [] (z_ui (z_ui W2 (18 + 8 * t) 4 (((μ.1 (18 + 8 * t) 4) - ((hnd (v1.1 * (bif decide ((nI u1) = (nI dl)) then (6 : Int32) else 4))) + (300 * (μ.1 0 11)))) - ((hnd (v2.1 * (bif decide ((nI u2) = (nI dl)) then (6 : Int32) else 4))) + 0))) (18 + 8 * u2) 4 ((μ.1 (18 + 8 * u2) 4) + (((hnd (v2.1 * (bif decide ((nI u2) = (nI dl)) then (6 : Int32) else 4))) + 0) + 0)))
            refine z_rcs0 hc hH 3 (pc' := 124) (lv' := [(6, .int (((hnd (v2.1 * (bif decide ((nI u2) = (nI dl)) then (6 : Int32) else 4))) + 0) + 0)), (5, .int ((hnd (v2.1 * (bif decide ((nI u2) = (nI dl)) then (6 : Int32) else 4))) + 0)), (4, .int (nI u2)), (3, .int 2), (2, .int 0), (1, .int (nB (decide ((nI u1) = (nI dl))))), (0, .ref 0)]) (st' := [.ref 0, .int (nI u2), .ref 0]) (by rfl) ?_
            refine zq_gfi hc hH (by rfl) (ci := 5) (f := 8) (by rfl) (by decide +kernel) (by rfl) ?_
            refine zV1 (Z := Z) (Eq.trans (ui_o (by first | decide | omega)) (Eq.trans (ui_o (by first | decide | omega)) (Eq.trans (hO2 _ _ (by omega)).1 (Eq.trans (ui_k (by first | decide | omega)) (Eq.trans (rcW_o (by first | decide | omega)) (Eq.trans (ui_o (by first | decide | omega)) (Eq.trans (ui_o (by first | decide | omega)) (hO1 _ _ (by omega)).1))))))) ?_
            rw [ht]
            refine z_rcs0 hc hH 1 (pc' := 129) (lv' := [(6, .int (((hnd (v2.1 * (bif decide ((nI u2) = (nI dl)) then (6 : Int32) else 4))) + 0) + 0)), (5, .int ((hnd (v2.1 * (bif decide ((nI u2) = (nI dl)) then (6 : Int32) else 4))) + 0)), (4, .int (nI u2)), (3, .int 2), (2, .int 0), (1, .int (nB (decide ((nI u1) = (nI dl))))), (0, .ref 0)]) (st' := [.int (((hnd (v2.1 * (bif decide ((nI u2) = (nI dl)) then (6 : Int32) else 4))) + 0) + 0), .int (nI t), .int (nI u2), .ref 0]) (by rfl) ?_
            refine zq_call hc (z_cx_ok hH (by rfl)) (gc_recordWin d' (by omega) (z_ui (z_ui W2 (18 + 8 * t) 4 (((μ.1 (18 + 8 * t) 4) - ((hnd (v1.1 * (bif decide ((nI u1) = (nI dl)) then (6 : Int32) else 4))) + (300 * (μ.1 0 11)))) - ((hnd (v2.1 * (bif decide ((nI u2) = (nI dl)) then (6 : Int32) else 4))) + 0))) (18 + 8 * u2) 4 ((μ.1 (18 + 8 * u2) 4) + (((hnd (v2.1 * (bif decide ((nI u2) = (nI dl)) then (6 : Int32) else 4))) + 0) + 0))) 1 (by omega) (by rw [ui_o (by first | decide | omega), ui_o (by first | decide | omega), (hO2 _ _ (by omega)).1, ui_k (by first | decide | omega), rcW_6]) (nI u2) (nI t) (((hnd (v2.1 * (bif decide ((nI u2) = (nI dl)) then (6 : Int32) else 4))) + 0) + 0)) (by decide +kernel) (fun r9 μ9 hq => ?_)
            obtain ⟨rfl, rfl⟩ := hq
            show Z 0 132 [(6, .int (((hnd (v2.1 * (bif decide ((nI u2) = (nI dl)) then (6 : Int32) else 4))) + 0) + 0)), (5, .int ((hnd (v2.1 * (bif decide ((nI u2) = (nI dl)) then (6 : Int32) else 4))) + 0)), (4, .int (nI u2)), (3, .int 2), (2, .int 0), (1, .int (nB (decide ((nI u1) = (nI dl))))), (0, .ref 0)] [] (rcW (z_ui (z_ui W2 (18 + 8 * t) 4 (((μ.1 (18 + 8 * t) 4) - ((hnd (v1.1 * (bif decide ((nI u1) = (nI dl)) then (6 : Int32) else 4))) + (300 * (μ.1 0 11)))) - ((hnd (v2.1 * (bif decide ((nI u2) = (nI dl)) then (6 : Int32) else 4))) + 0))) (18 + 8 * u2) 4 ((μ.1 (18 + 8 * u2) 4) + (((hnd (v2.1 * (bif decide ((nI u2) = (nI dl)) then (6 : Int32) else 4))) + 0) + 0))) 1 (nI u2) (nI t) (((hnd (v2.1 * (bif decide ((nI u2) = (nI dl)) then (6 : Int32) else 4))) + 0) + 0))
            refine z_rcs0 hc hH 1 (pc' := 133) (lv' := [(6, .int (((hnd (v2.1 * (bif decide ((nI u2) = (nI dl)) then (6 : Int32) else 4))) + 0) + 0)), (5, .int ((hnd (v2.1 * (bif decide ((nI u2) = (nI dl)) then (6 : Int32) else 4))) + 0)), (4, .int (nI u2)), (3, .int 2), (2, .int 0), (1, .int (nB (decide ((nI u1) = (nI dl))))), (0, .ref 0)]) (st' := [.int (nB (decide ((nI u1) = (nI dl))))]) (by rfl) ?_
            have hJ6 : Z 0 150 [(6, .int (((hnd (v2.1 * (bif decide ((nI u2) = (nI dl)) then (6 : Int32) else 4))) + 0) + 0)), (5, .int ((hnd (v2.1 * (bif decide ((nI u2) = (nI dl)) then (6 : Int32) else 4))) + 0)), (4, .int (nI u2)), (3, .int 2), (2, .int 0), (1, .int (nB (decide ((nI u1) = (nI dl))))), (0, .ref 0)] [.int (nB ((decide ((nI u1) = (nI dl))) || (decide ((nI u2) = (nI dl)))))] (rcW (z_ui (z_ui W2 (18 + 8 * t) 4 (((μ.1 (18 + 8 * t) 4) - ((hnd (v1.1 * (bif decide ((nI u1) = (nI dl)) then (6 : Int32) else 4))) + (300 * (μ.1 0 11)))) - ((hnd (v2.1 * (bif decide ((nI u2) = (nI dl)) then (6 : Int32) else 4))) + 0))) (18 + 8 * u2) 4 ((μ.1 (18 + 8 * u2) 4) + (((hnd (v2.1 * (bif decide ((nI u2) = (nI dl)) then (6 : Int32) else 4))) + 0) + 0))) 1 (nI u2) (nI t) (((hnd (v2.1 * (bif decide ((nI u2) = (nI dl)) then (6 : Int32) else 4))) + 0) + 0)) := by
              refine z_rcs0 hc hH 5 (pc' := 155) (lv' := [(2, .int 0), (1, .int (nB ((decide ((nI u1) = (nI dl))) || (decide ((nI u2) = (nI dl)))))), (6, .int (((hnd (v2.1 * (bif decide ((nI u2) = (nI dl)) then (6 : Int32) else 4))) + 0) + 0)), (5, .int ((hnd (v2.1 * (bif decide ((nI u2) = (nI dl)) then (6 : Int32) else 4))) + 0)), (4, .int (nI u2)), (3, .int 2), (0, .ref 0)]) (st' := [.int 0, .ref 0]) (by rfl) ?_
              refine zq_pfi hc hH (by rfl) (ci := 5) (f := 12) (by rfl) (by decide +kernel) (by rfl) ?_
              show Z 0 158 [(2, .int 0), (1, .int (nB ((decide ((nI u1) = (nI dl))) || (decide ((nI u2) = (nI dl)))))), (6, .int (((hnd (v2.1 * (bif decide ((nI u2) = (nI dl)) then (6 : Int32) else 4))) + 0) + 0)), (5, .int ((hnd (v2.1 * (bif decide ((nI u2) = (nI dl)) then (6 : Int32) else 4))) + 0)), (4, .int (nI u2)), (3, .int 2), (0, .ref 0)] [] (z_ui (rcW (z_ui (z_ui W2 (18 + 8 * t) 4 (((μ.1 (18 + 8 * t) 4) - ((hnd (v1.1 * (bif decide ((nI u1) = (nI dl)) then (6 : Int32) else 4))) + (300 * (μ.1 0 11)))) - ((hnd (v2.1 * (bif decide ((nI u2) = (nI dl)) then (6 : Int32) else 4))) + 0))) (18 + 8 * u2) 4 ((μ.1 (18 + 8 * u2) 4) + (((hnd (v2.1 * (bif decide ((nI u2) = (nI dl)) then (6 : Int32) else 4))) + 0) + 0))) 1 (nI u2) (nI t) (((hnd (v2.1 * (bif decide ((nI u2) = (nI dl)) then (6 : Int32) else 4))) + 0) + 0)) 0 12 0)
              refine z_rcs0 hc hH 6 (pc' := 19) (lv' := [(3, .int 3), (2, .int 0), (1, .int (nB ((decide ((nI u1) = (nI dl))) || (decide ((nI u2) = (nI dl)))))), (6, .int (((hnd (v2.1 * (bif decide ((nI u2) = (nI dl)) then (6 : Int32) else 4))) + 0) + 0)), (5, .int ((hnd (v2.1 * (bif decide ((nI u2) = (nI dl)) then (6 : Int32) else 4))) + 0)), (4, .int (nI u2)), (0, .ref 0)]) (st' := [.ref 0]) (by rfl) ?_
              refine zq_gfi hc hH (by rfl) (ci := 5) (f := 8) (by rfl) (by decide +kernel) (by rfl) ?_
              refine zV1 (Z := Z) (Eq.trans (ui_k (by first | decide | omega)) (Eq.trans (rcW_o (by first | decide | omega)) (Eq.trans (ui_o (by first | decide | omega)) (Eq.trans (ui_o (by first | decide | omega)) (Eq.trans (hO2 _ _ (by omega)).1 (Eq.trans (ui_k (by first | decide | omega)) (Eq.trans (rcW_o (by first | decide | omega)) (Eq.trans (ui_o (by first | decide | omega)) (Eq.trans (ui_o (by first | decide | omega)) (hO1 _ _ (by omega)).1))))))))) ?_
              rw [ht]
              refine z_rcs0 hc hH 2 (pc' := 24) (lv' := [(3, .int 3), (2, .int 0), (1, .int (nB ((decide ((nI u1) = (nI dl))) || (decide ((nI u2) = (nI dl)))))), (6, .int (((hnd (v2.1 * (bif decide ((nI u2) = (nI dl)) then (6 : Int32) else 4))) + 0) + 0)), (5, .int ((hnd (v2.1 * (bif decide ((nI u2) = (nI dl)) then (6 : Int32) else 4))) + 0)), (4, .int (nI u2)), (0, .ref 0)]) (st' := [.int ((nI t) + 3)]) (by rfl) ?_
              rw [show nI t + 3 = nI (t + 3) from by rw [show (3 : Int32) = nI 3 from rfl, nI_add]]
              refine z_rcs0 hc hH 2 (pc' := 26) (lv' := [(3, .int 3), (2, .int 0), (1, .int (nB ((decide ((nI u1) = (nI dl))) || (decide ((nI u2) = (nI dl)))))), (6, .int (((hnd (v2.1 * (bif decide ((nI u2) = (nI dl)) then (6 : Int32) else 4))) + 0) + 0)), (5, .int ((hnd (v2.1 * (bif decide ((nI u2) = (nI dl)) then (6 : Int32) else 4))) + 0)), (4, .int (nI u2)), (0, .ref 0)]) (st' := [.int ((nI (t + 3)) &&& 3)]) (by rfl) ?_
              rw [show nI (t + 3) &&& 3 = nI u3 from by rw [and3 (by omega), hu3]]
              refine z_rcs0 hc hH 3 (pc' := 31) (lv' := [(4, .int (nI u3)), (3, .int 3), (2, .int 0), (1, .int (nB ((decide ((nI u1) = (nI dl))) || (decide ((nI u2) = (nI dl)))))), (6, .int (((hnd (v2.1 * (bif decide ((nI u2) = (nI dl)) then (6 : Int32) else 4))) + 0) + 0)), (5, .int ((hnd (v2.1 * (bif decide ((nI u2) = (nI dl)) then (6 : Int32) else 4))) + 0)), (0, .ref 0)]) (st' := [.int (nI u3), .ref 0]) (by rfl) ?_
              refine zq_call hc (z_cx_ok hH (by rfl)) (gc_at4 d' (by omega) (z_ui (rcW (z_ui (z_ui W2 (18 + 8 * t) 4 (((μ.1 (18 + 8 * t) 4) - ((hnd (v1.1 * (bif decide ((nI u1) = (nI dl)) then (6 : Int32) else 4))) + (300 * (μ.1 0 11)))) - ((hnd (v2.1 * (bif decide ((nI u2) = (nI dl)) then (6 : Int32) else 4))) + 0))) (18 + 8 * u2) 4 ((μ.1 (18 + 8 * u2) 4) + (((hnd (v2.1 * (bif decide ((nI u2) = (nI dl)) then (6 : Int32) else 4))) + 0) + 0))) 1 (nI u2) (nI t) (((hnd (v2.1 * (bif decide ((nI u2) = (nI dl)) then (6 : Int32) else 4))) + 0) + 0)) 0 12 0) u3 hu34) (by decide +kernel) (fun r9 μ9 hq => ?_)
              obtain ⟨hμ9, rfl⟩ := hq
              rw [hμ9]
              clear hμ9 μ9
              show Z 0 34 [(4, .int (nI u3)), (3, .int 3), (2, .int 0), (1, .int (nB ((decide ((nI u1) = (nI dl))) || (decide ((nI u2) = (nI dl)))))), (6, .int (((hnd (v2.1 * (bif decide ((nI u2) = (nI dl)) then (6 : Int32) else 4))) + 0) + 0)), (5, .int ((hnd (v2.1 * (bif decide ((nI u2) = (nI dl)) then (6 : Int32) else 4))) + 0)), (0, .ref 0)] [.ref (18 + 8 * u3)] _
              refine zq_gfi hc hH (by rfl) (ci := 1) (f := 9) (by rfl) (sj (P := fun i => okf 79 1 9 (18 + 8 * i)) hu34 (by decide +kernel)) (by rfl) ?_
              refine zV1 (Z := Z) (Eq.trans (ui_o (by first | decide | omega)) (Eq.trans (rcW_o (by first | decide | omega)) (Eq.trans (ui_o (by first | decide | omega)) (Eq.trans (ui_o (by first | decide | omega)) (Eq.trans (hO2 _ _ (by omega)).1 (Eq.trans (ui_o (by first | decide | omega)) (Eq.trans (rcW_o (by first | decide | omega)) (Eq.trans (ui_o (by first | decide | omega)) (Eq.trans (ui_o (by first | decide | omega)) (hO1 _ _ (by omega)).1))))))))) ?_
              refine zq_if hc hH (by rfl) (tg := 43) (by rfl) (fun h7 => ?_) (fun h7 => ?_)
              · have h7 : (decide ((μ.1 (18 + 8 * u3) 9) = 0)) = false := decide_eq_false (cm_ne.mp h7)
                exact absurd (Eq.trans (Eq.symm (hs3)) h7) (by decide)
              · have h7 : (decide ((μ.1 (18 + 8 * u3) 9) = 0)) = true := decide_eq_true (cn_ne.mp h7)
                refine z_rcs0 hc hH 9 (pc' := 167) (lv' := [(3, .int 4), (4, .int (nI u3)), (2, .int 0), (1, .int (nB ((decide ((nI u1) = (nI dl))) || (decide ((nI u2) = (nI dl)))))), (6, .int (((hnd (v2.1 * (bif decide ((nI u2) = (nI dl)) then (6 : Int32) else 4))) + 0) + 0)), (5, .int ((hnd (v2.1 * (bif decide ((nI u2) = (nI dl)) then (6 : Int32) else 4))) + 0)), (0, .ref 0)]) (st' := [.int (nB ((decide ((nI u1) = (nI dl))) || (decide ((nI u2) = (nI dl))))), .int (nB ((decide ((nI u1) = (nI dl))) || (decide ((nI u2) = (nI dl))))), .ref 0]) (by rfl) ?_
                have hJ8 : Z 0 175 [(3, .int 4), (4, .int (nI u3)), (2, .int 0), (1, .int (nB ((decide ((nI u1) = (nI dl))) || (decide ((nI u2) = (nI dl)))))), (6, .int (((hnd (v2.1 * (bif decide ((nI u2) = (nI dl)) then (6 : Int32) else 4))) + 0) + 0)), (5, .int ((hnd (v2.1 * (bif decide ((nI u2) = (nI dl)) then (6 : Int32) else 4))) + 0)), (0, .ref 0)] [.int (nB (!((decide ((nI u1) = (nI dl))) || (decide ((nI u2) = (nI dl)))))), .int (nB ((decide ((nI u1) = (nI dl))) || (decide ((nI u2) = (nI dl))))), .ref 0] (z_ui (rcW (z_ui (z_ui W2 (18 + 8 * t) 4 (((μ.1 (18 + 8 * t) 4) - ((hnd (v1.1 * (bif decide ((nI u1) = (nI dl)) then (6 : Int32) else 4))) + (300 * (μ.1 0 11)))) - ((hnd (v2.1 * (bif decide ((nI u2) = (nI dl)) then (6 : Int32) else 4))) + 0))) (18 + 8 * u2) 4 ((μ.1 (18 + 8 * u2) 4) + (((hnd (v2.1 * (bif decide ((nI u2) = (nI dl)) then (6 : Int32) else 4))) + 0) + 0))) 1 (nI u2) (nI t) (((hnd (v2.1 * (bif decide ((nI u2) = (nI dl)) then (6 : Int32) else 4))) + 0) + 0)) 0 12 0) := by
                  refine zq_call hc (z_cx_ok hH (by rfl)) (gc_endHandB d' (by omega) (z_ui (rcW (z_ui (z_ui W2 (18 + 8 * t) 4 (((μ.1 (18 + 8 * t) 4) - ((hnd (v1.1 * (bif decide ((nI u1) = (nI dl)) then (6 : Int32) else 4))) + (300 * (μ.1 0 11)))) - ((hnd (v2.1 * (bif decide ((nI u2) = (nI dl)) then (6 : Int32) else 4))) + 0))) (18 + 8 * u2) 4 ((μ.1 (18 + 8 * u2) 4) + (((hnd (v2.1 * (bif decide ((nI u2) = (nI dl)) then (6 : Int32) else 4))) + 0) + 0))) 1 (nI u2) (nI t) (((hnd (v2.1 * (bif decide ((nI u2) = (nI dl)) then (6 : Int32) else 4))) + 0) + 0)) 0 12 0) ((decide ((nI u1) = (nI dl))) || (decide ((nI u2) = (nI dl)))) (!((decide ((nI u1) = (nI dl))) || (decide ((nI u2) = (nI dl))))) dl e (by rw [ui_k (by first | decide | omega), rcW_o (by first | decide | omega), ui_o (by first | decide | omega), ui_o (by first | decide | omega), (hO2 _ _ (by omega)).1, ui_k (by first | decide | omega), rcW_o (by first | decide | omega), ui_o (by first | decide | omega), ui_o (by first | decide | omega), (hO1 _ _ (by omega)).1]; exact hdl) hdl4 he) (by decide +kernel) (fun r9 μ9 hq => ?_)
                  obtain ⟨rfl, rfl⟩ := hq
                  show Z 0 178 [(3, .int 4), (4, .int (nI u3)), (2, .int 0), (1, .int (nB ((decide ((nI u1) = (nI dl))) || (decide ((nI u2) = (nI dl)))))), (6, .int (((hnd (v2.1 * (bif decide ((nI u2) = (nI dl)) then (6 : Int32) else 4))) + 0) + 0)), (5, .int ((hnd (v2.1 * (bif decide ((nI u2) = (nI dl)) then (6 : Int32) else 4))) + 0)), (0, .ref 0)] [] (eHB (z_ui (rcW (z_ui (z_ui W2 (18 + 8 * t) 4 (((μ.1 (18 + 8 * t) 4) - ((hnd (v1.1 * (bif decide ((nI u1) = (nI dl)) then (6 : Int32) else 4))) + (300 * (μ.1 0 11)))) - ((hnd (v2.1 * (bif decide ((nI u2) = (nI dl)) then (6 : Int32) else 4))) + 0))) (18 + 8 * u2) 4 ((μ.1 (18 + 8 * u2) 4) + (((hnd (v2.1 * (bif decide ((nI u2) = (nI dl)) then (6 : Int32) else 4))) + 0) + 0))) 1 (nI u2) (nI t) (((hnd (v2.1 * (bif decide ((nI u2) = (nI dl)) then (6 : Int32) else 4))) + 0) + 0)) 0 12 0) ((decide ((nI u1) = (nI dl))) || (decide ((nI u2) = (nI dl)))) (!((decide ((nI u1) = (nI dl))) || (decide ((nI u2) = (nI dl))))) (xBk (z_ui (rcW (z_ui (z_ui W2 (18 + 8 * t) 4 (((μ.1 (18 + 8 * t) 4) - ((hnd (v1.1 * (bif decide ((nI u1) = (nI dl)) then (6 : Int32) else 4))) + (300 * (μ.1 0 11)))) - ((hnd (v2.1 * (bif decide ((nI u2) = (nI dl)) then (6 : Int32) else 4))) + 0))) (18 + 8 * u2) 4 ((μ.1 (18 + 8 * u2) 4) + (((hnd (v2.1 * (bif decide ((nI u2) = (nI dl)) then (6 : Int32) else 4))) + 0) + 0))) 1 (nI u2) (nI t) (((hnd (v2.1 * (bif decide ((nI u2) = (nI dl)) then (6 : Int32) else 4))) + 0) + 0)) 0 12 0)) dl e (rcM (z_ui (rcW (z_ui (z_ui W2 (18 + 8 * t) 4 (((μ.1 (18 + 8 * t) 4) - ((hnd (v1.1 * (bif decide ((nI u1) = (nI dl)) then (6 : Int32) else 4))) + (300 * (μ.1 0 11)))) - ((hnd (v2.1 * (bif decide ((nI u2) = (nI dl)) then (6 : Int32) else 4))) + 0))) (18 + 8 * u2) 4 ((μ.1 (18 + 8 * u2) 4) + (((hnd (v2.1 * (bif decide ((nI u2) = (nI dl)) then (6 : Int32) else 4))) + 0) + 0))) 1 (nI u2) (nI t) (((hnd (v2.1 * (bif decide ((nI u2) = (nI dl)) then (6 : Int32) else 4))) + 0) + 0)) 0 12 0)))
                  exact hr 0 178 _ _ _ none (by decide +kernel) (by rfl) (⟨rfl, v1, W1, v2, W2, hB1, hv1, hO1, hB2, hv2, hO2, rfl⟩)
                refine zq_if hc hH (by rfl) (tg := 174) (by rfl) (fun h9 => ?_) (fun h9 => ?_)
                · have h9 : ((decide ((nI u1) = (nI dl))) || (decide ((nI u2) = (nI dl)))) = true := nB_n.mp (cm_ne.mp h9)
                  refine z_rcs hc hH 1 (pc' := 175) (lv' := [(3, .int 4), (4, .int (nI u3)), (2, .int 0), (1, .int (nB ((decide ((nI u1) = (nI dl))) || (decide ((nI u2) = (nI dl)))))), (6, .int (((hnd (v2.1 * (bif decide ((nI u2) = (nI dl)) then (6 : Int32) else 4))) + 0) + 0)), (5, .int ((hnd (v2.1 * (bif decide ((nI u2) = (nI dl)) then (6 : Int32) else 4))) + 0)), (0, .ref 0)]) (st' := [.int 0, .int (nB ((decide ((nI u1) = (nI dl))) || (decide ((nI u2) = (nI dl))))), .ref 0]) (μ' := z_ui (rcW (z_ui (z_ui W2 (18 + 8 * t) 4 (((μ.1 (18 + 8 * t) 4) - ((hnd (v1.1 * (bif decide ((nI u1) = (nI dl)) then (6 : Int32) else 4))) + (300 * (μ.1 0 11)))) - ((hnd (v2.1 * (bif decide ((nI u2) = (nI dl)) then (6 : Int32) else 4))) + 0))) (18 + 8 * u2) 4 ((μ.1 (18 + 8 * u2) 4) + (((hnd (v2.1 * (bif decide ((nI u2) = (nI dl)) then (6 : Int32) else 4))) + 0) + 0))) 1 (nI u2) (nI t) (((hnd (v2.1 * (bif decide ((nI u2) = (nI dl)) then (6 : Int32) else 4))) + 0) + 0)) 0 12 0) (by rfl) ?_
                  exact zJ hJ8 rfl (by first | with_reducible rfl | (simp only [h9, lb_f, Int64.or_zero, Int32.add_zero, nB_t, nB_f, Bool.not_true, Bool.not_false, Bool.and_true, Bool.true_and, Bool.false_and, Bool.and_false, Bool.or_true, Bool.true_or, Bool.false_or, Bool.or_false, cond_true, cond_false]; done) | rfl) rfl
                · have h9 : ((decide ((nI u1) = (nI dl))) || (decide ((nI u2) = (nI dl)))) = false := nB_z.mp (cn_ne.mp h9)
                  refine z_rcs0 hc hH 2 (pc' := 175) (lv' := [(3, .int 4), (4, .int (nI u3)), (2, .int 0), (1, .int (nB ((decide ((nI u1) = (nI dl))) || (decide ((nI u2) = (nI dl)))))), (6, .int (((hnd (v2.1 * (bif decide ((nI u2) = (nI dl)) then (6 : Int32) else 4))) + 0) + 0)), (5, .int ((hnd (v2.1 * (bif decide ((nI u2) = (nI dl)) then (6 : Int32) else 4))) + 0)), (0, .ref 0)]) (st' := [.int 1, .int (nB ((decide ((nI u1) = (nI dl))) || (decide ((nI u2) = (nI dl))))), .ref 0]) (by rfl) ?_
                  exact zJ hJ8 rfl (by first | with_reducible rfl | (simp only [h9, lb_f, Int64.or_zero, Int32.add_zero, nB_t, nB_f, Bool.not_true, Bool.not_false, Bool.and_true, Bool.true_and, Bool.false_and, Bool.and_false, Bool.or_true, Bool.true_or, Bool.false_or, Bool.or_false, cond_true, cond_false]; done) | rfl) rfl
            refine zq_if hc hH (by rfl) (tg := 145) (by rfl) (fun h10 => ?_) (fun h10 => ?_)
            · have h10 : (decide ((nI u1) = (nI dl))) = true := nB_n.mp (cm_ne.mp h10)
              refine z_rcs hc hH 2 (pc' := 150) (lv' := [(6, .int (((hnd (v2.1 * (bif decide ((nI u2) = (nI dl)) then (6 : Int32) else 4))) + 0) + 0)), (5, .int ((hnd (v2.1 * (bif decide ((nI u2) = (nI dl)) then (6 : Int32) else 4))) + 0)), (4, .int (nI u2)), (3, .int 2), (2, .int 0), (1, .int (nB (decide ((nI u1) = (nI dl))))), (0, .ref 0)]) (st' := [.int 1]) (μ' := rcW (z_ui (z_ui W2 (18 + 8 * t) 4 (((μ.1 (18 + 8 * t) 4) - ((hnd (v1.1 * (bif decide ((nI u1) = (nI dl)) then (6 : Int32) else 4))) + (300 * (μ.1 0 11)))) - ((hnd (v2.1 * (bif decide ((nI u2) = (nI dl)) then (6 : Int32) else 4))) + 0))) (18 + 8 * u2) 4 ((μ.1 (18 + 8 * u2) 4) + (((hnd (v2.1 * (bif decide ((nI u2) = (nI dl)) then (6 : Int32) else 4))) + 0) + 0))) 1 (nI u2) (nI t) (((hnd (v2.1 * (bif decide ((nI u2) = (nI dl)) then (6 : Int32) else 4))) + 0) + 0)) (by rfl) ?_
              exact zJ hJ6 rfl (by first | with_reducible rfl | (simp only [h10, lb_f, Int64.or_zero, Int32.add_zero, nB_t, nB_f, Bool.not_true, Bool.not_false, Bool.and_true, Bool.true_and, Bool.false_and, Bool.and_false, Bool.or_true, Bool.true_or, Bool.false_or, Bool.or_false, cond_true, cond_false]; done) | rfl) rfl
            · have h10 : (decide ((nI u1) = (nI dl))) = false := nB_z.mp (cn_ne.mp h10)
              refine z_rcs0 hc hH 2 (pc' := 139) (lv' := [(6, .int (((hnd (v2.1 * (bif decide ((nI u2) = (nI dl)) then (6 : Int32) else 4))) + 0) + 0)), (5, .int ((hnd (v2.1 * (bif decide ((nI u2) = (nI dl)) then (6 : Int32) else 4))) + 0)), (4, .int (nI u2)), (3, .int 2), (2, .int 0), (1, .int (nB (decide ((nI u1) = (nI dl))))), (0, .ref 0)]) (st' := [.ref 0, .int (nI u2)]) (by rfl) ?_
              refine zq_gfi hc hH (by rfl) (ci := 5) (f := 9) (by rfl) (by decide +kernel) (by rfl) ?_
              refine zV1 (Z := Z) (Eq.trans (rcW_o (by first | decide | omega)) (Eq.trans (ui_o (by first | decide | omega)) (Eq.trans (ui_o (by first | decide | omega)) (Eq.trans (hO2 _ _ (by omega)).1 (Eq.trans (ui_k (by first | decide | omega)) (Eq.trans (rcW_o (by first | decide | omega)) (Eq.trans (ui_o (by first | decide | omega)) (Eq.trans (ui_o (by first | decide | omega)) (hO1 _ _ (by omega)).1)))))))) ?_
              rw [hdl]
              refine zq_ic hc hH (by rfl) (tg := 149) (by rfl) (fun h11 => ?_) (fun h11 => ?_)
              · have h11 : (decide ((nI u2) = (nI dl))) = false := decide_eq_false (cm_ne.mp h11)
                refine z_rcs0 hc hH 1 (pc' := 150) (lv' := [(6, .int (((hnd (v2.1 * (bif decide ((nI u2) = (nI dl)) then (6 : Int32) else 4))) + 0) + 0)), (5, .int ((hnd (v2.1 * (bif decide ((nI u2) = (nI dl)) then (6 : Int32) else 4))) + 0)), (4, .int (nI u2)), (3, .int 2), (2, .int 0), (1, .int (nB (decide ((nI u1) = (nI dl))))), (0, .ref 0)]) (st' := [.int 0]) (by rfl) ?_
                exact zJ hJ6 rfl (by first | with_reducible rfl | (simp only [h10, h11, lb_f, Int64.or_zero, Int32.add_zero, nB_t, nB_f, Bool.not_true, Bool.not_false, Bool.and_true, Bool.true_and, Bool.false_and, Bool.and_false, Bool.or_true, Bool.true_or, Bool.false_or, Bool.or_false, cond_true, cond_false]; done) | rfl) rfl
              · have h11 : (decide ((nI u2) = (nI dl))) = true := decide_eq_true (cn_ne.mp h11)
                refine z_rcs0 hc hH 2 (pc' := 150) (lv' := [(6, .int (((hnd (v2.1 * (bif decide ((nI u2) = (nI dl)) then (6 : Int32) else 4))) + 0) + 0)), (5, .int ((hnd (v2.1 * (bif decide ((nI u2) = (nI dl)) then (6 : Int32) else 4))) + 0)), (4, .int (nI u2)), (3, .int 2), (2, .int 0), (1, .int (nB (decide ((nI u1) = (nI dl))))), (0, .ref 0)]) (st' := [.int 1]) (by rfl) ?_
                exact zJ hJ6 rfl (by first | with_reducible rfl | (simp only [h10, h11, lb_f, Int64.or_zero, Int32.add_zero, nB_t, nB_f, Bool.not_true, Bool.not_false, Bool.and_true, Bool.true_and, Bool.false_and, Bool.and_false, Bool.or_true, Bool.true_or, Bool.false_or, Bool.or_false, cond_true, cond_false]; done) | rfl) rfl
          refine zq_ic hc hH (by rfl) (tg := 64) (by rfl) (fun h12 => ?_) (fun h12 => ?_)
          · have h12 : (decide ((nI u2) = (nI dl))) = false := decide_eq_false (cm_ne.mp h12)
            refine z_rcs hc hH 1 (pc' := 65) (lv' := [(4, .int (nI u2)), (3, .int 2), (2, .int 0), (1, .int (nB (decide ((nI u1) = (nI dl))))), (6, .int (((hnd (v1.1 * (bif decide ((nI u1) = (nI dl)) then (6 : Int32) else 4))) + (300 * (μ.1 0 11))) + ((μ.1 0 12) * 1000))), (5, .int ((hnd (v1.1 * (bif decide ((nI u1) = (nI dl)) then (6 : Int32) else 4))) + (300 * (μ.1 0 11)))), (0, .ref 0)]) (st' := [.int 4, .int v2.1]) (μ' := W2) (by rfl) ?_
            exact zJ hJ5 rfl (by first | with_reducible rfl | (simp only [h12, lb_f, Int64.or_zero, Int32.add_zero, nB_t, nB_f, Bool.not_true, Bool.not_false, Bool.and_true, Bool.true_and, Bool.false_and, Bool.and_false, Bool.or_true, Bool.true_or, Bool.false_or, Bool.or_false, cond_true, cond_false]; done) | rfl) rfl
          · have h12 : (decide ((nI u2) = (nI dl))) = true := decide_eq_true (cn_ne.mp h12)
            refine z_rcs hc hH 2 (pc' := 65) (lv' := [(4, .int (nI u2)), (3, .int 2), (2, .int 0), (1, .int (nB (decide ((nI u1) = (nI dl))))), (6, .int (((hnd (v1.1 * (bif decide ((nI u1) = (nI dl)) then (6 : Int32) else 4))) + (300 * (μ.1 0 11))) + ((μ.1 0 12) * 1000))), (5, .int ((hnd (v1.1 * (bif decide ((nI u1) = (nI dl)) then (6 : Int32) else 4))) + (300 * (μ.1 0 11)))), (0, .ref 0)]) (st' := [.int 6, .int v2.1]) (μ' := W2) (by rfl) ?_
            exact zJ hJ5 rfl (by first | with_reducible rfl | (simp only [h12, lb_f, Int64.or_zero, Int32.add_zero, nB_t, nB_f, Bool.not_true, Bool.not_false, Bool.and_true, Bool.true_and, Bool.false_and, Bool.and_false, Bool.or_true, Bool.true_or, Bool.false_or, Bool.or_false, cond_true, cond_false]; done) | rfl) rfl
        · have h4 : (decide ((μ.1 (18 + 8 * u2) 9) = 0)) = true := decide_eq_true (cn_ne.mp h4)
          exact absurd (Eq.trans (Eq.symm (hs2)) h4) (by decide)
      refine zq_ic hc hH (by rfl) (tg := 149) (by rfl) (fun h13 => ?_) (fun h13 => ?_)
      · have h13 : (decide ((nI u1) = (nI dl))) = false := decide_eq_false (cm_ne.mp h13)
        refine z_rcs hc hH 1 (pc' := 150) (lv' := [(6, .int (((hnd (v1.1 * (bif decide ((nI u1) = (nI dl)) then (6 : Int32) else 4))) + (300 * (μ.1 0 11))) + ((μ.1 0 12) * 1000))), (5, .int ((hnd (v1.1 * (bif decide ((nI u1) = (nI dl)) then (6 : Int32) else 4))) + (300 * (μ.1 0 11)))), (4, .int (nI u1)), (3, .int 1), (2, .int (300 * (μ.1 0 11))), (1, .int 0), (0, .ref 0)]) (st' := [.int 0]) (μ' := rcW (z_ui (z_ui W1 (18 + 8 * t) 4 ((μ.1 (18 + 8 * t) 4) - ((hnd (v1.1 * (bif decide ((nI u1) = (nI dl)) then (6 : Int32) else 4))) + (300 * (μ.1 0 11))))) (18 + 8 * u1) 4 ((μ.1 (18 + 8 * u1) 4) + (((hnd (v1.1 * (bif decide ((nI u1) = (nI dl)) then (6 : Int32) else 4))) + (300 * (μ.1 0 11))) + ((μ.1 0 12) * 1000)))) 0 (nI u1) (nI t) (((hnd (v1.1 * (bif decide ((nI u1) = (nI dl)) then (6 : Int32) else 4))) + (300 * (μ.1 0 11))) + ((μ.1 0 12) * 1000))) (by rfl) ?_
        exact zJ hJ3 rfl (by first | with_reducible rfl | (simp only [h13, lb_f, Int64.or_zero, Int32.add_zero, nB_t, nB_f, Bool.not_true, Bool.not_false, Bool.and_true, Bool.true_and, Bool.false_and, Bool.and_false, Bool.or_true, Bool.true_or, Bool.false_or, Bool.or_false, cond_true, cond_false]; done) | rfl) rfl
      · have h13 : (decide ((nI u1) = (nI dl))) = true := decide_eq_true (cn_ne.mp h13)
        refine z_rcs0 hc hH 2 (pc' := 150) (lv' := [(6, .int (((hnd (v1.1 * (bif decide ((nI u1) = (nI dl)) then (6 : Int32) else 4))) + (300 * (μ.1 0 11))) + ((μ.1 0 12) * 1000))), (5, .int ((hnd (v1.1 * (bif decide ((nI u1) = (nI dl)) then (6 : Int32) else 4))) + (300 * (μ.1 0 11)))), (4, .int (nI u1)), (3, .int 1), (2, .int (300 * (μ.1 0 11))), (1, .int 0), (0, .ref 0)]) (st' := [.int 1]) (by rfl) ?_
        exact zJ hJ3 rfl (by first | with_reducible rfl | (simp only [h13, lb_f, Int64.or_zero, Int32.add_zero, nB_t, nB_f, Bool.not_true, Bool.not_false, Bool.and_true, Bool.true_and, Bool.false_and, Bool.and_false, Bool.or_true, Bool.true_or, Bool.false_or, Bool.or_false, cond_true, cond_false]; done) | rfl) rfl
    refine zq_ic hc hH (by rfl) (tg := 64) (by rfl) (fun h14 => ?_) (fun h14 => ?_)
    · have h14 : (decide ((nI u1) = (nI dl))) = false := decide_eq_false (cm_ne.mp h14)
      refine z_rcs hc hH 1 (pc' := 65) (lv' := [(4, .int (nI u1)), (3, .int 1), (2, .int (300 * (μ.1 0 11))), (1, .int 0), (0, .ref 0)]) (st' := [.int 4, .int v1.1]) (μ' := W1) (by rfl) ?_
      exact zJ hJ2 rfl (by first | with_reducible rfl | (simp only [h14, lb_f, Int64.or_zero, Int32.add_zero, nB_t, nB_f, Bool.not_true, Bool.not_false, Bool.and_true, Bool.true_and, Bool.false_and, Bool.and_false, Bool.or_true, Bool.true_or, Bool.false_or, Bool.or_false, cond_true, cond_false]; done) | rfl) rfl
    · have h14 : (decide ((nI u1) = (nI dl))) = true := decide_eq_true (cn_ne.mp h14)
      refine z_rcs hc hH 2 (pc' := 65) (lv' := [(4, .int (nI u1)), (3, .int 1), (2, .int (300 * (μ.1 0 11))), (1, .int 0), (0, .ref 0)]) (st' := [.int 6, .int v1.1]) (μ' := W1) (by rfl) ?_
      exact zJ hJ2 rfl (by first | with_reducible rfl | (simp only [h14, lb_f, Int64.or_zero, Int32.add_zero, nB_t, nB_f, Bool.not_true, Bool.not_false, Bool.and_true, Bool.true_and, Bool.false_and, Bool.and_false, Bool.or_true, Bool.true_or, Bool.false_or, Bool.or_false, cond_true, cond_false]; done) | rfl) rfl
  · have h1 : (decide ((μ.1 (18 + 8 * u1) 9) = 0)) = true := decide_eq_true (cn_ne.mp h1)
    exact absurd (Eq.trans (Eq.symm (hs1)) h1) (by decide)
noncomputable def wA111 (W3 : zM) (t dl e u1 u2 u3 : Nat) (v1 v2 v3 : Q4) (μ : zM) : zM := eHB (z_ui (rcW (z_ui (z_ui W3 (18 + 8 * t) 4 ((((μ.1 (18 + 8 * t) 4) - ((hnd (v1.1 * (bif decide ((nI u1) = (nI dl)) then (6 : Int32) else 4))) + (300 * (μ.1 0 11)))) - ((hnd (v2.1 * (bif decide ((nI u2) = (nI dl)) then (6 : Int32) else 4))) + 0)) - ((hnd (v3.1 * (bif decide ((nI u3) = (nI dl)) then (6 : Int32) else 4))) + 0))) (18 + 8 * u3) 4 ((μ.1 (18 + 8 * u3) 4) + (((hnd (v3.1 * (bif decide ((nI u3) = (nI dl)) then (6 : Int32) else 4))) + 0) + 0))) 2 (nI u3) (nI t) (((hnd (v3.1 * (bif decide ((nI u3) = (nI dl)) then (6 : Int32) else 4))) + 0) + 0)) 0 12 0) (((decide ((nI u1) = (nI dl))) || (decide ((nI u2) = (nI dl)))) || (decide ((nI u3) = (nI dl)))) (!(((decide ((nI u1) = (nI dl))) || (decide ((nI u2) = (nI dl)))) || (decide ((nI u3) = (nI dl))))) (xBk (z_ui (rcW (z_ui (z_ui W3 (18 + 8 * t) 4 ((((μ.1 (18 + 8 * t) 4) - ((hnd (v1.1 * (bif decide ((nI u1) = (nI dl)) then (6 : Int32) else 4))) + (300 * (μ.1 0 11)))) - ((hnd (v2.1 * (bif decide ((nI u2) = (nI dl)) then (6 : Int32) else 4))) + 0)) - ((hnd (v3.1 * (bif decide ((nI u3) = (nI dl)) then (6 : Int32) else 4))) + 0))) (18 + 8 * u3) 4 ((μ.1 (18 + 8 * u3) 4) + (((hnd (v3.1 * (bif decide ((nI u3) = (nI dl)) then (6 : Int32) else 4))) + 0) + 0))) 2 (nI u3) (nI t) (((hnd (v3.1 * (bif decide ((nI u3) = (nI dl)) then (6 : Int32) else 4))) + 0) + 0)) 0 12 0)) dl e (rcM (z_ui (rcW (z_ui (z_ui W3 (18 + 8 * t) 4 ((((μ.1 (18 + 8 * t) 4) - ((hnd (v1.1 * (bif decide ((nI u1) = (nI dl)) then (6 : Int32) else 4))) + (300 * (μ.1 0 11)))) - ((hnd (v2.1 * (bif decide ((nI u2) = (nI dl)) then (6 : Int32) else 4))) + 0)) - ((hnd (v3.1 * (bif decide ((nI u3) = (nI dl)) then (6 : Int32) else 4))) + 0))) (18 + 8 * u3) 4 ((μ.1 (18 + 8 * u3) 4) + (((hnd (v3.1 * (bif decide ((nI u3) = (nI dl)) then (6 : Int32) else 4))) + 0) + 0))) 2 (nI u3) (nI t) (((hnd (v3.1 * (bif decide ((nI u3) = (nI dl)) then (6 : Int32) else 4))) + 0) + 0)) 0 12 0))
theorem gc_winByTile111 (d : Nat) (hd : 11 ≤ d) (μ : zM) (t c u1 u2 u3 : Nat) (ht4 : t < 4) (ht : μ.1 0 8 = nI t) (hu1 : (t + 1) % 4 = u1) (hu14 : u1 < 4) (hu2 : (t + 2) % 4 = u2) (hu24 : u2 < 4) (hu3 : (t + 3) % 4 = u3) (hu34 : u3 < 4) (dl e : Nat) (hdl : μ.1 0 9 = nI dl) (hdl4 : dl < 4) (he : (dl + 1) % 4 = e) (h06 : μ.1 0 6 = nI 0) (hA0 : a_H μ) (hs1 : decide (μ.1 (18 + 8 * u1) 9 = 0) = false) (hs2 : decide (μ.1 (18 + 8 * u2) 9 = 0) = false) (hs3 : decide (μ.1 (18 + 8 * u3) 9 = 0) = false) (B1 : Q4 → Prop) (hwg1 : ∀ M, WE μ M → a_H M → ∀ d, 10 ≤ d → z_C d mi_X6_weighHand [.ref 0, .int (nI u1), .int 0] M (fun r W => ∃ v, B1 v ∧ r = some (.int v.1) ∧ WOj M W ∧ bqJ W = v ∧ a_H W)) (B2 : Q4 → Prop) (hwg2 : ∀ M, WE μ M → a_H M → ∀ d, 10 ≤ d → z_C d mi_X6_weighHand [.ref 0, .int (nI u2), .int 0] M (fun r W => ∃ v, B2 v ∧ r = some (.int v.1) ∧ WOj M W ∧ bqJ W = v ∧ a_H W)) (B3 : Q4 → Prop) (hwg3 : ∀ M, WE μ M → a_H M → ∀ d, 10 ≤ d → z_C d mi_X6_weighHand [.ref 0, .int (nI u3), .int 0] M (fun r W => ∃ v, B3 v ∧ r = some (.int v.1) ∧ WOj M W ∧ bqJ W = v ∧ a_H W)) : z_C d mi_X6_winByTile [.ref 0] μ (fun r μ' => r = none ∧ ∃ v1 W1 v2 W2 v3 W3, B1 v1 ∧ bqJ W1 = v1 ∧ WOj μ W1 ∧ B2 v2 ∧ bqJ W2 = v2 ∧ WOj (z_ui (rcW (z_ui (z_ui W1 (18 + 8 * t) 4 ((μ.1 (18 + 8 * t) 4) - ((hnd (v1.1 * (bif decide ((nI u1) = (nI dl)) then (6 : Int32) else 4))) + (300 * (μ.1 0 11))))) (18 + 8 * u1) 4 ((μ.1 (18 + 8 * u1) 4) + (((hnd (v1.1 * (bif decide ((nI u1) = (nI dl)) then (6 : Int32) else 4))) + (300 * (μ.1 0 11))) + ((μ.1 0 12) * 1000)))) 0 (nI u1) (nI t) (((hnd (v1.1 * (bif decide ((nI u1) = (nI dl)) then (6 : Int32) else 4))) + (300 * (μ.1 0 11))) + ((μ.1 0 12) * 1000))) 0 12 0) W2 ∧ B3 v3 ∧ bqJ W3 = v3 ∧ WOj (z_ui (rcW (z_ui (z_ui W2 (18 + 8 * t) 4 (((μ.1 (18 + 8 * t) 4) - ((hnd (v1.1 * (bif decide ((nI u1) = (nI dl)) then (6 : Int32) else 4))) + (300 * (μ.1 0 11)))) - ((hnd (v2.1 * (bif decide ((nI u2) = (nI dl)) then (6 : Int32) else 4))) + 0))) (18 + 8 * u2) 4 ((μ.1 (18 + 8 * u2) 4) + (((hnd (v2.1 * (bif decide ((nI u2) = (nI dl)) then (6 : Int32) else 4))) + 0) + 0))) 1 (nI u2) (nI t) (((hnd (v2.1 * (bif decide ((nI u2) = (nI dl)) then (6 : Int32) else 4))) + 0) + 0)) 0 12 0) W3 ∧ μ' = wA111 W3 t dl e u1 u2 u3 v1 v2 v3 μ) := by
  refine z_C_in (by decide) (by omega) (fun d' Z ed hc hr => ?_)
  have hH : zH mi_X6_winByTile zt_X6_winByTile 79 6 7 := hh_X6_winByTile
  refine z_rcs hc hH 4 (pc' := 6) (lv' := [(1, .int 0), (0, .ref 0)]) (st' := [.ref 0, .int 300]) (μ' := μ) (by rfl) ?_
  refine zq_gfi hc hH (by rfl) (ci := 5) (f := 11) (by rfl) (by decide +kernel) (by rfl) ?_
  refine z_rcs hc hH 8 (pc' := 19) (lv' := [(3, .int 1), (2, .int (300 * (μ.1 0 11))), (1, .int 0), (0, .ref 0)]) (st' := [.ref 0]) (μ' := μ) (by rfl) ?_
  refine zq_gfi hc hH (by rfl) (ci := 5) (f := 8) (by rfl) (by decide +kernel) (by rfl) ?_
  rw [ht]
  refine z_rcs hc hH 2 (pc' := 24) (lv' := [(3, .int 1), (2, .int (300 * (μ.1 0 11))), (1, .int 0), (0, .ref 0)]) (st' := [.int ((nI t) + 1)]) (μ' := μ) (by rfl) ?_
  rw [show nI t + 1 = nI (t + 1) from by rw [show (1 : Int32) = nI 1 from rfl, nI_add]]
  refine z_rcs hc hH 2 (pc' := 26) (lv' := [(3, .int 1), (2, .int (300 * (μ.1 0 11))), (1, .int 0), (0, .ref 0)]) (st' := [.int ((nI (t + 1)) &&& 3)]) (μ' := μ) (by rfl) ?_
  rw [show nI (t + 1) &&& 3 = nI u1 from by rw [and3 (by omega), hu1]]
  refine z_rcs hc hH 3 (pc' := 31) (lv' := [(4, .int (nI u1)), (3, .int 1), (2, .int (300 * (μ.1 0 11))), (1, .int 0), (0, .ref 0)]) (st' := [.int (nI u1), .ref 0]) (μ' := μ) (by rfl) ?_
  refine zq_call hc (z_cx_ok hH (by rfl)) (gc_at4 d' (by omega) μ u1 hu14) (by decide +kernel) (fun r9 μ9 hq => ?_)
  obtain ⟨hμ9, rfl⟩ := hq
  rw [hμ9]
  clear hμ9 μ9
  show Z 0 34 [(4, .int (nI u1)), (3, .int 1), (2, .int (300 * (μ.1 0 11))), (1, .int 0), (0, .ref 0)] [.ref (18 + 8 * u1)] μ
  refine zq_gfi hc hH (by rfl) (ci := 1) (f := 9) (by rfl) (sj (P := fun i => okf 79 1 9 (18 + 8 * i)) hu14 (by decide +kernel)) (by rfl) ?_
  refine zq_if hc hH (by rfl) (tg := 43) (by rfl) (fun h1 => ?_) (fun h1 => ?_)
  · have h1 : (decide ((μ.1 (18 + 8 * u1) 9) = 0)) = false := decide_eq_false (cm_ne.mp h1)
    refine z_rcs hc hH 3 (pc' := 47) (lv' := [(4, .int (nI u1)), (3, .int 1), (2, .int (300 * (μ.1 0 11))), (1, .int 0), (0, .ref 0)]) (st' := [.int 0, .int (nI u1), .ref 0]) (μ' := μ) (by rfl) ?_
    refine zq_call hc (z_cx_ok hH (by rfl)) (hwg1 _ (WE_rf _) (hA0) d' (by omega)) (by decide +kernel) (fun r9 W1 hq => ?_)
    obtain ⟨v1, hB1, rfl, hO1, hv1, hA1⟩ := hq
    show Z 0 50 [(4, .int (nI u1)), (3, .int 1), (2, .int (300 * (μ.1 0 11))), (1, .int 0), (0, .ref 0)] [.int v1.1] W1
    refine z_rcs hc hH 2 (pc' := 53) (lv' := [(4, .int (nI u1)), (3, .int 1), (2, .int (300 * (μ.1 0 11))), (1, .int 0), (0, .ref 0)]) (st' := [.ref 0, .int (nI u1), .int v1.1]) (μ' := W1) (by rfl) ?_
    refine zq_gfi hc hH (by rfl) (ci := 5) (f := 9) (by rfl) (by decide +kernel) (by rfl) ?_
    rw [(hO1 _ _ (by omega)).1]
    rw [hdl]
    have hJ2 : Z 0 65 [(4, .int (nI u1)), (3, .int 1), (2, .int (300 * (μ.1 0 11))), (1, .int 0), (0, .ref 0)] [.int (bif decide ((nI u1) = (nI dl)) then (6 : Int32) else 4), .int v1.1] W1 := by
      refine z_rcs hc hH 1 (pc' := 66) (lv' := [(4, .int (nI u1)), (3, .int 1), (2, .int (300 * (μ.1 0 11))), (1, .int 0), (0, .ref 0)]) (st' := [.int (v1.1 * (bif decide ((nI u1) = (nI dl)) then (6 : Int32) else 4))]) (μ' := W1) (by rfl) ?_
      refine zq_call hc (z_cx_ok hH (by rfl)) (gc_hundreds d' (by omega) W1 (v1.1 * (bif decide ((nI u1) = (nI dl)) then (6 : Int32) else 4))) (by decide +kernel) (fun r9 μ9 hq => ?_)
      obtain ⟨hμ9, rfl⟩ := hq
      rw [hμ9]
      clear hμ9 μ9
      show Z 0 69 [(4, .int (nI u1)), (3, .int 1), (2, .int (300 * (μ.1 0 11))), (1, .int 0), (0, .ref 0)] [.int (hnd (v1.1 * (bif decide ((nI u1) = (nI dl)) then (6 : Int32) else 4)))] W1
      refine z_rcs hc hH 5 (pc' := 76) (lv' := [(5, .int ((hnd (v1.1 * (bif decide ((nI u1) = (nI dl)) then (6 : Int32) else 4))) + (300 * (μ.1 0 11)))), (4, .int (nI u1)), (3, .int 1), (2, .int (300 * (μ.1 0 11))), (1, .int 0), (0, .ref 0)]) (st' := [.ref 0, .int ((hnd (v1.1 * (bif decide ((nI u1) = (nI dl)) then (6 : Int32) else 4))) + (300 * (μ.1 0 11)))]) (μ' := W1) (by rfl) ?_
      refine zq_gfi hc hH (by rfl) (ci := 5) (f := 12) (by rfl) (by decide +kernel) (by rfl) ?_
      rw [(hO1 _ _ (by omega)).1]
      refine z_rcs hc hH 6 (pc' := 88) (lv' := [(6, .int (((hnd (v1.1 * (bif decide ((nI u1) = (nI dl)) then (6 : Int32) else 4))) + (300 * (μ.1 0 11))) + ((μ.1 0 12) * 1000))), (5, .int ((hnd (v1.1 * (bif decide ((nI u1) = (nI dl)) then (6 : Int32) else 4))) + (300 * (μ.1 0 11)))), (4, .int (nI u1)), (3, .int 1), (2, .int (300 * (μ.1 0 11))), (1, .int 0), (0, .ref 0)]) (st' := [.ref 0, .ref 0]) (μ' := W1) (by rfl) ?_
      refine zq_gfi hc hH (by rfl) (ci := 5) (f := 8) (by rfl) (by decide +kernel) (by rfl) ?_
      rw [(hO1 _ _ (by omega)).1]
      rw [ht]
      refine zq_call hc (z_cx_ok hH (by rfl)) (gc_at4 d' (by omega) W1 t ht4) (by decide +kernel) (fun r9 μ9 hq => ?_)
      obtain ⟨hμ9, rfl⟩ := hq
      rw [hμ9]
      clear hμ9 μ9
      show Z 0 94 [(6, .int (((hnd (v1.1 * (bif decide ((nI u1) = (nI dl)) then (6 : Int32) else 4))) + (300 * (μ.1 0 11))) + ((μ.1 0 12) * 1000))), (5, .int ((hnd (v1.1 * (bif decide ((nI u1) = (nI dl)) then (6 : Int32) else 4))) + (300 * (μ.1 0 11)))), (4, .int (nI u1)), (3, .int 1), (2, .int (300 * (μ.1 0 11))), (1, .int 0), (0, .ref 0)] [.ref (18 + 8 * t)] W1
      refine z_rcs hc hH 1 (pc' := 95) (lv' := [(6, .int (((hnd (v1.1 * (bif decide ((nI u1) = (nI dl)) then (6 : Int32) else 4))) + (300 * (μ.1 0 11))) + ((μ.1 0 12) * 1000))), (5, .int ((hnd (v1.1 * (bif decide ((nI u1) = (nI dl)) then (6 : Int32) else 4))) + (300 * (μ.1 0 11)))), (4, .int (nI u1)), (3, .int 1), (2, .int (300 * (μ.1 0 11))), (1, .int 0), (0, .ref 0)]) (st' := [.ref (18 + 8 * t), .ref (18 + 8 * t)]) (μ' := W1) (by rfl) ?_
      refine zq_gfi hc hH (by rfl) (ci := 1) (f := 4) (by rfl) (sj (P := fun i => okf 79 1 4 (18 + 8 * i)) ht4 (by decide +kernel)) (by rfl) ?_
      rw [(hO1 _ _ (by omega)).1]
      refine z_rcs hc hH 2 (pc' := 101) (lv' := [(6, .int (((hnd (v1.1 * (bif decide ((nI u1) = (nI dl)) then (6 : Int32) else 4))) + (300 * (μ.1 0 11))) + ((μ.1 0 12) * 1000))), (5, .int ((hnd (v1.1 * (bif decide ((nI u1) = (nI dl)) then (6 : Int32) else 4))) + (300 * (μ.1 0 11)))), (4, .int (nI u1)), (3, .int 1), (2, .int (300 * (μ.1 0 11))), (1, .int 0), (0, .ref 0)]) (st' := [.int ((μ.1 (18 + 8 * t) 4) - ((hnd (v1.1 * (bif decide ((nI u1) = (nI dl)) then (6 : Int32) else 4))) + (300 * (μ.1 0 11)))), .ref (18 + 8 * t)]) (μ' := W1) (by rfl) ?_
      refine zq_pfi hc hH (by rfl) (ci := 1) (f := 4) (by rfl) (sj (P := fun i => okf 79 1 4 (18 + 8 * i)) ht4 (by decide +kernel)) (by rfl) ?_
      show Z 0 104 [(6, .int (((hnd (v1.1 * (bif decide ((nI u1) = (nI dl)) then (6 : Int32) else 4))) + (300 * (μ.1 0 11))) + ((μ.1 0 12) * 1000))), (5, .int ((hnd (v1.1 * (bif decide ((nI u1) = (nI dl)) then (6 : Int32) else 4))) + (300 * (μ.1 0 11)))), (4, .int (nI u1)), (3, .int 1), (2, .int (300 * (μ.1 0 11))), (1, .int 0), (0, .ref 0)] [] (z_ui W1 (18 + 8 * t) 4 ((μ.1 (18 + 8 * t) 4) - ((hnd (v1.1 * (bif decide ((nI u1) = (nI dl)) then (6 : Int32) else 4))) + (300 * (μ.1 0 11)))))
      refine z_rcs0 hc hH 2 (pc' := 107) (lv' := [(6, .int (((hnd (v1.1 * (bif decide ((nI u1) = (nI dl)) then (6 : Int32) else 4))) + (300 * (μ.1 0 11))) + ((μ.1 0 12) * 1000))), (5, .int ((hnd (v1.1 * (bif decide ((nI u1) = (nI dl)) then (6 : Int32) else 4))) + (300 * (μ.1 0 11)))), (4, .int (nI u1)), (3, .int 1), (2, .int (300 * (μ.1 0 11))), (1, .int 0), (0, .ref 0)]) (st' := [.int (nI u1), .ref 0]) (by rfl) ?_
      refine zq_call hc (z_cx_ok hH (by rfl)) (gc_at4 d' (by omega) (z_ui W1 (18 + 8 * t) 4 ((μ.1 (18 + 8 * t) 4) - ((hnd (v1.1 * (bif decide ((nI u1) = (nI dl)) then (6 : Int32) else 4))) + (300 * (μ.1 0 11))))) u1 hu14) (by decide +kernel) (fun r9 μ9 hq => ?_)
      obtain ⟨hμ9, rfl⟩ := hq
      rw [hμ9]
      clear hμ9 μ9
      show Z 0 110 [(6, .int (((hnd (v1.1 * (bif decide ((nI u1) = (nI dl)) then (6 : Int32) else 4))) + (300 * (μ.1 0 11))) + ((μ.1 0 12) * 1000))), (5, .int ((hnd (v1.1 * (bif decide ((nI u1) = (nI dl)) then (6 : Int32) else 4))) + (300 * (μ.1 0 11)))), (4, .int (nI u1)), (3, .int 1), (2, .int (300 * (μ.1 0 11))), (1, .int 0), (0, .ref 0)] [.ref (18 + 8 * u1)] _
      refine z_rcs0 hc hH 1 (pc' := 111) (lv' := [(6, .int (((hnd (v1.1 * (bif decide ((nI u1) = (nI dl)) then (6 : Int32) else 4))) + (300 * (μ.1 0 11))) + ((μ.1 0 12) * 1000))), (5, .int ((hnd (v1.1 * (bif decide ((nI u1) = (nI dl)) then (6 : Int32) else 4))) + (300 * (μ.1 0 11)))), (4, .int (nI u1)), (3, .int 1), (2, .int (300 * (μ.1 0 11))), (1, .int 0), (0, .ref 0)]) (st' := [.ref (18 + 8 * u1), .ref (18 + 8 * u1)]) (by rfl) ?_
      refine zq_gfi hc hH (by rfl) (ci := 1) (f := 4) (by rfl) (sj (P := fun i => okf 79 1 4 (18 + 8 * i)) hu14 (by decide +kernel)) (by rfl) ?_
      refine zV1 (Z := Z) (Eq.trans (ui_o (by first | decide | omega)) (hO1 _ _ (by omega)).1) ?_
      refine z_rcs0 hc hH 2 (pc' := 117) (lv' := [(6, .int (((hnd (v1.1 * (bif decide ((nI u1) = (nI dl)) then (6 : Int32) else 4))) + (300 * (μ.1 0 11))) + ((μ.1 0 12) * 1000))), (5, .int ((hnd (v1.1 * (bif decide ((nI u1) = (nI dl)) then (6 : Int32) else 4))) + (300 * (μ.1 0 11)))), (4, .int (nI u1)), (3, .int 1), (2, .int (300 * (μ.1 0 11))), (1, .int 0), (0, .ref 0)]) (st' := [.int ((μ.1 (18 + 8 * u1) 4) + (((hnd (v1.1 * (bif decide ((nI u1) = (nI dl)) then (6 : Int32) else 4))) + (300 * (μ.1 0 11))) + ((μ.1 0 12) * 1000))), .ref (18 + 8 * u1)]) (by rfl) ?_
      refine zq_pfi hc hH (by rfl) (ci := 1) (f := 4) (by rfl) (sj (P := fun i => okf 79 1 4 (18 + 8 * i)) hu14 (by decide +kernel)) (by rfl) ?_
      show Z 0 120 [(6, .int (((hnd (v1.1 * (bif decide ((nI u1) = (nI dl)) then (6 : Int32) else 4))) + (300 * (μ.1 0 11))) + ((μ.1 0 12) * 1000))), (5, .int ((hnd (v1.1 * (bif decide ((nI u1) = (nI dl)) then (6 : Int32) else 4))) + (300 * (μ.1 0 11)))), (4, .int (nI u1)), (3, .int 1), (2, .int (300 * (μ.1 0 11))), (1, .int 0), (0, .ref 0)] [] (z_ui (z_ui W1 (18 + 8 * t) 4 ((μ.1 (18 + 8 * t) 4) - ((hnd (v1.1 * (bif decide ((nI u1) = (nI dl)) then (6 : Int32) else 4))) + (300 * (μ.1 0 11))))) (18 + 8 * u1) 4 ((μ.1 (18 + 8 * u1) 4) + (((hnd (v1.1 * (bif decide ((nI u1) = (nI dl)) then (6 : Int32) else 4))) + (300 * (μ.1 0 11))) + ((μ.1 0 12) * 1000))))
      refine z_rcs0 hc hH 3 (pc' := 124) (lv' := [(6, .int (((hnd (v1.1 * (bif decide ((nI u1) = (nI dl)) then (6 : Int32) else 4))) + (300 * (μ.1 0 11))) + ((μ.1 0 12) * 1000))), (5, .int ((hnd (v1.1 * (bif decide ((nI u1) = (nI dl)) then (6 : Int32) else 4))) + (300 * (μ.1 0 11)))), (4, .int (nI u1)), (3, .int 1), (2, .int (300 * (μ.1 0 11))), (1, .int 0), (0, .ref 0)]) (st' := [.ref 0, .int (nI u1), .ref 0]) (by rfl) ?_
      refine zq_gfi hc hH (by rfl) (ci := 5) (f := 8) (by rfl) (by decide +kernel) (by rfl) ?_
      refine zV1 (Z := Z) (Eq.trans (ui_o (by first | decide | omega)) (Eq.trans (ui_o (by first | decide | omega)) (hO1 _ _ (by omega)).1)) ?_
      rw [ht]
      refine z_rcs0 hc hH 1 (pc' := 129) (lv' := [(6, .int (((hnd (v1.1 * (bif decide ((nI u1) = (nI dl)) then (6 : Int32) else 4))) + (300 * (μ.1 0 11))) + ((μ.1 0 12) * 1000))), (5, .int ((hnd (v1.1 * (bif decide ((nI u1) = (nI dl)) then (6 : Int32) else 4))) + (300 * (μ.1 0 11)))), (4, .int (nI u1)), (3, .int 1), (2, .int (300 * (μ.1 0 11))), (1, .int 0), (0, .ref 0)]) (st' := [.int (((hnd (v1.1 * (bif decide ((nI u1) = (nI dl)) then (6 : Int32) else 4))) + (300 * (μ.1 0 11))) + ((μ.1 0 12) * 1000)), .int (nI t), .int (nI u1), .ref 0]) (by rfl) ?_
      refine zq_call hc (z_cx_ok hH (by rfl)) (gc_recordWin d' (by omega) (z_ui (z_ui W1 (18 + 8 * t) 4 ((μ.1 (18 + 8 * t) 4) - ((hnd (v1.1 * (bif decide ((nI u1) = (nI dl)) then (6 : Int32) else 4))) + (300 * (μ.1 0 11))))) (18 + 8 * u1) 4 ((μ.1 (18 + 8 * u1) 4) + (((hnd (v1.1 * (bif decide ((nI u1) = (nI dl)) then (6 : Int32) else 4))) + (300 * (μ.1 0 11))) + ((μ.1 0 12) * 1000)))) 0 (by omega) (by rw [ui_o (by first | decide | omega), ui_o (by first | decide | omega), (hO1 _ _ (by omega)).1]; exact h06) (nI u1) (nI t) (((hnd (v1.1 * (bif decide ((nI u1) = (nI dl)) then (6 : Int32) else 4))) + (300 * (μ.1 0 11))) + ((μ.1 0 12) * 1000))) (by decide +kernel) (fun r9 μ9 hq => ?_)
      obtain ⟨rfl, rfl⟩ := hq
      show Z 0 132 [(6, .int (((hnd (v1.1 * (bif decide ((nI u1) = (nI dl)) then (6 : Int32) else 4))) + (300 * (μ.1 0 11))) + ((μ.1 0 12) * 1000))), (5, .int ((hnd (v1.1 * (bif decide ((nI u1) = (nI dl)) then (6 : Int32) else 4))) + (300 * (μ.1 0 11)))), (4, .int (nI u1)), (3, .int 1), (2, .int (300 * (μ.1 0 11))), (1, .int 0), (0, .ref 0)] [] (rcW (z_ui (z_ui W1 (18 + 8 * t) 4 ((μ.1 (18 + 8 * t) 4) - ((hnd (v1.1 * (bif decide ((nI u1) = (nI dl)) then (6 : Int32) else 4))) + (300 * (μ.1 0 11))))) (18 + 8 * u1) 4 ((μ.1 (18 + 8 * u1) 4) + (((hnd (v1.1 * (bif decide ((nI u1) = (nI dl)) then (6 : Int32) else 4))) + (300 * (μ.1 0 11))) + ((μ.1 0 12) * 1000)))) 0 (nI u1) (nI t) (((hnd (v1.1 * (bif decide ((nI u1) = (nI dl)) then (6 : Int32) else 4))) + (300 * (μ.1 0 11))) + ((μ.1 0 12) * 1000)))
      refine z_rcs0 hc hH 4 (pc' := 139) (lv' := [(6, .int (((hnd (v1.1 * (bif decide ((nI u1) = (nI dl)) then (6 : Int32) else 4))) + (300 * (μ.1 0 11))) + ((μ.1 0 12) * 1000))), (5, .int ((hnd (v1.1 * (bif decide ((nI u1) = (nI dl)) then (6 : Int32) else 4))) + (300 * (μ.1 0 11)))), (4, .int (nI u1)), (3, .int 1), (2, .int (300 * (μ.1 0 11))), (1, .int 0), (0, .ref 0)]) (st' := [.ref 0, .int (nI u1)]) (by rfl) ?_
      refine zq_gfi hc hH (by rfl) (ci := 5) (f := 9) (by rfl) (by decide +kernel) (by rfl) ?_
      refine zV1 (Z := Z) (Eq.trans (rcW_o (by first | decide | omega)) (Eq.trans (ui_o (by first | decide | omega)) (Eq.trans (ui_o (by first | decide | omega)) (hO1 _ _ (by omega)).1))) ?_
      rw [hdl]
      have hJ3 : Z 0 150 [(6, .int (((hnd (v1.1 * (bif decide ((nI u1) = (nI dl)) then (6 : Int32) else 4))) + (300 * (μ.1 0 11))) + ((μ.1 0 12) * 1000))), (5, .int ((hnd (v1.1 * (bif decide ((nI u1) = (nI dl)) then (6 : Int32) else 4))) + (300 * (μ.1 0 11)))), (4, .int (nI u1)), (3, .int 1), (2, .int (300 * (μ.1 0 11))), (1, .int 0), (0, .ref 0)] [.int (nB (decide ((nI u1) = (nI dl))))] (rcW (z_ui (z_ui W1 (18 + 8 * t) 4 ((μ.1 (18 + 8 * t) 4) - ((hnd (v1.1 * (bif decide ((nI u1) = (nI dl)) then (6 : Int32) else 4))) + (300 * (μ.1 0 11))))) (18 + 8 * u1) 4 ((μ.1 (18 + 8 * u1) 4) + (((hnd (v1.1 * (bif decide ((nI u1) = (nI dl)) then (6 : Int32) else 4))) + (300 * (μ.1 0 11))) + ((μ.1 0 12) * 1000)))) 0 (nI u1) (nI t) (((hnd (v1.1 * (bif decide ((nI u1) = (nI dl)) then (6 : Int32) else 4))) + (300 * (μ.1 0 11))) + ((μ.1 0 12) * 1000))) := by
        refine z_rcs0 hc hH 5 (pc' := 155) (lv' := [(2, .int 0), (1, .int (nB (decide ((nI u1) = (nI dl))))), (6, .int (((hnd (v1.1 * (bif decide ((nI u1) = (nI dl)) then (6 : Int32) else 4))) + (300 * (μ.1 0 11))) + ((μ.1 0 12) * 1000))), (5, .int ((hnd (v1.1 * (bif decide ((nI u1) = (nI dl)) then (6 : Int32) else 4))) + (300 * (μ.1 0 11)))), (4, .int (nI u1)), (3, .int 1), (0, .ref 0)]) (st' := [.int 0, .ref 0]) (by rfl) ?_
        refine zq_pfi hc hH (by rfl) (ci := 5) (f := 12) (by rfl) (by decide +kernel) (by rfl) ?_
        show Z 0 158 [(2, .int 0), (1, .int (nB (decide ((nI u1) = (nI dl))))), (6, .int (((hnd (v1.1 * (bif decide ((nI u1) = (nI dl)) then (6 : Int32) else 4))) + (300 * (μ.1 0 11))) + ((μ.1 0 12) * 1000))), (5, .int ((hnd (v1.1 * (bif decide ((nI u1) = (nI dl)) then (6 : Int32) else 4))) + (300 * (μ.1 0 11)))), (4, .int (nI u1)), (3, .int 1), (0, .ref 0)] [] (z_ui (rcW (z_ui (z_ui W1 (18 + 8 * t) 4 ((μ.1 (18 + 8 * t) 4) - ((hnd (v1.1 * (bif decide ((nI u1) = (nI dl)) then (6 : Int32) else 4))) + (300 * (μ.1 0 11))))) (18 + 8 * u1) 4 ((μ.1 (18 + 8 * u1) 4) + (((hnd (v1.1 * (bif decide ((nI u1) = (nI dl)) then (6 : Int32) else 4))) + (300 * (μ.1 0 11))) + ((μ.1 0 12) * 1000)))) 0 (nI u1) (nI t) (((hnd (v1.1 * (bif decide ((nI u1) = (nI dl)) then (6 : Int32) else 4))) + (300 * (μ.1 0 11))) + ((μ.1 0 12) * 1000))) 0 12 0)
        refine z_rcs0 hc hH 6 (pc' := 19) (lv' := [(3, .int 2), (2, .int 0), (1, .int (nB (decide ((nI u1) = (nI dl))))), (6, .int (((hnd (v1.1 * (bif decide ((nI u1) = (nI dl)) then (6 : Int32) else 4))) + (300 * (μ.1 0 11))) + ((μ.1 0 12) * 1000))), (5, .int ((hnd (v1.1 * (bif decide ((nI u1) = (nI dl)) then (6 : Int32) else 4))) + (300 * (μ.1 0 11)))), (4, .int (nI u1)), (0, .ref 0)]) (st' := [.ref 0]) (by rfl) ?_
        refine zq_gfi hc hH (by rfl) (ci := 5) (f := 8) (by rfl) (by decide +kernel) (by rfl) ?_
        refine zV1 (Z := Z) (Eq.trans (ui_k (by first | decide | omega)) (Eq.trans (rcW_o (by first | decide | omega)) (Eq.trans (ui_o (by first | decide | omega)) (Eq.trans (ui_o (by first | decide | omega)) (hO1 _ _ (by omega)).1)))) ?_
        rw [ht]
        refine z_rcs0 hc hH 2 (pc' := 24) (lv' := [(3, .int 2), (2, .int 0), (1, .int (nB (decide ((nI u1) = (nI dl))))), (6, .int (((hnd (v1.1 * (bif decide ((nI u1) = (nI dl)) then (6 : Int32) else 4))) + (300 * (μ.1 0 11))) + ((μ.1 0 12) * 1000))), (5, .int ((hnd (v1.1 * (bif decide ((nI u1) = (nI dl)) then (6 : Int32) else 4))) + (300 * (μ.1 0 11)))), (4, .int (nI u1)), (0, .ref 0)]) (st' := [.int ((nI t) + 2)]) (by rfl) ?_
        rw [show nI t + 2 = nI (t + 2) from by rw [show (2 : Int32) = nI 2 from rfl, nI_add]]
        refine z_rcs0 hc hH 2 (pc' := 26) (lv' := [(3, .int 2), (2, .int 0), (1, .int (nB (decide ((nI u1) = (nI dl))))), (6, .int (((hnd (v1.1 * (bif decide ((nI u1) = (nI dl)) then (6 : Int32) else 4))) + (300 * (μ.1 0 11))) + ((μ.1 0 12) * 1000))), (5, .int ((hnd (v1.1 * (bif decide ((nI u1) = (nI dl)) then (6 : Int32) else 4))) + (300 * (μ.1 0 11)))), (4, .int (nI u1)), (0, .ref 0)]) (st' := [.int ((nI (t + 2)) &&& 3)]) (by rfl) ?_
        rw [show nI (t + 2) &&& 3 = nI u2 from by rw [and3 (by omega), hu2]]
        refine z_rcs0 hc hH 3 (pc' := 31) (lv' := [(4, .int (nI u2)), (3, .int 2), (2, .int 0), (1, .int (nB (decide ((nI u1) = (nI dl))))), (6, .int (((hnd (v1.1 * (bif decide ((nI u1) = (nI dl)) then (6 : Int32) else 4))) + (300 * (μ.1 0 11))) + ((μ.1 0 12) * 1000))), (5, .int ((hnd (v1.1 * (bif decide ((nI u1) = (nI dl)) then (6 : Int32) else 4))) + (300 * (μ.1 0 11)))), (0, .ref 0)]) (st' := [.int (nI u2), .ref 0]) (by rfl) ?_
        refine zq_call hc (z_cx_ok hH (by rfl)) (gc_at4 d' (by omega) (z_ui (rcW (z_ui (z_ui W1 (18 + 8 * t) 4 ((μ.1 (18 + 8 * t) 4) - ((hnd (v1.1 * (bif decide ((nI u1) = (nI dl)) then (6 : Int32) else 4))) + (300 * (μ.1 0 11))))) (18 + 8 * u1) 4 ((μ.1 (18 + 8 * u1) 4) + (((hnd (v1.1 * (bif decide ((nI u1) = (nI dl)) then (6 : Int32) else 4))) + (300 * (μ.1 0 11))) + ((μ.1 0 12) * 1000)))) 0 (nI u1) (nI t) (((hnd (v1.1 * (bif decide ((nI u1) = (nI dl)) then (6 : Int32) else 4))) + (300 * (μ.1 0 11))) + ((μ.1 0 12) * 1000))) 0 12 0) u2 hu24) (by decide +kernel) (fun r9 μ9 hq => ?_)
        obtain ⟨hμ9, rfl⟩ := hq
        rw [hμ9]
        clear hμ9 μ9
        show Z 0 34 [(4, .int (nI u2)), (3, .int 2), (2, .int 0), (1, .int (nB (decide ((nI u1) = (nI dl))))), (6, .int (((hnd (v1.1 * (bif decide ((nI u1) = (nI dl)) then (6 : Int32) else 4))) + (300 * (μ.1 0 11))) + ((μ.1 0 12) * 1000))), (5, .int ((hnd (v1.1 * (bif decide ((nI u1) = (nI dl)) then (6 : Int32) else 4))) + (300 * (μ.1 0 11)))), (0, .ref 0)] [.ref (18 + 8 * u2)] _
        refine zq_gfi hc hH (by rfl) (ci := 1) (f := 9) (by rfl) (sj (P := fun i => okf 79 1 9 (18 + 8 * i)) hu24 (by decide +kernel)) (by rfl) ?_
        refine zV1 (Z := Z) (Eq.trans (ui_o (by first | decide | omega)) (Eq.trans (rcW_o (by first | decide | omega)) (Eq.trans (ui_o (by first | decide | omega)) (Eq.trans (ui_o (by first | decide | omega)) (hO1 _ _ (by omega)).1)))) ?_
        refine zq_if hc hH (by rfl) (tg := 43) (by rfl) (fun h4 => ?_) (fun h4 => ?_)
        · have h4 : (decide ((μ.1 (18 + 8 * u2) 9) = 0)) = false := decide_eq_false (cm_ne.mp h4)
          refine z_rcs0 hc hH 3 (pc' := 47) (lv' := [(4, .int (nI u2)), (3, .int 2), (2, .int 0), (1, .int (nB (decide ((nI u1) = (nI dl))))), (6, .int (((hnd (v1.1 * (bif decide ((nI u1) = (nI dl)) then (6 : Int32) else 4))) + (300 * (μ.1 0 11))) + ((μ.1 0 12) * 1000))), (5, .int ((hnd (v1.1 * (bif decide ((nI u1) = (nI dl)) then (6 : Int32) else 4))) + (300 * (μ.1 0 11)))), (0, .ref 0)]) (st' := [.int 0, .int (nI u2), .ref 0]) (by rfl) ?_
          refine zq_call hc (z_cx_ok hH (by rfl)) (hwg2 _ (WE_b (WE_rc (WE_p (WE_p (WE_wo (WE_rf _) hO1) (by omega)) (by omega)) (by omega))) (a_H_ui (a_H_rcW (a_H_pt (a_H_pt (hA1) (by omega)) (by omega)) (by omega)) (bI_top _)) d' (by omega)) (by decide +kernel) (fun r9 W2 hq => ?_)
          obtain ⟨v2, hB2, rfl, hO2, hv2, hA2⟩ := hq
          show Z 0 50 [(4, .int (nI u2)), (3, .int 2), (2, .int 0), (1, .int (nB (decide ((nI u1) = (nI dl))))), (6, .int (((hnd (v1.1 * (bif decide ((nI u1) = (nI dl)) then (6 : Int32) else 4))) + (300 * (μ.1 0 11))) + ((μ.1 0 12) * 1000))), (5, .int ((hnd (v1.1 * (bif decide ((nI u1) = (nI dl)) then (6 : Int32) else 4))) + (300 * (μ.1 0 11)))), (0, .ref 0)] [.int v2.1] W2
          refine z_rcs hc hH 2 (pc' := 53) (lv' := [(4, .int (nI u2)), (3, .int 2), (2, .int 0), (1, .int (nB (decide ((nI u1) = (nI dl))))), (6, .int (((hnd (v1.1 * (bif decide ((nI u1) = (nI dl)) then (6 : Int32) else 4))) + (300 * (μ.1 0 11))) + ((μ.1 0 12) * 1000))), (5, .int ((hnd (v1.1 * (bif decide ((nI u1) = (nI dl)) then (6 : Int32) else 4))) + (300 * (μ.1 0 11)))), (0, .ref 0)]) (st' := [.ref 0, .int (nI u2), .int v2.1]) (μ' := W2) (by rfl) ?_
          refine zq_gfi hc hH (by rfl) (ci := 5) (f := 9) (by rfl) (by decide +kernel) (by rfl) ?_
          refine zV1 (Z := Z) (Eq.trans (hO2 _ _ (by omega)).1 (Eq.trans (ui_k (by first | decide | omega)) (Eq.trans (rcW_o (by first | decide | omega)) (Eq.trans (ui_o (by first | decide | omega)) (Eq.trans (ui_o (by first | decide | omega)) (hO1 _ _ (by omega)).1))))) ?_
          rw [hdl]
          have hJ5 : Z 0 65 [(4, .int (nI u2)), (3, .int 2), (2, .int 0), (1, .int (nB (decide ((nI u1) = (nI dl))))), (6, .int (((hnd (v1.1 * (bif decide ((nI u1) = (nI dl)) then (6 : Int32) else 4))) + (300 * (μ.1 0 11))) + ((μ.1 0 12) * 1000))), (5, .int ((hnd (v1.1 * (bif decide ((nI u1) = (nI dl)) then (6 : Int32) else 4))) + (300 * (μ.1 0 11)))), (0, .ref 0)] [.int (bif decide ((nI u2) = (nI dl)) then (6 : Int32) else 4), .int v2.1] W2 := by
            refine z_rcs hc hH 1 (pc' := 66) (lv' := [(4, .int (nI u2)), (3, .int 2), (2, .int 0), (1, .int (nB (decide ((nI u1) = (nI dl))))), (6, .int (((hnd (v1.1 * (bif decide ((nI u1) = (nI dl)) then (6 : Int32) else 4))) + (300 * (μ.1 0 11))) + ((μ.1 0 12) * 1000))), (5, .int ((hnd (v1.1 * (bif decide ((nI u1) = (nI dl)) then (6 : Int32) else 4))) + (300 * (μ.1 0 11)))), (0, .ref 0)]) (st' := [.int (v2.1 * (bif decide ((nI u2) = (nI dl)) then (6 : Int32) else 4))]) (μ' := W2) (by rfl) ?_
            refine zq_call hc (z_cx_ok hH (by rfl)) (gc_hundreds d' (by omega) W2 (v2.1 * (bif decide ((nI u2) = (nI dl)) then (6 : Int32) else 4))) (by decide +kernel) (fun r9 μ9 hq => ?_)
            obtain ⟨hμ9, rfl⟩ := hq
            rw [hμ9]
            clear hμ9 μ9
            show Z 0 69 [(4, .int (nI u2)), (3, .int 2), (2, .int 0), (1, .int (nB (decide ((nI u1) = (nI dl))))), (6, .int (((hnd (v1.1 * (bif decide ((nI u1) = (nI dl)) then (6 : Int32) else 4))) + (300 * (μ.1 0 11))) + ((μ.1 0 12) * 1000))), (5, .int ((hnd (v1.1 * (bif decide ((nI u1) = (nI dl)) then (6 : Int32) else 4))) + (300 * (μ.1 0 11)))), (0, .ref 0)] [.int (hnd (v2.1 * (bif decide ((nI u2) = (nI dl)) then (6 : Int32) else 4)))] W2
            refine z_rcs hc hH 5 (pc' := 76) (lv' := [(5, .int ((hnd (v2.1 * (bif decide ((nI u2) = (nI dl)) then (6 : Int32) else 4))) + 0)), (4, .int (nI u2)), (3, .int 2), (2, .int 0), (1, .int (nB (decide ((nI u1) = (nI dl))))), (6, .int (((hnd (v1.1 * (bif decide ((nI u1) = (nI dl)) then (6 : Int32) else 4))) + (300 * (μ.1 0 11))) + ((μ.1 0 12) * 1000))), (0, .ref 0)]) (st' := [.ref 0, .int ((hnd (v2.1 * (bif decide ((nI u2) = (nI dl)) then (6 : Int32) else 4))) + 0)]) (μ' := W2) (by rfl) ?_
            refine zq_gfi hc hH (by rfl) (ci := 5) (f := 12) (by rfl) (by decide +kernel) (by rfl) ?_
            rw [(hO2 _ _ (by omega)).1, ui_s]
            refine z_rcs hc hH 6 (pc' := 88) (lv' := [(6, .int (((hnd (v2.1 * (bif decide ((nI u2) = (nI dl)) then (6 : Int32) else 4))) + 0) + 0)), (5, .int ((hnd (v2.1 * (bif decide ((nI u2) = (nI dl)) then (6 : Int32) else 4))) + 0)), (4, .int (nI u2)), (3, .int 2), (2, .int 0), (1, .int (nB (decide ((nI u1) = (nI dl))))), (0, .ref 0)]) (st' := [.ref 0, .ref 0]) (μ' := W2) (by rfl) ?_
            refine zq_gfi hc hH (by rfl) (ci := 5) (f := 8) (by rfl) (by decide +kernel) (by rfl) ?_
            refine zV1 (Z := Z) (Eq.trans (hO2 _ _ (by omega)).1 (Eq.trans (ui_k (by first | decide | omega)) (Eq.trans (rcW_o (by first | decide | omega)) (Eq.trans (ui_o (by first | decide | omega)) (Eq.trans (ui_o (by first | decide | omega)) (hO1 _ _ (by omega)).1))))) ?_
            rw [ht]
            refine zq_call hc (z_cx_ok hH (by rfl)) (gc_at4 d' (by omega) W2 t ht4) (by decide +kernel) (fun r9 μ9 hq => ?_)
            obtain ⟨hμ9, rfl⟩ := hq
            rw [hμ9]
            clear hμ9 μ9
            show Z 0 94 [(6, .int (((hnd (v2.1 * (bif decide ((nI u2) = (nI dl)) then (6 : Int32) else 4))) + 0) + 0)), (5, .int ((hnd (v2.1 * (bif decide ((nI u2) = (nI dl)) then (6 : Int32) else 4))) + 0)), (4, .int (nI u2)), (3, .int 2), (2, .int 0), (1, .int (nB (decide ((nI u1) = (nI dl))))), (0, .ref 0)] [.ref (18 + 8 * t)] W2
            refine z_rcs hc hH 1 (pc' := 95) (lv' := [(6, .int (((hnd (v2.1 * (bif decide ((nI u2) = (nI dl)) then (6 : Int32) else 4))) + 0) + 0)), (5, .int ((hnd (v2.1 * (bif decide ((nI u2) = (nI dl)) then (6 : Int32) else 4))) + 0)), (4, .int (nI u2)), (3, .int 2), (2, .int 0), (1, .int (nB (decide ((nI u1) = (nI dl))))), (0, .ref 0)]) (st' := [.ref (18 + 8 * t), .ref (18 + 8 * t)]) (μ' := W2) (by rfl) ?_
            refine zq_gfi hc hH (by rfl) (ci := 1) (f := 4) (by rfl) (sj (P := fun i => okf 79 1 4 (18 + 8 * i)) ht4 (by decide +kernel)) (by rfl) ?_
            refine zV1 (Z := Z) (Eq.trans (hO2 _ _ (by omega)).1 (Eq.trans (ui_o (by first | decide | omega)) (Eq.trans (rcW_o (by first | decide | omega)) (Eq.trans (ui_o (by first | decide | omega)) (ui_s))))) ?_
            refine z_rcs hc hH 2 (pc' := 101) (lv' := [(6, .int (((hnd (v2.1 * (bif decide ((nI u2) = (nI dl)) then (6 : Int32) else 4))) + 0) + 0)), (5, .int ((hnd (v2.1 * (bif decide ((nI u2) = (nI dl)) then (6 : Int32) else 4))) + 0)), (4, .int (nI u2)), (3, .int 2), (2, .int 0), (1, .int (nB (decide ((nI u1) = (nI dl))))), (0, .ref 0)]) (st' := [.int (((μ.1 (18 + 8 * t) 4) - ((hnd (v1.1 * (bif decide ((nI u1) = (nI dl)) then (6 : Int32) else 4))) + (300 * (μ.1 0 11)))) - ((hnd (v2.1 * (bif decide ((nI u2) = (nI dl)) then (6 : Int32) else 4))) + 0)), .ref (18 + 8 * t)]) (μ' := W2) (by rfl) ?_
            refine zq_pfi hc hH (by rfl) (ci := 1) (f := 4) (by rfl) (sj (P := fun i => okf 79 1 4 (18 + 8 * i)) ht4 (by decide +kernel)) (by rfl) ?_
            show Z 0 104 [(6, .int (((hnd (v2.1 * (bif decide ((nI u2) = (nI dl)) then (6 : Int32) else 4))) + 0) + 0)), (5, .int ((hnd (v2.1 * (bif decide ((nI u2) = (nI dl)) then (6 : Int32) else 4))) + 0)), (4, .int (nI u2)), (3, .int 2), (2, .int 0), (1, .int (nB (decide ((nI u1) = (nI dl))))), (0, .ref 0)] [] (z_ui W2 (18 + 8 * t) 4 (((μ.1 (18 + 8 * t) 4) - ((hnd (v1.1 * (bif decide ((nI u1) = (nI dl)) then (6 : Int32) else 4))) + (300 * (μ.1 0 11)))) - ((hnd (v2.1 * (bif decide ((nI u2) = (nI dl)) then (6 : Int32) else 4))) + 0)))
            refine z_rcs0 hc hH 2 (pc' := 107) (lv' := [(6, .int (((hnd (v2.1 * (bif decide ((nI u2) = (nI dl)) then (6 : Int32) else 4))) + 0) + 0)), (5, .int ((hnd (v2.1 * (bif decide ((nI u2) = (nI dl)) then (6 : Int32) else 4))) + 0)), (4, .int (nI u2)), (3, .int 2), (2, .int 0), (1, .int (nB (decide ((nI u1) = (nI dl))))), (0, .ref 0)]) (st' := [.int (nI u2), .ref 0]) (by rfl) ?_
            refine zq_call hc (z_cx_ok hH (by rfl)) (gc_at4 d' (by omega) (z_ui W2 (18 + 8 * t) 4 (((μ.1 (18 + 8 * t) 4) - ((hnd (v1.1 * (bif decide ((nI u1) = (nI dl)) then (6 : Int32) else 4))) + (300 * (μ.1 0 11)))) - ((hnd (v2.1 * (bif decide ((nI u2) = (nI dl)) then (6 : Int32) else 4))) + 0))) u2 hu24) (by decide +kernel) (fun r9 μ9 hq => ?_)
            obtain ⟨hμ9, rfl⟩ := hq
            rw [hμ9]
            clear hμ9 μ9
            show Z 0 110 [(6, .int (((hnd (v2.1 * (bif decide ((nI u2) = (nI dl)) then (6 : Int32) else 4))) + 0) + 0)), (5, .int ((hnd (v2.1 * (bif decide ((nI u2) = (nI dl)) then (6 : Int32) else 4))) + 0)), (4, .int (nI u2)), (3, .int 2), (2, .int 0), (1, .int (nB (decide ((nI u1) = (nI dl))))), (0, .ref 0)] [.ref (18 + 8 * u2)] _
            refine z_rcs0 hc hH 1 (pc' := 111) (lv' := [(6, .int (((hnd (v2.1 * (bif decide ((nI u2) = (nI dl)) then (6 : Int32) else 4))) + 0) + 0)), (5, .int ((hnd (v2.1 * (bif decide ((nI u2) = (nI dl)) then (6 : Int32) else 4))) + 0)), (4, .int (nI u2)), (3, .int 2), (2, .int 0), (1, .int (nB (decide ((nI u1) = (nI dl))))), (0, .ref 0)]) (st' := [.ref (18 + 8 * u2), .ref (18 + 8 * u2)]) (by rfl) ?_
            refine zq_gfi hc hH (by rfl) (ci := 1) (f := 4) (by rfl) (sj (P := fun i => okf 79 1 4 (18 + 8 * i)) hu24 (by decide +kernel)) (by rfl) ?_
            refine zV1 (Z := Z) (Eq.trans (ui_o (by first | decide | omega)) (Eq.trans (hO2 _ _ (by omega)).1 (Eq.trans (ui_o (by first | decide | omega)) (Eq.trans (rcW_o (by first | decide | omega)) (Eq.trans (ui_o (by first | decide | omega)) (Eq.trans (ui_o (by first | decide | omega)) (hO1 _ _ (by omega)).1)))))) ?_
            refine z_rcs0 hc hH 2 (pc' := 117) (lv' := [(6, .int (((hnd (v2.1 * (bif decide ((nI u2) = (nI dl)) then (6 : Int32) else 4))) + 0) + 0)), (5, .int ((hnd (v2.1 * (bif decide ((nI u2) = (nI dl)) then (6 : Int32) else 4))) + 0)), (4, .int (nI u2)), (3, .int 2), (2, .int 0), (1, .int (nB (decide ((nI u1) = (nI dl))))), (0, .ref 0)]) (st' := [.int ((μ.1 (18 + 8 * u2) 4) + (((hnd (v2.1 * (bif decide ((nI u2) = (nI dl)) then (6 : Int32) else 4))) + 0) + 0)), .ref (18 + 8 * u2)]) (by rfl) ?_
            refine zq_pfi hc hH (by rfl) (ci := 1) (f := 4) (by rfl) (sj (P := fun i => okf 79 1 4 (18 + 8 * i)) hu24 (by decide +kernel)) (by rfl) ?_
            show Z 0 120 [(6, .int (((hnd (v2.1 * (bif decide ((nI u2) = (nI dl)) then (6 : Int32) else 4))) + 0) + 0)), (5, .int ((hnd (v2.1 * (bif decide ((nI u2) = (nI dl)) then (6 : Int32) else 4))) + 0)), (4, .int (nI u2)), (3, .int 2), (2, .int 0), (1, .int (nB (decide ((nI u1) = (nI dl))))), (0, .ref 0)] [] (z_ui (z_ui W2 (18 + 8 * t) 4 (((μ.1 (18 + 8 * t) 4) - ((hnd (v1.1 * (bif decide ((nI u1) = (nI dl)) then (6 : Int32) else 4))) + (300 * (μ.1 0 11)))) - ((hnd (v2.1 * (bif decide ((nI u2) = (nI dl)) then (6 : Int32) else 4))) + 0))) (18 + 8 * u2) 4 ((μ.1 (18 + 8 * u2) 4) + (((hnd (v2.1 * (bif decide ((nI u2) = (nI dl)) then (6 : Int32) else 4))) + 0) + 0)))
            refine z_rcs0 hc hH 3 (pc' := 124) (lv' := [(6, .int (((hnd (v2.1 * (bif decide ((nI u2) = (nI dl)) then (6 : Int32) else 4))) + 0) + 0)), (5, .int ((hnd (v2.1 * (bif decide ((nI u2) = (nI dl)) then (6 : Int32) else 4))) + 0)), (4, .int (nI u2)), (3, .int 2), (2, .int 0), (1, .int (nB (decide ((nI u1) = (nI dl))))), (0, .ref 0)]) (st' := [.ref 0, .int (nI u2), .ref 0]) (by rfl) ?_
            refine zq_gfi hc hH (by rfl) (ci := 5) (f := 8) (by rfl) (by decide +kernel) (by rfl) ?_
            refine zV1 (Z := Z) (Eq.trans (ui_o (by first | decide | omega)) (Eq.trans (ui_o (by first | decide | omega)) (Eq.trans (hO2 _ _ (by omega)).1 (Eq.trans (ui_k (by first | decide | omega)) (Eq.trans (rcW_o (by first | decide | omega)) (Eq.trans (ui_o (by first | decide | omega)) (Eq.trans (ui_o (by first | decide | omega)) (hO1 _ _ (by omega)).1))))))) ?_
            rw [ht]
            refine z_rcs0 hc hH 1 (pc' := 129) (lv' := [(6, .int (((hnd (v2.1 * (bif decide ((nI u2) = (nI dl)) then (6 : Int32) else 4))) + 0) + 0)), (5, .int ((hnd (v2.1 * (bif decide ((nI u2) = (nI dl)) then (6 : Int32) else 4))) + 0)), (4, .int (nI u2)), (3, .int 2), (2, .int 0), (1, .int (nB (decide ((nI u1) = (nI dl))))), (0, .ref 0)]) (st' := [.int (((hnd (v2.1 * (bif decide ((nI u2) = (nI dl)) then (6 : Int32) else 4))) + 0) + 0), .int (nI t), .int (nI u2), .ref 0]) (by rfl) ?_
            refine zq_call hc (z_cx_ok hH (by rfl)) (gc_recordWin d' (by omega) (z_ui (z_ui W2 (18 + 8 * t) 4 (((μ.1 (18 + 8 * t) 4) - ((hnd (v1.1 * (bif decide ((nI u1) = (nI dl)) then (6 : Int32) else 4))) + (300 * (μ.1 0 11)))) - ((hnd (v2.1 * (bif decide ((nI u2) = (nI dl)) then (6 : Int32) else 4))) + 0))) (18 + 8 * u2) 4 ((μ.1 (18 + 8 * u2) 4) + (((hnd (v2.1 * (bif decide ((nI u2) = (nI dl)) then (6 : Int32) else 4))) + 0) + 0))) 1 (by omega) (by rw [ui_o (by first | decide | omega), ui_o (by first | decide | omega), (hO2 _ _ (by omega)).1, ui_k (by first | decide | omega), rcW_6]) (nI u2) (nI t) (((hnd (v2.1 * (bif decide ((nI u2) = (nI dl)) then (6 : Int32) else 4))) + 0) + 0)) (by decide +kernel) (fun r9 μ9 hq => ?_)
            obtain ⟨rfl, rfl⟩ := hq
            show Z 0 132 [(6, .int (((hnd (v2.1 * (bif decide ((nI u2) = (nI dl)) then (6 : Int32) else 4))) + 0) + 0)), (5, .int ((hnd (v2.1 * (bif decide ((nI u2) = (nI dl)) then (6 : Int32) else 4))) + 0)), (4, .int (nI u2)), (3, .int 2), (2, .int 0), (1, .int (nB (decide ((nI u1) = (nI dl))))), (0, .ref 0)] [] (rcW (z_ui (z_ui W2 (18 + 8 * t) 4 (((μ.1 (18 + 8 * t) 4) - ((hnd (v1.1 * (bif decide ((nI u1) = (nI dl)) then (6 : Int32) else 4))) + (300 * (μ.1 0 11)))) - ((hnd (v2.1 * (bif decide ((nI u2) = (nI dl)) then (6 : Int32) else 4))) + 0))) (18 + 8 * u2) 4 ((μ.1 (18 + 8 * u2) 4) + (((hnd (v2.1 * (bif decide ((nI u2) = (nI dl)) then (6 : Int32) else 4))) + 0) + 0))) 1 (nI u2) (nI t) (((hnd (v2.1 * (bif decide ((nI u2) = (nI dl)) then (6 : Int32) else 4))) + 0) + 0))
            refine z_rcs0 hc hH 1 (pc' := 133) (lv' := [(6, .int (((hnd (v2.1 * (bif decide ((nI u2) = (nI dl)) then (6 : Int32) else 4))) + 0) + 0)), (5, .int ((hnd (v2.1 * (bif decide ((nI u2) = (nI dl)) then (6 : Int32) else 4))) + 0)), (4, .int (nI u2)), (3, .int 2), (2, .int 0), (1, .int (nB (decide ((nI u1) = (nI dl))))), (0, .ref 0)]) (st' := [.int (nB (decide ((nI u1) = (nI dl))))]) (by rfl) ?_
            have hJ6 : Z 0 150 [(6, .int (((hnd (v2.1 * (bif decide ((nI u2) = (nI dl)) then (6 : Int32) else 4))) + 0) + 0)), (5, .int ((hnd (v2.1 * (bif decide ((nI u2) = (nI dl)) then (6 : Int32) else 4))) + 0)), (4, .int (nI u2)), (3, .int 2), (2, .int 0), (1, .int (nB (decide ((nI u1) = (nI dl))))), (0, .ref 0)] [.int (nB ((decide ((nI u1) = (nI dl))) || (decide ((nI u2) = (nI dl)))))] (rcW (z_ui (z_ui W2 (18 + 8 * t) 4 (((μ.1 (18 + 8 * t) 4) - ((hnd (v1.1 * (bif decide ((nI u1) = (nI dl)) then (6 : Int32) else 4))) + (300 * (μ.1 0 11)))) - ((hnd (v2.1 * (bif decide ((nI u2) = (nI dl)) then (6 : Int32) else 4))) + 0))) (18 + 8 * u2) 4 ((μ.1 (18 + 8 * u2) 4) + (((hnd (v2.1 * (bif decide ((nI u2) = (nI dl)) then (6 : Int32) else 4))) + 0) + 0))) 1 (nI u2) (nI t) (((hnd (v2.1 * (bif decide ((nI u2) = (nI dl)) then (6 : Int32) else 4))) + 0) + 0)) := by
              refine z_rcs0 hc hH 5 (pc' := 155) (lv' := [(2, .int 0), (1, .int (nB ((decide ((nI u1) = (nI dl))) || (decide ((nI u2) = (nI dl)))))), (6, .int (((hnd (v2.1 * (bif decide ((nI u2) = (nI dl)) then (6 : Int32) else 4))) + 0) + 0)), (5, .int ((hnd (v2.1 * (bif decide ((nI u2) = (nI dl)) then (6 : Int32) else 4))) + 0)), (4, .int (nI u2)), (3, .int 2), (0, .ref 0)]) (st' := [.int 0, .ref 0]) (by rfl) ?_
              refine zq_pfi hc hH (by rfl) (ci := 5) (f := 12) (by rfl) (by decide +kernel) (by rfl) ?_
              show Z 0 158 [(2, .int 0), (1, .int (nB ((decide ((nI u1) = (nI dl))) || (decide ((nI u2) = (nI dl)))))), (6, .int (((hnd (v2.1 * (bif decide ((nI u2) = (nI dl)) then (6 : Int32) else 4))) + 0) + 0)), (5, .int ((hnd (v2.1 * (bif decide ((nI u2) = (nI dl)) then (6 : Int32) else 4))) + 0)), (4, .int (nI u2)), (3, .int 2), (0, .ref 0)] [] (z_ui (rcW (z_ui (z_ui W2 (18 + 8 * t) 4 (((μ.1 (18 + 8 * t) 4) - ((hnd (v1.1 * (bif decide ((nI u1) = (nI dl)) then (6 : Int32) else 4))) + (300 * (μ.1 0 11)))) - ((hnd (v2.1 * (bif decide ((nI u2) = (nI dl)) then (6 : Int32) else 4))) + 0))) (18 + 8 * u2) 4 ((μ.1 (18 + 8 * u2) 4) + (((hnd (v2.1 * (bif decide ((nI u2) = (nI dl)) then (6 : Int32) else 4))) + 0) + 0))) 1 (nI u2) (nI t) (((hnd (v2.1 * (bif decide ((nI u2) = (nI dl)) then (6 : Int32) else 4))) + 0) + 0)) 0 12 0)
              refine z_rcs0 hc hH 6 (pc' := 19) (lv' := [(3, .int 3), (2, .int 0), (1, .int (nB ((decide ((nI u1) = (nI dl))) || (decide ((nI u2) = (nI dl)))))), (6, .int (((hnd (v2.1 * (bif decide ((nI u2) = (nI dl)) then (6 : Int32) else 4))) + 0) + 0)), (5, .int ((hnd (v2.1 * (bif decide ((nI u2) = (nI dl)) then (6 : Int32) else 4))) + 0)), (4, .int (nI u2)), (0, .ref 0)]) (st' := [.ref 0]) (by rfl) ?_
              refine zq_gfi hc hH (by rfl) (ci := 5) (f := 8) (by rfl) (by decide +kernel) (by rfl) ?_
              refine zV1 (Z := Z) (Eq.trans (ui_k (by first | decide | omega)) (Eq.trans (rcW_o (by first | decide | omega)) (Eq.trans (ui_o (by first | decide | omega)) (Eq.trans (ui_o (by first | decide | omega)) (Eq.trans (hO2 _ _ (by omega)).1 (Eq.trans (ui_k (by first | decide | omega)) (Eq.trans (rcW_o (by first | decide | omega)) (Eq.trans (ui_o (by first | decide | omega)) (Eq.trans (ui_o (by first | decide | omega)) (hO1 _ _ (by omega)).1))))))))) ?_
              rw [ht]
              refine z_rcs0 hc hH 2 (pc' := 24) (lv' := [(3, .int 3), (2, .int 0), (1, .int (nB ((decide ((nI u1) = (nI dl))) || (decide ((nI u2) = (nI dl)))))), (6, .int (((hnd (v2.1 * (bif decide ((nI u2) = (nI dl)) then (6 : Int32) else 4))) + 0) + 0)), (5, .int ((hnd (v2.1 * (bif decide ((nI u2) = (nI dl)) then (6 : Int32) else 4))) + 0)), (4, .int (nI u2)), (0, .ref 0)]) (st' := [.int ((nI t) + 3)]) (by rfl) ?_
              rw [show nI t + 3 = nI (t + 3) from by rw [show (3 : Int32) = nI 3 from rfl, nI_add]]
              refine z_rcs0 hc hH 2 (pc' := 26) (lv' := [(3, .int 3), (2, .int 0), (1, .int (nB ((decide ((nI u1) = (nI dl))) || (decide ((nI u2) = (nI dl)))))), (6, .int (((hnd (v2.1 * (bif decide ((nI u2) = (nI dl)) then (6 : Int32) else 4))) + 0) + 0)), (5, .int ((hnd (v2.1 * (bif decide ((nI u2) = (nI dl)) then (6 : Int32) else 4))) + 0)), (4, .int (nI u2)), (0, .ref 0)]) (st' := [.int ((nI (t + 3)) &&& 3)]) (by rfl) ?_
              rw [show nI (t + 3) &&& 3 = nI u3 from by rw [and3 (by omega), hu3]]
              refine z_rcs0 hc hH 3 (pc' := 31) (lv' := [(4, .int (nI u3)), (3, .int 3), (2, .int 0), (1, .int (nB ((decide ((nI u1) = (nI dl))) || (decide ((nI u2) = (nI dl)))))), (6, .int (((hnd (v2.1 * (bif decide ((nI u2) = (nI dl)) then (6 : Int32) else 4))) + 0) + 0)), (5, .int ((hnd (v2.1 * (bif decide ((nI u2) = (nI dl)) then (6 : Int32) else 4))) + 0)), (0, .ref 0)]) (st' := [.int (nI u3), .ref 0]) (by rfl) ?_
              refine zq_call hc (z_cx_ok hH (by rfl)) (gc_at4 d' (by omega) (z_ui (rcW (z_ui (z_ui W2 (18 + 8 * t) 4 (((μ.1 (18 + 8 * t) 4) - ((hnd (v1.1 * (bif decide ((nI u1) = (nI dl)) then (6 : Int32) else 4))) + (300 * (μ.1 0 11)))) - ((hnd (v2.1 * (bif decide ((nI u2) = (nI dl)) then (6 : Int32) else 4))) + 0))) (18 + 8 * u2) 4 ((μ.1 (18 + 8 * u2) 4) + (((hnd (v2.1 * (bif decide ((nI u2) = (nI dl)) then (6 : Int32) else 4))) + 0) + 0))) 1 (nI u2) (nI t) (((hnd (v2.1 * (bif decide ((nI u2) = (nI dl)) then (6 : Int32) else 4))) + 0) + 0)) 0 12 0) u3 hu34) (by decide +kernel) (fun r9 μ9 hq => ?_)
              obtain ⟨hμ9, rfl⟩ := hq
              rw [hμ9]
              clear hμ9 μ9
              show Z 0 34 [(4, .int (nI u3)), (3, .int 3), (2, .int 0), (1, .int (nB ((decide ((nI u1) = (nI dl))) || (decide ((nI u2) = (nI dl)))))), (6, .int (((hnd (v2.1 * (bif decide ((nI u2) = (nI dl)) then (6 : Int32) else 4))) + 0) + 0)), (5, .int ((hnd (v2.1 * (bif decide ((nI u2) = (nI dl)) then (6 : Int32) else 4))) + 0)), (0, .ref 0)] [.ref (18 + 8 * u3)] _
              refine zq_gfi hc hH (by rfl) (ci := 1) (f := 9) (by rfl) (sj (P := fun i => okf 79 1 9 (18 + 8 * i)) hu34 (by decide +kernel)) (by rfl) ?_
              refine zV1 (Z := Z) (Eq.trans (ui_o (by first | decide | omega)) (Eq.trans (rcW_o (by first | decide | omega)) (Eq.trans (ui_o (by first | decide | omega)) (Eq.trans (ui_o (by first | decide | omega)) (Eq.trans (hO2 _ _ (by omega)).1 (Eq.trans (ui_o (by first | decide | omega)) (Eq.trans (rcW_o (by first | decide | omega)) (Eq.trans (ui_o (by first | decide | omega)) (Eq.trans (ui_o (by first | decide | omega)) (hO1 _ _ (by omega)).1))))))))) ?_
              refine zq_if hc hH (by rfl) (tg := 43) (by rfl) (fun h7 => ?_) (fun h7 => ?_)
              · have h7 : (decide ((μ.1 (18 + 8 * u3) 9) = 0)) = false := decide_eq_false (cm_ne.mp h7)
                refine z_rcs0 hc hH 3 (pc' := 47) (lv' := [(4, .int (nI u3)), (3, .int 3), (2, .int 0), (1, .int (nB ((decide ((nI u1) = (nI dl))) || (decide ((nI u2) = (nI dl)))))), (6, .int (((hnd (v2.1 * (bif decide ((nI u2) = (nI dl)) then (6 : Int32) else 4))) + 0) + 0)), (5, .int ((hnd (v2.1 * (bif decide ((nI u2) = (nI dl)) then (6 : Int32) else 4))) + 0)), (0, .ref 0)]) (st' := [.int 0, .int (nI u3), .ref 0]) (by rfl) ?_
                refine zq_call hc (z_cx_ok hH (by rfl)) (hwg3 _ (WE_b (WE_rc (WE_p (WE_p (WE_wo (WE_b (WE_rc (WE_p (WE_p (WE_wo (WE_rf _) hO1) (by omega)) (by omega)) (by omega))) hO2) (by omega)) (by omega)) (by omega))) (a_H_ui (a_H_rcW (a_H_pt (a_H_pt (hA2) (by omega)) (by omega)) (by omega)) (bI_top _)) d' (by omega)) (by decide +kernel) (fun r9 W3 hq => ?_)
                obtain ⟨v3, hB3, rfl, hO3, hv3, hA3⟩ := hq
                show Z 0 50 [(4, .int (nI u3)), (3, .int 3), (2, .int 0), (1, .int (nB ((decide ((nI u1) = (nI dl))) || (decide ((nI u2) = (nI dl)))))), (6, .int (((hnd (v2.1 * (bif decide ((nI u2) = (nI dl)) then (6 : Int32) else 4))) + 0) + 0)), (5, .int ((hnd (v2.1 * (bif decide ((nI u2) = (nI dl)) then (6 : Int32) else 4))) + 0)), (0, .ref 0)] [.int v3.1] W3
                refine z_rcs hc hH 2 (pc' := 53) (lv' := [(4, .int (nI u3)), (3, .int 3), (2, .int 0), (1, .int (nB ((decide ((nI u1) = (nI dl))) || (decide ((nI u2) = (nI dl)))))), (6, .int (((hnd (v2.1 * (bif decide ((nI u2) = (nI dl)) then (6 : Int32) else 4))) + 0) + 0)), (5, .int ((hnd (v2.1 * (bif decide ((nI u2) = (nI dl)) then (6 : Int32) else 4))) + 0)), (0, .ref 0)]) (st' := [.ref 0, .int (nI u3), .int v3.1]) (μ' := W3) (by rfl) ?_
                refine zq_gfi hc hH (by rfl) (ci := 5) (f := 9) (by rfl) (by decide +kernel) (by rfl) ?_
                refine zV1 (Z := Z) (Eq.trans (hO3 _ _ (by omega)).1 (Eq.trans (ui_k (by first | decide | omega)) (Eq.trans (rcW_o (by first | decide | omega)) (Eq.trans (ui_o (by first | decide | omega)) (Eq.trans (ui_o (by first | decide | omega)) (Eq.trans (hO2 _ _ (by omega)).1 (Eq.trans (ui_k (by first | decide | omega)) (Eq.trans (rcW_o (by first | decide | omega)) (Eq.trans (ui_o (by first | decide | omega)) (Eq.trans (ui_o (by first | decide | omega)) (hO1 _ _ (by omega)).1)))))))))) ?_
                rw [hdl]
                have hJ8 : Z 0 65 [(4, .int (nI u3)), (3, .int 3), (2, .int 0), (1, .int (nB ((decide ((nI u1) = (nI dl))) || (decide ((nI u2) = (nI dl)))))), (6, .int (((hnd (v2.1 * (bif decide ((nI u2) = (nI dl)) then (6 : Int32) else 4))) + 0) + 0)), (5, .int ((hnd (v2.1 * (bif decide ((nI u2) = (nI dl)) then (6 : Int32) else 4))) + 0)), (0, .ref 0)] [.int (bif decide ((nI u3) = (nI dl)) then (6 : Int32) else 4), .int v3.1] W3 := by
                  refine z_rcs hc hH 1 (pc' := 66) (lv' := [(4, .int (nI u3)), (3, .int 3), (2, .int 0), (1, .int (nB ((decide ((nI u1) = (nI dl))) || (decide ((nI u2) = (nI dl)))))), (6, .int (((hnd (v2.1 * (bif decide ((nI u2) = (nI dl)) then (6 : Int32) else 4))) + 0) + 0)), (5, .int ((hnd (v2.1 * (bif decide ((nI u2) = (nI dl)) then (6 : Int32) else 4))) + 0)), (0, .ref 0)]) (st' := [.int (v3.1 * (bif decide ((nI u3) = (nI dl)) then (6 : Int32) else 4))]) (μ' := W3) (by rfl) ?_
                  refine zq_call hc (z_cx_ok hH (by rfl)) (gc_hundreds d' (by omega) W3 (v3.1 * (bif decide ((nI u3) = (nI dl)) then (6 : Int32) else 4))) (by decide +kernel) (fun r9 μ9 hq => ?_)
                  obtain ⟨hμ9, rfl⟩ := hq
                  rw [hμ9]
                  clear hμ9 μ9
                  show Z 0 69 [(4, .int (nI u3)), (3, .int 3), (2, .int 0), (1, .int (nB ((decide ((nI u1) = (nI dl))) || (decide ((nI u2) = (nI dl)))))), (6, .int (((hnd (v2.1 * (bif decide ((nI u2) = (nI dl)) then (6 : Int32) else 4))) + 0) + 0)), (5, .int ((hnd (v2.1 * (bif decide ((nI u2) = (nI dl)) then (6 : Int32) else 4))) + 0)), (0, .ref 0)] [.int (hnd (v3.1 * (bif decide ((nI u3) = (nI dl)) then (6 : Int32) else 4)))] W3
                  refine z_rcs hc hH 5 (pc' := 76) (lv' := [(5, .int ((hnd (v3.1 * (bif decide ((nI u3) = (nI dl)) then (6 : Int32) else 4))) + 0)), (4, .int (nI u3)), (3, .int 3), (2, .int 0), (1, .int (nB ((decide ((nI u1) = (nI dl))) || (decide ((nI u2) = (nI dl)))))), (6, .int (((hnd (v2.1 * (bif decide ((nI u2) = (nI dl)) then (6 : Int32) else 4))) + 0) + 0)), (0, .ref 0)]) (st' := [.ref 0, .int ((hnd (v3.1 * (bif decide ((nI u3) = (nI dl)) then (6 : Int32) else 4))) + 0)]) (μ' := W3) (by rfl) ?_
                  refine zq_gfi hc hH (by rfl) (ci := 5) (f := 12) (by rfl) (by decide +kernel) (by rfl) ?_
                  rw [(hO3 _ _ (by omega)).1, ui_s]
                  refine z_rcs hc hH 6 (pc' := 88) (lv' := [(6, .int (((hnd (v3.1 * (bif decide ((nI u3) = (nI dl)) then (6 : Int32) else 4))) + 0) + 0)), (5, .int ((hnd (v3.1 * (bif decide ((nI u3) = (nI dl)) then (6 : Int32) else 4))) + 0)), (4, .int (nI u3)), (3, .int 3), (2, .int 0), (1, .int (nB ((decide ((nI u1) = (nI dl))) || (decide ((nI u2) = (nI dl)))))), (0, .ref 0)]) (st' := [.ref 0, .ref 0]) (μ' := W3) (by rfl) ?_
                  refine zq_gfi hc hH (by rfl) (ci := 5) (f := 8) (by rfl) (by decide +kernel) (by rfl) ?_
                  refine zV1 (Z := Z) (Eq.trans (hO3 _ _ (by omega)).1 (Eq.trans (ui_k (by first | decide | omega)) (Eq.trans (rcW_o (by first | decide | omega)) (Eq.trans (ui_o (by first | decide | omega)) (Eq.trans (ui_o (by first | decide | omega)) (Eq.trans (hO2 _ _ (by omega)).1 (Eq.trans (ui_k (by first | decide | omega)) (Eq.trans (rcW_o (by first | decide | omega)) (Eq.trans (ui_o (by first | decide | omega)) (Eq.trans (ui_o (by first | decide | omega)) (hO1 _ _ (by omega)).1)))))))))) ?_
                  rw [ht]
                  refine zq_call hc (z_cx_ok hH (by rfl)) (gc_at4 d' (by omega) W3 t ht4) (by decide +kernel) (fun r9 μ9 hq => ?_)
                  obtain ⟨hμ9, rfl⟩ := hq
                  rw [hμ9]
                  clear hμ9 μ9
                  show Z 0 94 [(6, .int (((hnd (v3.1 * (bif decide ((nI u3) = (nI dl)) then (6 : Int32) else 4))) + 0) + 0)), (5, .int ((hnd (v3.1 * (bif decide ((nI u3) = (nI dl)) then (6 : Int32) else 4))) + 0)), (4, .int (nI u3)), (3, .int 3), (2, .int 0), (1, .int (nB ((decide ((nI u1) = (nI dl))) || (decide ((nI u2) = (nI dl)))))), (0, .ref 0)] [.ref (18 + 8 * t)] W3
                  refine z_rcs hc hH 1 (pc' := 95) (lv' := [(6, .int (((hnd (v3.1 * (bif decide ((nI u3) = (nI dl)) then (6 : Int32) else 4))) + 0) + 0)), (5, .int ((hnd (v3.1 * (bif decide ((nI u3) = (nI dl)) then (6 : Int32) else 4))) + 0)), (4, .int (nI u3)), (3, .int 3), (2, .int 0), (1, .int (nB ((decide ((nI u1) = (nI dl))) || (decide ((nI u2) = (nI dl)))))), (0, .ref 0)]) (st' := [.ref (18 + 8 * t), .ref (18 + 8 * t)]) (μ' := W3) (by rfl) ?_
                  refine zq_gfi hc hH (by rfl) (ci := 1) (f := 4) (by rfl) (sj (P := fun i => okf 79 1 4 (18 + 8 * i)) ht4 (by decide +kernel)) (by rfl) ?_
                  refine zV1 (Z := Z) (Eq.trans (hO3 _ _ (by omega)).1 (Eq.trans (ui_o (by first | decide | omega)) (Eq.trans (rcW_o (by first | decide | omega)) (Eq.trans (ui_o (by first | decide | omega)) (ui_s))))) ?_
                  refine z_rcs hc hH 2 (pc' := 101) (lv' := [(6, .int (((hnd (v3.1 * (bif decide ((nI u3) = (nI dl)) then (6 : Int32) else 4))) + 0) + 0)), (5, .int ((hnd (v3.1 * (bif decide ((nI u3) = (nI dl)) then (6 : Int32) else 4))) + 0)), (4, .int (nI u3)), (3, .int 3), (2, .int 0), (1, .int (nB ((decide ((nI u1) = (nI dl))) || (decide ((nI u2) = (nI dl)))))), (0, .ref 0)]) (st' := [.int ((((μ.1 (18 + 8 * t) 4) - ((hnd (v1.1 * (bif decide ((nI u1) = (nI dl)) then (6 : Int32) else 4))) + (300 * (μ.1 0 11)))) - ((hnd (v2.1 * (bif decide ((nI u2) = (nI dl)) then (6 : Int32) else 4))) + 0)) - ((hnd (v3.1 * (bif decide ((nI u3) = (nI dl)) then (6 : Int32) else 4))) + 0)), .ref (18 + 8 * t)]) (μ' := W3) (by rfl) ?_
                  refine zq_pfi hc hH (by rfl) (ci := 1) (f := 4) (by rfl) (sj (P := fun i => okf 79 1 4 (18 + 8 * i)) ht4 (by decide +kernel)) (by rfl) ?_
                  show Z 0 104 [(6, .int (((hnd (v3.1 * (bif decide ((nI u3) = (nI dl)) then (6 : Int32) else 4))) + 0) + 0)), (5, .int ((hnd (v3.1 * (bif decide ((nI u3) = (nI dl)) then (6 : Int32) else 4))) + 0)), (4, .int (nI u3)), (3, .int 3), (2, .int 0), (1, .int (nB ((decide ((nI u1) = (nI dl))) || (decide ((nI u2) = (nI dl)))))), (0, .ref 0)] [] (z_ui W3 (18 + 8 * t) 4 ((((μ.1 (18 + 8 * t) 4) - ((hnd (v1.1 * (bif decide ((nI u1) = (nI dl)) then (6 : Int32) else 4))) + (300 * (μ.1 0 11)))) - ((hnd (v2.1 * (bif decide ((nI u2) = (nI dl)) then (6 : Int32) else 4))) + 0)) - ((hnd (v3.1 * (bif decide ((nI u3) = (nI dl)) then (6 : Int32) else 4))) + 0)))
                  refine z_rcs0 hc hH 2 (pc' := 107) (lv' := [(6, .int (((hnd (v3.1 * (bif decide ((nI u3) = (nI dl)) then (6 : Int32) else 4))) + 0) + 0)), (5, .int ((hnd (v3.1 * (bif decide ((nI u3) = (nI dl)) then (6 : Int32) else 4))) + 0)), (4, .int (nI u3)), (3, .int 3), (2, .int 0), (1, .int (nB ((decide ((nI u1) = (nI dl))) || (decide ((nI u2) = (nI dl)))))), (0, .ref 0)]) (st' := [.int (nI u3), .ref 0]) (by rfl) ?_
                  refine zq_call hc (z_cx_ok hH (by rfl)) (gc_at4 d' (by omega) (z_ui W3 (18 + 8 * t) 4 ((((μ.1 (18 + 8 * t) 4) - ((hnd (v1.1 * (bif decide ((nI u1) = (nI dl)) then (6 : Int32) else 4))) + (300 * (μ.1 0 11)))) - ((hnd (v2.1 * (bif decide ((nI u2) = (nI dl)) then (6 : Int32) else 4))) + 0)) - ((hnd (v3.1 * (bif decide ((nI u3) = (nI dl)) then (6 : Int32) else 4))) + 0))) u3 hu34) (by decide +kernel) (fun r9 μ9 hq => ?_)
                  obtain ⟨hμ9, rfl⟩ := hq
                  rw [hμ9]
                  clear hμ9 μ9
                  show Z 0 110 [(6, .int (((hnd (v3.1 * (bif decide ((nI u3) = (nI dl)) then (6 : Int32) else 4))) + 0) + 0)), (5, .int ((hnd (v3.1 * (bif decide ((nI u3) = (nI dl)) then (6 : Int32) else 4))) + 0)), (4, .int (nI u3)), (3, .int 3), (2, .int 0), (1, .int (nB ((decide ((nI u1) = (nI dl))) || (decide ((nI u2) = (nI dl)))))), (0, .ref 0)] [.ref (18 + 8 * u3)] _
                  refine z_rcs0 hc hH 1 (pc' := 111) (lv' := [(6, .int (((hnd (v3.1 * (bif decide ((nI u3) = (nI dl)) then (6 : Int32) else 4))) + 0) + 0)), (5, .int ((hnd (v3.1 * (bif decide ((nI u3) = (nI dl)) then (6 : Int32) else 4))) + 0)), (4, .int (nI u3)), (3, .int 3), (2, .int 0), (1, .int (nB ((decide ((nI u1) = (nI dl))) || (decide ((nI u2) = (nI dl)))))), (0, .ref 0)]) (st' := [.ref (18 + 8 * u3), .ref (18 + 8 * u3)]) (by rfl) ?_
                  refine zq_gfi hc hH (by rfl) (ci := 1) (f := 4) (by rfl) (sj (P := fun i => okf 79 1 4 (18 + 8 * i)) hu34 (by decide +kernel)) (by rfl) ?_
                  refine zV1 (Z := Z) (Eq.trans (ui_o (by first | decide | omega)) (Eq.trans (hO3 _ _ (by omega)).1 (Eq.trans (ui_o (by first | decide | omega)) (Eq.trans (rcW_o (by first | decide | omega)) (Eq.trans (ui_o (by first | decide | omega)) (Eq.trans (ui_o (by first | decide | omega)) (Eq.trans (hO2 _ _ (by omega)).1 (Eq.trans (ui_o (by first | decide | omega)) (Eq.trans (rcW_o (by first | decide | omega)) (Eq.trans (ui_o (by first | decide | omega)) (Eq.trans (ui_o (by first | decide | omega)) (hO1 _ _ (by omega)).1))))))))))) ?_
                  refine z_rcs0 hc hH 2 (pc' := 117) (lv' := [(6, .int (((hnd (v3.1 * (bif decide ((nI u3) = (nI dl)) then (6 : Int32) else 4))) + 0) + 0)), (5, .int ((hnd (v3.1 * (bif decide ((nI u3) = (nI dl)) then (6 : Int32) else 4))) + 0)), (4, .int (nI u3)), (3, .int 3), (2, .int 0), (1, .int (nB ((decide ((nI u1) = (nI dl))) || (decide ((nI u2) = (nI dl)))))), (0, .ref 0)]) (st' := [.int ((μ.1 (18 + 8 * u3) 4) + (((hnd (v3.1 * (bif decide ((nI u3) = (nI dl)) then (6 : Int32) else 4))) + 0) + 0)), .ref (18 + 8 * u3)]) (by rfl) ?_
                  refine zq_pfi hc hH (by rfl) (ci := 1) (f := 4) (by rfl) (sj (P := fun i => okf 79 1 4 (18 + 8 * i)) hu34 (by decide +kernel)) (by rfl) ?_
                  show Z 0 120 [(6, .int (((hnd (v3.1 * (bif decide ((nI u3) = (nI dl)) then (6 : Int32) else 4))) + 0) + 0)), (5, .int ((hnd (v3.1 * (bif decide ((nI u3) = (nI dl)) then (6 : Int32) else 4))) + 0)), (4, .int (nI u3)), (3, .int 3), (2, .int 0), (1, .int (nB ((decide ((nI u1) = (nI dl))) || (decide ((nI u2) = (nI dl)))))), (0, .ref 0)] [] (z_ui (z_ui W3 (18 + 8 * t) 4 ((((μ.1 (18 + 8 * t) 4) - ((hnd (v1.1 * (bif decide ((nI u1) = (nI dl)) then (6 : Int32) else 4))) + (300 * (μ.1 0 11)))) - ((hnd (v2.1 * (bif decide ((nI u2) = (nI dl)) then (6 : Int32) else 4))) + 0)) - ((hnd (v3.1 * (bif decide ((nI u3) = (nI dl)) then (6 : Int32) else 4))) + 0))) (18 + 8 * u3) 4 ((μ.1 (18 + 8 * u3) 4) + (((hnd (v3.1 * (bif decide ((nI u3) = (nI dl)) then (6 : Int32) else 4))) + 0) + 0)))
                  refine z_rcs0 hc hH 3 (pc' := 124) (lv' := [(6, .int (((hnd (v3.1 * (bif decide ((nI u3) = (nI dl)) then (6 : Int32) else 4))) + 0) + 0)), (5, .int ((hnd (v3.1 * (bif decide ((nI u3) = (nI dl)) then (6 : Int32) else 4))) + 0)), (4, .int (nI u3)), (3, .int 3), (2, .int 0), (1, .int (nB ((decide ((nI u1) = (nI dl))) || (decide ((nI u2) = (nI dl)))))), (0, .ref 0)]) (st' := [.ref 0, .int (nI u3), .ref 0]) (by rfl) ?_
                  refine zq_gfi hc hH (by rfl) (ci := 5) (f := 8) (by rfl) (by decide +kernel) (by rfl) ?_
                  refine zV1 (Z := Z) (Eq.trans (ui_o (by first | decide | omega)) (Eq.trans (ui_o (by first | decide | omega)) (Eq.trans (hO3 _ _ (by omega)).1 (Eq.trans (ui_k (by first | decide | omega)) (Eq.trans (rcW_o (by first | decide | omega)) (Eq.trans (ui_o (by first | decide | omega)) (Eq.trans (ui_o (by first | decide | omega)) (Eq.trans (hO2 _ _ (by omega)).1 (Eq.trans (ui_k (by first | decide | omega)) (Eq.trans (rcW_o (by first | decide | omega)) (Eq.trans (ui_o (by first | decide | omega)) (Eq.trans (ui_o (by first | decide | omega)) (hO1 _ _ (by omega)).1)))))))))))) ?_
                  rw [ht]
                  refine z_rcs0 hc hH 1 (pc' := 129) (lv' := [(6, .int (((hnd (v3.1 * (bif decide ((nI u3) = (nI dl)) then (6 : Int32) else 4))) + 0) + 0)), (5, .int ((hnd (v3.1 * (bif decide ((nI u3) = (nI dl)) then (6 : Int32) else 4))) + 0)), (4, .int (nI u3)), (3, .int 3), (2, .int 0), (1, .int (nB ((decide ((nI u1) = (nI dl))) || (decide ((nI u2) = (nI dl)))))), (0, .ref 0)]) (st' := [.int (((hnd (v3.1 * (bif decide ((nI u3) = (nI dl)) then (6 : Int32) else 4))) + 0) + 0), .int (nI t), .int (nI u3), .ref 0]) (by rfl) ?_
                  refine zq_call hc (z_cx_ok hH (by rfl)) (gc_recordWin d' (by omega) (z_ui (z_ui W3 (18 + 8 * t) 4 ((((μ.1 (18 + 8 * t) 4) - ((hnd (v1.1 * (bif decide ((nI u1) = (nI dl)) then (6 : Int32) else 4))) + (300 * (μ.1 0 11)))) - ((hnd (v2.1 * (bif decide ((nI u2) = (nI dl)) then (6 : Int32) else 4))) + 0)) - ((hnd (v3.1 * (bif decide ((nI u3) = (nI dl)) then (6 : Int32) else 4))) + 0))) (18 + 8 * u3) 4 ((μ.1 (18 + 8 * u3) 4) + (((hnd (v3.1 * (bif decide ((nI u3) = (nI dl)) then (6 : Int32) else 4))) + 0) + 0))) 2 (by omega) (by rw [ui_o (by first | decide | omega), ui_o (by first | decide | omega), (hO3 _ _ (by omega)).1, ui_k (by first | decide | omega), rcW_6]) (nI u3) (nI t) (((hnd (v3.1 * (bif decide ((nI u3) = (nI dl)) then (6 : Int32) else 4))) + 0) + 0)) (by decide +kernel) (fun r9 μ9 hq => ?_)
                  obtain ⟨rfl, rfl⟩ := hq
                  show Z 0 132 [(6, .int (((hnd (v3.1 * (bif decide ((nI u3) = (nI dl)) then (6 : Int32) else 4))) + 0) + 0)), (5, .int ((hnd (v3.1 * (bif decide ((nI u3) = (nI dl)) then (6 : Int32) else 4))) + 0)), (4, .int (nI u3)), (3, .int 3), (2, .int 0), (1, .int (nB ((decide ((nI u1) = (nI dl))) || (decide ((nI u2) = (nI dl)))))), (0, .ref 0)] [] (rcW (z_ui (z_ui W3 (18 + 8 * t) 4 ((((μ.1 (18 + 8 * t) 4) - ((hnd (v1.1 * (bif decide ((nI u1) = (nI dl)) then (6 : Int32) else 4))) + (300 * (μ.1 0 11)))) - ((hnd (v2.1 * (bif decide ((nI u2) = (nI dl)) then (6 : Int32) else 4))) + 0)) - ((hnd (v3.1 * (bif decide ((nI u3) = (nI dl)) then (6 : Int32) else 4))) + 0))) (18 + 8 * u3) 4 ((μ.1 (18 + 8 * u3) 4) + (((hnd (v3.1 * (bif decide ((nI u3) = (nI dl)) then (6 : Int32) else 4))) + 0) + 0))) 2 (nI u3) (nI t) (((hnd (v3.1 * (bif decide ((nI u3) = (nI dl)) then (6 : Int32) else 4))) + 0) + 0))
                  refine z_rcs0 hc hH 1 (pc' := 133) (lv' := [(6, .int (((hnd (v3.1 * (bif decide ((nI u3) = (nI dl)) then (6 : Int32) else 4))) + 0) + 0)), (5, .int ((hnd (v3.1 * (bif decide ((nI u3) = (nI dl)) then (6 : Int32) else 4))) + 0)), (4, .int (nI u3)), (3, .int 3), (2, .int 0), (1, .int (nB ((decide ((nI u1) = (nI dl))) || (decide ((nI u2) = (nI dl)))))), (0, .ref 0)]) (st' := [.int (nB ((decide ((nI u1) = (nI dl))) || (decide ((nI u2) = (nI dl)))))]) (by rfl) ?_
                  have hJ9 : Z 0 150 [(6, .int (((hnd (v3.1 * (bif decide ((nI u3) = (nI dl)) then (6 : Int32) else 4))) + 0) + 0)), (5, .int ((hnd (v3.1 * (bif decide ((nI u3) = (nI dl)) then (6 : Int32) else 4))) + 0)), (4, .int (nI u3)), (3, .int 3), (2, .int 0), (1, .int (nB ((decide ((nI u1) = (nI dl))) || (decide ((nI u2) = (nI dl)))))), (0, .ref 0)] [.int (nB (((decide ((nI u1) = (nI dl))) || (decide ((nI u2) = (nI dl)))) || (decide ((nI u3) = (nI dl)))))] (rcW (z_ui (z_ui W3 (18 + 8 * t) 4 ((((μ.1 (18 + 8 * t) 4) - ((hnd (v1.1 * (bif decide ((nI u1) = (nI dl)) then (6 : Int32) else 4))) + (300 * (μ.1 0 11)))) - ((hnd (v2.1 * (bif decide ((nI u2) = (nI dl)) then (6 : Int32) else 4))) + 0)) - ((hnd (v3.1 * (bif decide ((nI u3) = (nI dl)) then (6 : Int32) else 4))) + 0))) (18 + 8 * u3) 4 ((μ.1 (18 + 8 * u3) 4) + (((hnd (v3.1 * (bif decide ((nI u3) = (nI dl)) then (6 : Int32) else 4))) + 0) + 0))) 2 (nI u3) (nI t) (((hnd (v3.1 * (bif decide ((nI u3) = (nI dl)) then (6 : Int32) else 4))) + 0) + 0)) := by
                    refine z_rcs0 hc hH 5 (pc' := 155) (lv' := [(2, .int 0), (1, .int (nB (((decide ((nI u1) = (nI dl))) || (decide ((nI u2) = (nI dl)))) || (decide ((nI u3) = (nI dl)))))), (6, .int (((hnd (v3.1 * (bif decide ((nI u3) = (nI dl)) then (6 : Int32) else 4))) + 0) + 0)), (5, .int ((hnd (v3.1 * (bif decide ((nI u3) = (nI dl)) then (6 : Int32) else 4))) + 0)), (4, .int (nI u3)), (3, .int 3), (0, .ref 0)]) (st' := [.int 0, .ref 0]) (by rfl) ?_
                    refine zq_pfi hc hH (by rfl) (ci := 5) (f := 12) (by rfl) (by decide +kernel) (by rfl) ?_
                    show Z 0 158 [(2, .int 0), (1, .int (nB (((decide ((nI u1) = (nI dl))) || (decide ((nI u2) = (nI dl)))) || (decide ((nI u3) = (nI dl)))))), (6, .int (((hnd (v3.1 * (bif decide ((nI u3) = (nI dl)) then (6 : Int32) else 4))) + 0) + 0)), (5, .int ((hnd (v3.1 * (bif decide ((nI u3) = (nI dl)) then (6 : Int32) else 4))) + 0)), (4, .int (nI u3)), (3, .int 3), (0, .ref 0)] [] (z_ui (rcW (z_ui (z_ui W3 (18 + 8 * t) 4 ((((μ.1 (18 + 8 * t) 4) - ((hnd (v1.1 * (bif decide ((nI u1) = (nI dl)) then (6 : Int32) else 4))) + (300 * (μ.1 0 11)))) - ((hnd (v2.1 * (bif decide ((nI u2) = (nI dl)) then (6 : Int32) else 4))) + 0)) - ((hnd (v3.1 * (bif decide ((nI u3) = (nI dl)) then (6 : Int32) else 4))) + 0))) (18 + 8 * u3) 4 ((μ.1 (18 + 8 * u3) 4) + (((hnd (v3.1 * (bif decide ((nI u3) = (nI dl)) then (6 : Int32) else 4))) + 0) + 0))) 2 (nI u3) (nI t) (((hnd (v3.1 * (bif decide ((nI u3) = (nI dl)) then (6 : Int32) else 4))) + 0) + 0)) 0 12 0)
                    refine z_rcs0 hc hH 8 (pc' := 167) (lv' := [(3, .int 4), (2, .int 0), (1, .int (nB (((decide ((nI u1) = (nI dl))) || (decide ((nI u2) = (nI dl)))) || (decide ((nI u3) = (nI dl)))))), (6, .int (((hnd (v3.1 * (bif decide ((nI u3) = (nI dl)) then (6 : Int32) else 4))) + 0) + 0)), (5, .int ((hnd (v3.1 * (bif decide ((nI u3) = (nI dl)) then (6 : Int32) else 4))) + 0)), (4, .int (nI u3)), (0, .ref 0)]) (st' := [.int (nB (((decide ((nI u1) = (nI dl))) || (decide ((nI u2) = (nI dl)))) || (decide ((nI u3) = (nI dl))))), .int (nB (((decide ((nI u1) = (nI dl))) || (decide ((nI u2) = (nI dl)))) || (decide ((nI u3) = (nI dl))))), .ref 0]) (by rfl) ?_
                    have hJ10 : Z 0 175 [(3, .int 4), (2, .int 0), (1, .int (nB (((decide ((nI u1) = (nI dl))) || (decide ((nI u2) = (nI dl)))) || (decide ((nI u3) = (nI dl)))))), (6, .int (((hnd (v3.1 * (bif decide ((nI u3) = (nI dl)) then (6 : Int32) else 4))) + 0) + 0)), (5, .int ((hnd (v3.1 * (bif decide ((nI u3) = (nI dl)) then (6 : Int32) else 4))) + 0)), (4, .int (nI u3)), (0, .ref 0)] [.int (nB (!(((decide ((nI u1) = (nI dl))) || (decide ((nI u2) = (nI dl)))) || (decide ((nI u3) = (nI dl)))))), .int (nB (((decide ((nI u1) = (nI dl))) || (decide ((nI u2) = (nI dl)))) || (decide ((nI u3) = (nI dl))))), .ref 0] (z_ui (rcW (z_ui (z_ui W3 (18 + 8 * t) 4 ((((μ.1 (18 + 8 * t) 4) - ((hnd (v1.1 * (bif decide ((nI u1) = (nI dl)) then (6 : Int32) else 4))) + (300 * (μ.1 0 11)))) - ((hnd (v2.1 * (bif decide ((nI u2) = (nI dl)) then (6 : Int32) else 4))) + 0)) - ((hnd (v3.1 * (bif decide ((nI u3) = (nI dl)) then (6 : Int32) else 4))) + 0))) (18 + 8 * u3) 4 ((μ.1 (18 + 8 * u3) 4) + (((hnd (v3.1 * (bif decide ((nI u3) = (nI dl)) then (6 : Int32) else 4))) + 0) + 0))) 2 (nI u3) (nI t) (((hnd (v3.1 * (bif decide ((nI u3) = (nI dl)) then (6 : Int32) else 4))) + 0) + 0)) 0 12 0) := by
                      refine zq_call hc (z_cx_ok hH (by rfl)) (gc_endHandB d' (by omega) (z_ui (rcW (z_ui (z_ui W3 (18 + 8 * t) 4 ((((μ.1 (18 + 8 * t) 4) - ((hnd (v1.1 * (bif decide ((nI u1) = (nI dl)) then (6 : Int32) else 4))) + (300 * (μ.1 0 11)))) - ((hnd (v2.1 * (bif decide ((nI u2) = (nI dl)) then (6 : Int32) else 4))) + 0)) - ((hnd (v3.1 * (bif decide ((nI u3) = (nI dl)) then (6 : Int32) else 4))) + 0))) (18 + 8 * u3) 4 ((μ.1 (18 + 8 * u3) 4) + (((hnd (v3.1 * (bif decide ((nI u3) = (nI dl)) then (6 : Int32) else 4))) + 0) + 0))) 2 (nI u3) (nI t) (((hnd (v3.1 * (bif decide ((nI u3) = (nI dl)) then (6 : Int32) else 4))) + 0) + 0)) 0 12 0) (((decide ((nI u1) = (nI dl))) || (decide ((nI u2) = (nI dl)))) || (decide ((nI u3) = (nI dl)))) (!(((decide ((nI u1) = (nI dl))) || (decide ((nI u2) = (nI dl)))) || (decide ((nI u3) = (nI dl))))) dl e (by rw [ui_k (by first | decide | omega), rcW_o (by first | decide | omega), ui_o (by first | decide | omega), ui_o (by first | decide | omega), (hO3 _ _ (by omega)).1, ui_k (by first | decide | omega), rcW_o (by first | decide | omega), ui_o (by first | decide | omega), ui_o (by first | decide | omega), (hO2 _ _ (by omega)).1, ui_k (by first | decide | omega), rcW_o (by first | decide | omega), ui_o (by first | decide | omega), ui_o (by first | decide | omega), (hO1 _ _ (by omega)).1]; exact hdl) hdl4 he) (by decide +kernel) (fun r9 μ9 hq => ?_)
                      obtain ⟨rfl, rfl⟩ := hq
                      show Z 0 178 [(3, .int 4), (2, .int 0), (1, .int (nB (((decide ((nI u1) = (nI dl))) || (decide ((nI u2) = (nI dl)))) || (decide ((nI u3) = (nI dl)))))), (6, .int (((hnd (v3.1 * (bif decide ((nI u3) = (nI dl)) then (6 : Int32) else 4))) + 0) + 0)), (5, .int ((hnd (v3.1 * (bif decide ((nI u3) = (nI dl)) then (6 : Int32) else 4))) + 0)), (4, .int (nI u3)), (0, .ref 0)] [] (eHB (z_ui (rcW (z_ui (z_ui W3 (18 + 8 * t) 4 ((((μ.1 (18 + 8 * t) 4) - ((hnd (v1.1 * (bif decide ((nI u1) = (nI dl)) then (6 : Int32) else 4))) + (300 * (μ.1 0 11)))) - ((hnd (v2.1 * (bif decide ((nI u2) = (nI dl)) then (6 : Int32) else 4))) + 0)) - ((hnd (v3.1 * (bif decide ((nI u3) = (nI dl)) then (6 : Int32) else 4))) + 0))) (18 + 8 * u3) 4 ((μ.1 (18 + 8 * u3) 4) + (((hnd (v3.1 * (bif decide ((nI u3) = (nI dl)) then (6 : Int32) else 4))) + 0) + 0))) 2 (nI u3) (nI t) (((hnd (v3.1 * (bif decide ((nI u3) = (nI dl)) then (6 : Int32) else 4))) + 0) + 0)) 0 12 0) (((decide ((nI u1) = (nI dl))) || (decide ((nI u2) = (nI dl)))) || (decide ((nI u3) = (nI dl)))) (!(((decide ((nI u1) = (nI dl))) || (decide ((nI u2) = (nI dl)))) || (decide ((nI u3) = (nI dl))))) (xBk (z_ui (rcW (z_ui (z_ui W3 (18 + 8 * t) 4 ((((μ.1 (18 + 8 * t) 4) - ((hnd (v1.1 * (bif decide ((nI u1) = (nI dl)) then (6 : Int32) else 4))) + (300 * (μ.1 0 11)))) - ((hnd (v2.1 * (bif decide ((nI u2) = (nI dl)) then (6 : Int32) else 4))) + 0)) - ((hnd (v3.1 * (bif decide ((nI u3) = (nI dl)) then (6 : Int32) else 4))) + 0))) (18 + 8 * u3) 4 ((μ.1 (18 + 8 * u3) 4) + (((hnd (v3.1 * (bif decide ((nI u3) = (nI dl)) then (6 : Int32) else 4))) + 0) + 0))) 2 (nI u3) (nI t) (((hnd (v3.1 * (bif decide ((nI u3) = (nI dl)) then (6 : Int32) else 4))) + 0) + 0)) 0 12 0)) dl e (rcM (z_ui (rcW (z_ui (z_ui W3 (18 + 8 * t) 4 ((((μ.1 (18 + 8 * t) 4) - ((hnd (v1.1 * (bif decide ((nI u1) = (nI dl)) then (6 : Int32) else 4))) + (300 * (μ.1 0 11)))) - ((hnd (v2.1 * (bif decide ((nI u2) = (nI dl)) then (6 : Int32) else 4))) + 0)) - ((hnd (v3.1 * (bif decide ((nI u3) = (nI dl)) then (6 : Int32) else 4))) + 0))) (18 + 8 * u3) 4 ((μ.1 (18 + 8 * u3) 4) + (((hnd (v3.1 * (bif decide ((nI u3) = (nI dl)) then (6 : Int32) else 4))) + 0) + 0))) 2 (nI u3) (nI t) (((hnd (v3.1 * (bif decide ((nI u3) = (nI dl)) then (6 : Int32) else 4))) + 0) + 0)) 0 12 0)))
                      exact hr 0 178 _ _ _ none (by decide +kernel) (by rfl) (⟨rfl, v1, W1, v2, W2, v3, W3, hB1, hv1, hO1, hB2, hv2, hO2, hB3, hv3, hO3, rfl⟩)
                    refine zq_if hc hH (by rfl) (tg := 174) (by rfl) (fun h11 => ?_) (fun h11 => ?_)
                    · have h11 : (((decide ((nI u1) = (nI dl))) || (decide ((nI u2) = (nI dl)))) || (decide ((nI u3) = (nI dl)))) = true := nB_n.mp (cm_ne.mp h11)
                      refine z_rcs hc hH 1 (pc' := 175) (lv' := [(3, .int 4), (2, .int 0), (1, .int (nB (((decide ((nI u1) = (nI dl))) || (decide ((nI u2) = (nI dl)))) || (decide ((nI u3) = (nI dl)))))), (6, .int (((hnd (v3.1 * (bif decide ((nI u3) = (nI dl)) then (6 : Int32) else 4))) + 0) + 0)), (5, .int ((hnd (v3.1 * (bif decide ((nI u3) = (nI dl)) then (6 : Int32) else 4))) + 0)), (4, .int (nI u3)), (0, .ref 0)]) (st' := [.int 0, .int (nB (((decide ((nI u1) = (nI dl))) || (decide ((nI u2) = (nI dl)))) || (decide ((nI u3) = (nI dl))))), .ref 0]) (μ' := z_ui (rcW (z_ui (z_ui W3 (18 + 8 * t) 4 ((((μ.1 (18 + 8 * t) 4) - ((hnd (v1.1 * (bif decide ((nI u1) = (nI dl)) then (6 : Int32) else 4))) + (300 * (μ.1 0 11)))) - ((hnd (v2.1 * (bif decide ((nI u2) = (nI dl)) then (6 : Int32) else 4))) + 0)) - ((hnd (v3.1 * (bif decide ((nI u3) = (nI dl)) then (6 : Int32) else 4))) + 0))) (18 + 8 * u3) 4 ((μ.1 (18 + 8 * u3) 4) + (((hnd (v3.1 * (bif decide ((nI u3) = (nI dl)) then (6 : Int32) else 4))) + 0) + 0))) 2 (nI u3) (nI t) (((hnd (v3.1 * (bif decide ((nI u3) = (nI dl)) then (6 : Int32) else 4))) + 0) + 0)) 0 12 0) (by rfl) ?_
                      exact zJ hJ10 rfl (by first | with_reducible rfl | (simp only [h11, lb_f, Int64.or_zero, Int32.add_zero, nB_t, nB_f, Bool.not_true, Bool.not_false, Bool.and_true, Bool.true_and, Bool.false_and, Bool.and_false, Bool.or_true, Bool.true_or, Bool.false_or, Bool.or_false, cond_true, cond_false]; done) | rfl) rfl
                    · have h11 : (((decide ((nI u1) = (nI dl))) || (decide ((nI u2) = (nI dl)))) || (decide ((nI u3) = (nI dl)))) = false := nB_z.mp (cn_ne.mp h11)
                      refine z_rcs0 hc hH 2 (pc' := 175) (lv' := [(3, .int 4), (2, .int 0), (1, .int (nB (((decide ((nI u1) = (nI dl))) || (decide ((nI u2) = (nI dl)))) || (decide ((nI u3) = (nI dl)))))), (6, .int (((hnd (v3.1 * (bif decide ((nI u3) = (nI dl)) then (6 : Int32) else 4))) + 0) + 0)), (5, .int ((hnd (v3.1 * (bif decide ((nI u3) = (nI dl)) then (6 : Int32) else 4))) + 0)), (4, .int (nI u3)), (0, .ref 0)]) (st' := [.int 1, .int (nB (((decide ((nI u1) = (nI dl))) || (decide ((nI u2) = (nI dl)))) || (decide ((nI u3) = (nI dl))))), .ref 0]) (by rfl) ?_
                      exact zJ hJ10 rfl (by first | with_reducible rfl | (simp only [h11, lb_f, Int64.or_zero, Int32.add_zero, nB_t, nB_f, Bool.not_true, Bool.not_false, Bool.and_true, Bool.true_and, Bool.false_and, Bool.and_false, Bool.or_true, Bool.true_or, Bool.false_or, Bool.or_false, cond_true, cond_false]; done) | rfl) rfl
                  refine zq_if hc hH (by rfl) (tg := 145) (by rfl) (fun h12 => ?_) (fun h12 => ?_)
                  · have h12 : ((decide ((nI u1) = (nI dl))) || (decide ((nI u2) = (nI dl)))) = true := nB_n.mp (cm_ne.mp h12)
                    refine z_rcs hc hH 2 (pc' := 150) (lv' := [(6, .int (((hnd (v3.1 * (bif decide ((nI u3) = (nI dl)) then (6 : Int32) else 4))) + 0) + 0)), (5, .int ((hnd (v3.1 * (bif decide ((nI u3) = (nI dl)) then (6 : Int32) else 4))) + 0)), (4, .int (nI u3)), (3, .int 3), (2, .int 0), (1, .int (nB ((decide ((nI u1) = (nI dl))) || (decide ((nI u2) = (nI dl)))))), (0, .ref 0)]) (st' := [.int 1]) (μ' := rcW (z_ui (z_ui W3 (18 + 8 * t) 4 ((((μ.1 (18 + 8 * t) 4) - ((hnd (v1.1 * (bif decide ((nI u1) = (nI dl)) then (6 : Int32) else 4))) + (300 * (μ.1 0 11)))) - ((hnd (v2.1 * (bif decide ((nI u2) = (nI dl)) then (6 : Int32) else 4))) + 0)) - ((hnd (v3.1 * (bif decide ((nI u3) = (nI dl)) then (6 : Int32) else 4))) + 0))) (18 + 8 * u3) 4 ((μ.1 (18 + 8 * u3) 4) + (((hnd (v3.1 * (bif decide ((nI u3) = (nI dl)) then (6 : Int32) else 4))) + 0) + 0))) 2 (nI u3) (nI t) (((hnd (v3.1 * (bif decide ((nI u3) = (nI dl)) then (6 : Int32) else 4))) + 0) + 0)) (by rfl) ?_
                    exact zJ hJ9 rfl (by first | with_reducible rfl | (simp only [h12, lb_f, Int64.or_zero, Int32.add_zero, nB_t, nB_f, Bool.not_true, Bool.not_false, Bool.and_true, Bool.true_and, Bool.false_and, Bool.and_false, Bool.or_true, Bool.true_or, Bool.false_or, Bool.or_false, cond_true, cond_false]; done) | rfl) rfl
                  · have h12 : ((decide ((nI u1) = (nI dl))) || (decide ((nI u2) = (nI dl)))) = false := nB_z.mp (cn_ne.mp h12)
                    refine z_rcs0 hc hH 2 (pc' := 139) (lv' := [(6, .int (((hnd (v3.1 * (bif decide ((nI u3) = (nI dl)) then (6 : Int32) else 4))) + 0) + 0)), (5, .int ((hnd (v3.1 * (bif decide ((nI u3) = (nI dl)) then (6 : Int32) else 4))) + 0)), (4, .int (nI u3)), (3, .int 3), (2, .int 0), (1, .int (nB ((decide ((nI u1) = (nI dl))) || (decide ((nI u2) = (nI dl)))))), (0, .ref 0)]) (st' := [.ref 0, .int (nI u3)]) (by rfl) ?_
                    refine zq_gfi hc hH (by rfl) (ci := 5) (f := 9) (by rfl) (by decide +kernel) (by rfl) ?_
                    refine zV1 (Z := Z) (Eq.trans (rcW_o (by first | decide | omega)) (Eq.trans (ui_o (by first | decide | omega)) (Eq.trans (ui_o (by first | decide | omega)) (Eq.trans (hO3 _ _ (by omega)).1 (Eq.trans (ui_k (by first | decide | omega)) (Eq.trans (rcW_o (by first | decide | omega)) (Eq.trans (ui_o (by first | decide | omega)) (Eq.trans (ui_o (by first | decide | omega)) (Eq.trans (hO2 _ _ (by omega)).1 (Eq.trans (ui_k (by first | decide | omega)) (Eq.trans (rcW_o (by first | decide | omega)) (Eq.trans (ui_o (by first | decide | omega)) (Eq.trans (ui_o (by first | decide | omega)) (hO1 _ _ (by omega)).1))))))))))))) ?_
                    rw [hdl]
                    refine zq_ic hc hH (by rfl) (tg := 149) (by rfl) (fun h13 => ?_) (fun h13 => ?_)
                    · have h13 : (decide ((nI u3) = (nI dl))) = false := decide_eq_false (cm_ne.mp h13)
                      refine z_rcs0 hc hH 1 (pc' := 150) (lv' := [(6, .int (((hnd (v3.1 * (bif decide ((nI u3) = (nI dl)) then (6 : Int32) else 4))) + 0) + 0)), (5, .int ((hnd (v3.1 * (bif decide ((nI u3) = (nI dl)) then (6 : Int32) else 4))) + 0)), (4, .int (nI u3)), (3, .int 3), (2, .int 0), (1, .int (nB ((decide ((nI u1) = (nI dl))) || (decide ((nI u2) = (nI dl)))))), (0, .ref 0)]) (st' := [.int 0]) (by rfl) ?_
                      exact zJ hJ9 rfl (by first | with_reducible rfl | (simp only [h12, h13, lb_f, Int64.or_zero, Int32.add_zero, nB_t, nB_f, Bool.not_true, Bool.not_false, Bool.and_true, Bool.true_and, Bool.false_and, Bool.and_false, Bool.or_true, Bool.true_or, Bool.false_or, Bool.or_false, cond_true, cond_false]; done) | rfl) rfl
                    · have h13 : (decide ((nI u3) = (nI dl))) = true := decide_eq_true (cn_ne.mp h13)
                      refine z_rcs0 hc hH 2 (pc' := 150) (lv' := [(6, .int (((hnd (v3.1 * (bif decide ((nI u3) = (nI dl)) then (6 : Int32) else 4))) + 0) + 0)), (5, .int ((hnd (v3.1 * (bif decide ((nI u3) = (nI dl)) then (6 : Int32) else 4))) + 0)), (4, .int (nI u3)), (3, .int 3), (2, .int 0), (1, .int (nB ((decide ((nI u1) = (nI dl))) || (decide ((nI u2) = (nI dl)))))), (0, .ref 0)]) (st' := [.int 1]) (by rfl) ?_
                      exact zJ hJ9 rfl (by first | with_reducible rfl | (simp only [h12, h13, lb_f, Int64.or_zero, Int32.add_zero, nB_t, nB_f, Bool.not_true, Bool.not_false, Bool.and_true, Bool.true_and, Bool.false_and, Bool.and_false, Bool.or_true, Bool.true_or, Bool.false_or, Bool.or_false, cond_true, cond_false]; done) | rfl) rfl
                refine zq_ic hc hH (by rfl) (tg := 64) (by rfl) (fun h14 => ?_) (fun h14 => ?_)
                · have h14 : (decide ((nI u3) = (nI dl))) = false := decide_eq_false (cm_ne.mp h14)
                  refine z_rcs hc hH 1 (pc' := 65) (lv' := [(4, .int (nI u3)), (3, .int 3), (2, .int 0), (1, .int (nB ((decide ((nI u1) = (nI dl))) || (decide ((nI u2) = (nI dl)))))), (6, .int (((hnd (v2.1 * (bif decide ((nI u2) = (nI dl)) then (6 : Int32) else 4))) + 0) + 0)), (5, .int ((hnd (v2.1 * (bif decide ((nI u2) = (nI dl)) then (6 : Int32) else 4))) + 0)), (0, .ref 0)]) (st' := [.int 4, .int v3.1]) (μ' := W3) (by rfl) ?_
                  exact zJ hJ8 rfl (by first | with_reducible rfl | (simp only [h14, lb_f, Int64.or_zero, Int32.add_zero, nB_t, nB_f, Bool.not_true, Bool.not_false, Bool.and_true, Bool.true_and, Bool.false_and, Bool.and_false, Bool.or_true, Bool.true_or, Bool.false_or, Bool.or_false, cond_true, cond_false]; done) | rfl) rfl
                · have h14 : (decide ((nI u3) = (nI dl))) = true := decide_eq_true (cn_ne.mp h14)
                  refine z_rcs hc hH 2 (pc' := 65) (lv' := [(4, .int (nI u3)), (3, .int 3), (2, .int 0), (1, .int (nB ((decide ((nI u1) = (nI dl))) || (decide ((nI u2) = (nI dl)))))), (6, .int (((hnd (v2.1 * (bif decide ((nI u2) = (nI dl)) then (6 : Int32) else 4))) + 0) + 0)), (5, .int ((hnd (v2.1 * (bif decide ((nI u2) = (nI dl)) then (6 : Int32) else 4))) + 0)), (0, .ref 0)]) (st' := [.int 6, .int v3.1]) (μ' := W3) (by rfl) ?_
                  exact zJ hJ8 rfl (by first | with_reducible rfl | (simp only [h14, lb_f, Int64.or_zero, Int32.add_zero, nB_t, nB_f, Bool.not_true, Bool.not_false, Bool.and_true, Bool.true_and, Bool.false_and, Bool.and_false, Bool.or_true, Bool.true_or, Bool.false_or, Bool.or_false, cond_true, cond_false]; done) | rfl) rfl
              · have h7 : (decide ((μ.1 (18 + 8 * u3) 9) = 0)) = true := decide_eq_true (cn_ne.mp h7)
                exact absurd (Eq.trans (Eq.symm (hs3)) h7) (by decide)
            refine zq_if hc hH (by rfl) (tg := 145) (by rfl) (fun h15 => ?_) (fun h15 => ?_)
            · have h15 : (decide ((nI u1) = (nI dl))) = true := nB_n.mp (cm_ne.mp h15)
              refine z_rcs hc hH 2 (pc' := 150) (lv' := [(6, .int (((hnd (v2.1 * (bif decide ((nI u2) = (nI dl)) then (6 : Int32) else 4))) + 0) + 0)), (5, .int ((hnd (v2.1 * (bif decide ((nI u2) = (nI dl)) then (6 : Int32) else 4))) + 0)), (4, .int (nI u2)), (3, .int 2), (2, .int 0), (1, .int (nB (decide ((nI u1) = (nI dl))))), (0, .ref 0)]) (st' := [.int 1]) (μ' := rcW (z_ui (z_ui W2 (18 + 8 * t) 4 (((μ.1 (18 + 8 * t) 4) - ((hnd (v1.1 * (bif decide ((nI u1) = (nI dl)) then (6 : Int32) else 4))) + (300 * (μ.1 0 11)))) - ((hnd (v2.1 * (bif decide ((nI u2) = (nI dl)) then (6 : Int32) else 4))) + 0))) (18 + 8 * u2) 4 ((μ.1 (18 + 8 * u2) 4) + (((hnd (v2.1 * (bif decide ((nI u2) = (nI dl)) then (6 : Int32) else 4))) + 0) + 0))) 1 (nI u2) (nI t) (((hnd (v2.1 * (bif decide ((nI u2) = (nI dl)) then (6 : Int32) else 4))) + 0) + 0)) (by rfl) ?_
              exact zJ hJ6 rfl (by first | with_reducible rfl | (simp only [h15, lb_f, Int64.or_zero, Int32.add_zero, nB_t, nB_f, Bool.not_true, Bool.not_false, Bool.and_true, Bool.true_and, Bool.false_and, Bool.and_false, Bool.or_true, Bool.true_or, Bool.false_or, Bool.or_false, cond_true, cond_false]; done) | rfl) rfl
            · have h15 : (decide ((nI u1) = (nI dl))) = false := nB_z.mp (cn_ne.mp h15)
              refine z_rcs0 hc hH 2 (pc' := 139) (lv' := [(6, .int (((hnd (v2.1 * (bif decide ((nI u2) = (nI dl)) then (6 : Int32) else 4))) + 0) + 0)), (5, .int ((hnd (v2.1 * (bif decide ((nI u2) = (nI dl)) then (6 : Int32) else 4))) + 0)), (4, .int (nI u2)), (3, .int 2), (2, .int 0), (1, .int (nB (decide ((nI u1) = (nI dl))))), (0, .ref 0)]) (st' := [.ref 0, .int (nI u2)]) (by rfl) ?_
              refine zq_gfi hc hH (by rfl) (ci := 5) (f := 9) (by rfl) (by decide +kernel) (by rfl) ?_
              refine zV1 (Z := Z) (Eq.trans (rcW_o (by first | decide | omega)) (Eq.trans (ui_o (by first | decide | omega)) (Eq.trans (ui_o (by first | decide | omega)) (Eq.trans (hO2 _ _ (by omega)).1 (Eq.trans (ui_k (by first | decide | omega)) (Eq.trans (rcW_o (by first | decide | omega)) (Eq.trans (ui_o (by first | decide | omega)) (Eq.trans (ui_o (by first | decide | omega)) (hO1 _ _ (by omega)).1)))))))) ?_
              rw [hdl]
              refine zq_ic hc hH (by rfl) (tg := 149) (by rfl) (fun h16 => ?_) (fun h16 => ?_)
              · have h16 : (decide ((nI u2) = (nI dl))) = false := decide_eq_false (cm_ne.mp h16)
                refine z_rcs0 hc hH 1 (pc' := 150) (lv' := [(6, .int (((hnd (v2.1 * (bif decide ((nI u2) = (nI dl)) then (6 : Int32) else 4))) + 0) + 0)), (5, .int ((hnd (v2.1 * (bif decide ((nI u2) = (nI dl)) then (6 : Int32) else 4))) + 0)), (4, .int (nI u2)), (3, .int 2), (2, .int 0), (1, .int (nB (decide ((nI u1) = (nI dl))))), (0, .ref 0)]) (st' := [.int 0]) (by rfl) ?_
                exact zJ hJ6 rfl (by first | with_reducible rfl | (simp only [h15, h16, lb_f, Int64.or_zero, Int32.add_zero, nB_t, nB_f, Bool.not_true, Bool.not_false, Bool.and_true, Bool.true_and, Bool.false_and, Bool.and_false, Bool.or_true, Bool.true_or, Bool.false_or, Bool.or_false, cond_true, cond_false]; done) | rfl) rfl
              · have h16 : (decide ((nI u2) = (nI dl))) = true := decide_eq_true (cn_ne.mp h16)
                refine z_rcs0 hc hH 2 (pc' := 150) (lv' := [(6, .int (((hnd (v2.1 * (bif decide ((nI u2) = (nI dl)) then (6 : Int32) else 4))) + 0) + 0)), (5, .int ((hnd (v2.1 * (bif decide ((nI u2) = (nI dl)) then (6 : Int32) else 4))) + 0)), (4, .int (nI u2)), (3, .int 2), (2, .int 0), (1, .int (nB (decide ((nI u1) = (nI dl))))), (0, .ref 0)]) (st' := [.int 1]) (by rfl) ?_
                exact zJ hJ6 rfl (by first | with_reducible rfl | (simp only [h15, h16, lb_f, Int64.or_zero, Int32.add_zero, nB_t, nB_f, Bool.not_true, Bool.not_false, Bool.and_true, Bool.true_and, Bool.false_and, Bool.and_false, Bool.or_true, Bool.true_or, Bool.false_or, Bool.or_false, cond_true, cond_false]; done) | rfl) rfl
          refine zq_ic hc hH (by rfl) (tg := 64) (by rfl) (fun h17 => ?_) (fun h17 => ?_)
          · have h17 : (decide ((nI u2) = (nI dl))) = false := decide_eq_false (cm_ne.mp h17)
            refine z_rcs hc hH 1 (pc' := 65) (lv' := [(4, .int (nI u2)), (3, .int 2), (2, .int 0), (1, .int (nB (decide ((nI u1) = (nI dl))))), (6, .int (((hnd (v1.1 * (bif decide ((nI u1) = (nI dl)) then (6 : Int32) else 4))) + (300 * (μ.1 0 11))) + ((μ.1 0 12) * 1000))), (5, .int ((hnd (v1.1 * (bif decide ((nI u1) = (nI dl)) then (6 : Int32) else 4))) + (300 * (μ.1 0 11)))), (0, .ref 0)]) (st' := [.int 4, .int v2.1]) (μ' := W2) (by rfl) ?_
            exact zJ hJ5 rfl (by first | with_reducible rfl | (simp only [h17, lb_f, Int64.or_zero, Int32.add_zero, nB_t, nB_f, Bool.not_true, Bool.not_false, Bool.and_true, Bool.true_and, Bool.false_and, Bool.and_false, Bool.or_true, Bool.true_or, Bool.false_or, Bool.or_false, cond_true, cond_false]; done) | rfl) rfl
          · have h17 : (decide ((nI u2) = (nI dl))) = true := decide_eq_true (cn_ne.mp h17)
            refine z_rcs hc hH 2 (pc' := 65) (lv' := [(4, .int (nI u2)), (3, .int 2), (2, .int 0), (1, .int (nB (decide ((nI u1) = (nI dl))))), (6, .int (((hnd (v1.1 * (bif decide ((nI u1) = (nI dl)) then (6 : Int32) else 4))) + (300 * (μ.1 0 11))) + ((μ.1 0 12) * 1000))), (5, .int ((hnd (v1.1 * (bif decide ((nI u1) = (nI dl)) then (6 : Int32) else 4))) + (300 * (μ.1 0 11)))), (0, .ref 0)]) (st' := [.int 6, .int v2.1]) (μ' := W2) (by rfl) ?_
            exact zJ hJ5 rfl (by first | with_reducible rfl | (simp only [h17, lb_f, Int64.or_zero, Int32.add_zero, nB_t, nB_f, Bool.not_true, Bool.not_false, Bool.and_true, Bool.true_and, Bool.false_and, Bool.and_false, Bool.or_true, Bool.true_or, Bool.false_or, Bool.or_false, cond_true, cond_false]; done) | rfl) rfl
        · have h4 : (decide ((μ.1 (18 + 8 * u2) 9) = 0)) = true := decide_eq_true (cn_ne.mp h4)
          exact absurd (Eq.trans (Eq.symm (hs2)) h4) (by decide)
      refine zq_ic hc hH (by rfl) (tg := 149) (by rfl) (fun h18 => ?_) (fun h18 => ?_)
      · have h18 : (decide ((nI u1) = (nI dl))) = false := decide_eq_false (cm_ne.mp h18)
        refine z_rcs hc hH 1 (pc' := 150) (lv' := [(6, .int (((hnd (v1.1 * (bif decide ((nI u1) = (nI dl)) then (6 : Int32) else 4))) + (300 * (μ.1 0 11))) + ((μ.1 0 12) * 1000))), (5, .int ((hnd (v1.1 * (bif decide ((nI u1) = (nI dl)) then (6 : Int32) else 4))) + (300 * (μ.1 0 11)))), (4, .int (nI u1)), (3, .int 1), (2, .int (300 * (μ.1 0 11))), (1, .int 0), (0, .ref 0)]) (st' := [.int 0]) (μ' := rcW (z_ui (z_ui W1 (18 + 8 * t) 4 ((μ.1 (18 + 8 * t) 4) - ((hnd (v1.1 * (bif decide ((nI u1) = (nI dl)) then (6 : Int32) else 4))) + (300 * (μ.1 0 11))))) (18 + 8 * u1) 4 ((μ.1 (18 + 8 * u1) 4) + (((hnd (v1.1 * (bif decide ((nI u1) = (nI dl)) then (6 : Int32) else 4))) + (300 * (μ.1 0 11))) + ((μ.1 0 12) * 1000)))) 0 (nI u1) (nI t) (((hnd (v1.1 * (bif decide ((nI u1) = (nI dl)) then (6 : Int32) else 4))) + (300 * (μ.1 0 11))) + ((μ.1 0 12) * 1000))) (by rfl) ?_
        exact zJ hJ3 rfl (by first | with_reducible rfl | (simp only [h18, lb_f, Int64.or_zero, Int32.add_zero, nB_t, nB_f, Bool.not_true, Bool.not_false, Bool.and_true, Bool.true_and, Bool.false_and, Bool.and_false, Bool.or_true, Bool.true_or, Bool.false_or, Bool.or_false, cond_true, cond_false]; done) | rfl) rfl
      · have h18 : (decide ((nI u1) = (nI dl))) = true := decide_eq_true (cn_ne.mp h18)
        refine z_rcs0 hc hH 2 (pc' := 150) (lv' := [(6, .int (((hnd (v1.1 * (bif decide ((nI u1) = (nI dl)) then (6 : Int32) else 4))) + (300 * (μ.1 0 11))) + ((μ.1 0 12) * 1000))), (5, .int ((hnd (v1.1 * (bif decide ((nI u1) = (nI dl)) then (6 : Int32) else 4))) + (300 * (μ.1 0 11)))), (4, .int (nI u1)), (3, .int 1), (2, .int (300 * (μ.1 0 11))), (1, .int 0), (0, .ref 0)]) (st' := [.int 1]) (by rfl) ?_
        exact zJ hJ3 rfl (by first | with_reducible rfl | (simp only [h18, lb_f, Int64.or_zero, Int32.add_zero, nB_t, nB_f, Bool.not_true, Bool.not_false, Bool.and_true, Bool.true_and, Bool.false_and, Bool.and_false, Bool.or_true, Bool.true_or, Bool.false_or, Bool.or_false, cond_true, cond_false]; done) | rfl) rfl
    refine zq_ic hc hH (by rfl) (tg := 64) (by rfl) (fun h19 => ?_) (fun h19 => ?_)
    · have h19 : (decide ((nI u1) = (nI dl))) = false := decide_eq_false (cm_ne.mp h19)
      refine z_rcs hc hH 1 (pc' := 65) (lv' := [(4, .int (nI u1)), (3, .int 1), (2, .int (300 * (μ.1 0 11))), (1, .int 0), (0, .ref 0)]) (st' := [.int 4, .int v1.1]) (μ' := W1) (by rfl) ?_
      exact zJ hJ2 rfl (by first | with_reducible rfl | (simp only [h19, lb_f, Int64.or_zero, Int32.add_zero, nB_t, nB_f, Bool.not_true, Bool.not_false, Bool.and_true, Bool.true_and, Bool.false_and, Bool.and_false, Bool.or_true, Bool.true_or, Bool.false_or, Bool.or_false, cond_true, cond_false]; done) | rfl) rfl
    · have h19 : (decide ((nI u1) = (nI dl))) = true := decide_eq_true (cn_ne.mp h19)
      refine z_rcs hc hH 2 (pc' := 65) (lv' := [(4, .int (nI u1)), (3, .int 1), (2, .int (300 * (μ.1 0 11))), (1, .int 0), (0, .ref 0)]) (st' := [.int 6, .int v1.1]) (μ' := W1) (by rfl) ?_
      exact zJ hJ2 rfl (by first | with_reducible rfl | (simp only [h19, lb_f, Int64.or_zero, Int32.add_zero, nB_t, nB_f, Bool.not_true, Bool.not_false, Bool.and_true, Bool.true_and, Bool.false_and, Bool.and_false, Bool.or_true, Bool.true_or, Bool.false_or, Bool.or_false, cond_true, cond_false]; done) | rfl) rfl
  · have h1 : (decide ((μ.1 (18 + 8 * u1) 9) = 0)) = true := decide_eq_true (cn_ne.mp h1)
    exact absurd (Eq.trans (Eq.symm (hs1)) h1) (by decide)
/-! the game: pass of the class -/
set_option maxRecDepth 8000
theorem gc_left9 (d : Nat) (hd : 1 ≤ d) (μ : zM) (x : Int32) (h : xLf μ = x) : z_C d mi_X4_left [.ref 2] μ (zR μ (.int x)) := by
  rw [← h]; exact gc_left d hd μ
theorem lT_0 {μ : zM} {t u1 u2 u3 k : Nat} {c1 c2 c3 : Bool} (h : k ≠ 12) : (lT μ t u1 u2 u3 c1 c2 c3).1 0 k = μ.1 0 k := by
  unfold lT
  cases decide (μ.1 (18 + 8 * t) 6 = 0)
  · rw [cond_false, ui_k h, ui_o (by first | decide | omega), ui_o (by first | decide | omega), lgS_o (by omega), lgS_o (by omega), lgS_o (by omega)]
  · rw [cond_true, lgS_o (by omega), lgS_o (by omega), lgS_o (by omega)]
theorem gc_passW2 (d : Nat) (hd : 12 ≤ d) (μ : zM) (W : zM → Prop) (hwb : ∀ d, 11 ≤ d → z_C d mi_X6_winByTile [.ref 0] μ (fun r μ' => r = none ∧ W μ')) (h07 : decide (μ.1 0 7 = 2) = true) (h073 : decide (μ.1 0 7 = 3) = false) (an : Bool) (han : ∀ d, 2 ≤ d → z_C d mi_X6_someoneSays [.ref 0] μ (zR μ (.int (nB an)))) (ha : an = true) : z_C d mi_X6_pass [.ref 0] μ (fun r μ' => r = some (.int 1) ∧ W μ') := by
  refine z_C_in (by decide) (by omega) (fun d' Z ed hc hr => ?_)
  have hH : zH mi_X6_pass zt_X6_pass 79 6 1 := hh_X6_pass
  refine z_rcs hc hH 1 (pc' := 1) (lv' := [(0, .ref 0)]) (st' := [.ref 0]) (μ' := μ) (by rfl) ?_
  refine zq_gfi hc hH (by rfl) (ci := 5) (f := 7) (by rfl) (by decide +kernel) (by rfl) ?_
  refine z_rcs hc hH 1 (pc' := 5) (lv' := [(0, .ref 0)]) (st' := [.int 2, .int (μ.1 0 7)]) (μ' := μ) (by rfl) ?_
  refine zq_ic hc hH (by rfl) (tg := 18) (by rfl) (fun h1 => ?_) (fun h1 => ?_)
  · have h1 : (decide ((μ.1 0 7) = 2)) = true := decide_eq_true (cm_eq9.mp h1)
    refine z_rcs hc hH 1 (pc' := 19) (lv' := [(0, .ref 0)]) (st' := [.ref 0]) (μ' := μ) (by rfl) ?_
    refine zq_call hc (z_cx_ok hH (by rfl)) (han d' (by omega)) (by decide +kernel) (fun r9 μ9 hq => ?_)
    obtain ⟨hμ9, rfl⟩ := hq
    rw [hμ9]
    clear hμ9 μ9
    show Z 0 22 [(0, .ref 0)] [.int (nB an)] μ
    refine zq_if hc hH (by rfl) (tg := 32) (by rfl) (fun h2 => ?_) (fun h2 => ?_)
    · have h2 : (an) = false := nB_z.mp (cm_eq9.mp h2)
      exact absurd (Eq.trans (Eq.symm (ha)) h2) (by decide)
    · have h2 : (an) = true := nB_n.mp (cn_eq.mp h2)
      refine z_rcs hc hH 1 (pc' := 26) (lv' := [(0, .ref 0)]) (st' := [.ref 0]) (μ' := μ) (by rfl) ?_
      refine zq_call hc (z_cx_ok hH (by rfl)) (hwb d' (by omega)) (by decide +kernel) (fun r9 μw hq => ?_)
      obtain ⟨rfl, hE⟩ := hq
      show Z 0 29 [(0, .ref 0)] [] μw
      refine z_rcs hc hH 2 (pc' := 88) (lv' := [(0, .ref 0)]) (st' := [.int 1]) (μ' := μw) (by rfl) ?_
      exact hr 0 88 _ _ _ (some (.int 1)) (by decide +kernel) (z_rx_ok hH (by rfl)) (⟨rfl, hE⟩)
  · have h1 : (decide ((μ.1 0 7) = 2)) = false := decide_eq_false (cn_eq.mp h1)
    exact absurd (Eq.trans (Eq.symm (h07)) h1) (by decide)
theorem gc_passW3 (d : Nat) (hd : 12 ≤ d) (μ : zM) (W : zM → Prop) (hwb : ∀ d, 11 ≤ d → z_C d mi_X6_winByTile [.ref 0] μ (fun r μ' => r = none ∧ W μ')) (h07 : decide (μ.1 0 7 = 2) = false) (h073 : decide (μ.1 0 7 = 3) = true) (an : Bool) (han : ∀ d, 2 ≤ d → z_C d mi_X6_someoneSays [.ref 0] μ (zR μ (.int (nB an)))) (ha : an = true) : z_C d mi_X6_pass [.ref 0] μ (fun r μ' => r = some (.int 1) ∧ W μ') := by
  refine z_C_in (by decide) (by omega) (fun d' Z ed hc hr => ?_)
  have hH : zH mi_X6_pass zt_X6_pass 79 6 1 := hh_X6_pass
  refine z_rcs hc hH 1 (pc' := 1) (lv' := [(0, .ref 0)]) (st' := [.ref 0]) (μ' := μ) (by rfl) ?_
  refine zq_gfi hc hH (by rfl) (ci := 5) (f := 7) (by rfl) (by decide +kernel) (by rfl) ?_
  refine z_rcs hc hH 1 (pc' := 5) (lv' := [(0, .ref 0)]) (st' := [.int 2, .int (μ.1 0 7)]) (μ' := μ) (by rfl) ?_
  refine zq_ic hc hH (by rfl) (tg := 18) (by rfl) (fun h1 => ?_) (fun h1 => ?_)
  · have h1 : (decide ((μ.1 0 7) = 2)) = true := decide_eq_true (cm_eq9.mp h1)
    exact absurd (Eq.trans (Eq.symm (h07)) h1) (by decide)
  · have h1 : (decide ((μ.1 0 7) = 2)) = false := decide_eq_false (cn_eq.mp h1)
    refine z_rcs hc hH 1 (pc' := 9) (lv' := [(0, .ref 0)]) (st' := [.ref 0]) (μ' := μ) (by rfl) ?_
    refine zq_gfi hc hH (by rfl) (ci := 5) (f := 7) (by rfl) (by decide +kernel) (by rfl) ?_
    refine z_rcs hc hH 1 (pc' := 13) (lv' := [(0, .ref 0)]) (st' := [.int 3, .int (μ.1 0 7)]) (μ' := μ) (by rfl) ?_
    refine zq_ic hc hH (by rfl) (tg := 18) (by rfl) (fun h2 => ?_) (fun h2 => ?_)
    · have h2 : (decide ((μ.1 0 7) = 3)) = true := decide_eq_true (cm_eq9.mp h2)
      refine z_rcs hc hH 1 (pc' := 19) (lv' := [(0, .ref 0)]) (st' := [.ref 0]) (μ' := μ) (by rfl) ?_
      refine zq_call hc (z_cx_ok hH (by rfl)) (han d' (by omega)) (by decide +kernel) (fun r9 μ9 hq => ?_)
      obtain ⟨hμ9, rfl⟩ := hq
      rw [hμ9]
      clear hμ9 μ9
      show Z 0 22 [(0, .ref 0)] [.int (nB an)] μ
      refine zq_if hc hH (by rfl) (tg := 32) (by rfl) (fun h3 => ?_) (fun h3 => ?_)
      · have h3 : (an) = false := nB_z.mp (cm_eq9.mp h3)
        exact absurd (Eq.trans (Eq.symm (ha)) h3) (by decide)
      · have h3 : (an) = true := nB_n.mp (cn_eq.mp h3)
        refine z_rcs hc hH 1 (pc' := 26) (lv' := [(0, .ref 0)]) (st' := [.ref 0]) (μ' := μ) (by rfl) ?_
        refine zq_call hc (z_cx_ok hH (by rfl)) (hwb d' (by omega)) (by decide +kernel) (fun r9 μw hq => ?_)
        obtain ⟨rfl, hE⟩ := hq
        show Z 0 29 [(0, .ref 0)] [] μw
        refine z_rcs hc hH 2 (pc' := 88) (lv' := [(0, .ref 0)]) (st' := [.int 1]) (μ' := μw) (by rfl) ?_
        exact hr 0 88 _ _ _ (some (.int 1)) (by decide +kernel) (z_rx_ok hH (by rfl)) (⟨rfl, hE⟩)
    · have h2 : (decide ((μ.1 0 7) = 3)) = false := decide_eq_false (cn_eq.mp h2)
      exact absurd (Eq.trans (Eq.symm (h073)) h2) (by decide)
theorem gc_pass3 (d : Nat) (hd : 12 ≤ d) (μ : zM) (t c u1 u2 u3 : Nat) (c1 c2 c3 : Bool) (ht4 : t < 4) (ht : μ.1 0 8 = nI t) (hc34 : c < 34) (hc15 : μ.1 0 15 = nI c) (hu1 : (t + 1) % 4 = u1) (hu14 : u1 < 4) (hw1 : ∀ μ1, TE μ μ1 → ∀ d, 6 ≤ d → z_C d mi_X3_waitsFor [.ref (19 + 8 * u1), .int (nI c)] μ1 (zR μ1 (.int (nB c1)))) (hu2 : (t + 2) % 4 = u2) (hu24 : u2 < 4) (hw2 : ∀ μ1, TE μ μ1 → ∀ d, 6 ≤ d → z_C d mi_X3_waitsFor [.ref (19 + 8 * u2), .int (nI c)] μ1 (zR μ1 (.int (nB c2)))) (hu3 : (t + 3) % 4 = u3) (hu34 : u3 < 4) (hw3 : ∀ μ1, TE μ μ1 → ∀ d, 6 ≤ d → z_C d mi_X3_waitsFor [.ref (19 + 8 * u3), .int (nI c)] μ1 (zR μ1 (.int (nB c3)))) (n k2 : Nat) (hn2 : n < 14) (hn : μ.1 2 3 = nI n) (hS1 : μ.1 2 1 = 1) (hk2 : k2 < 34) (hkk : μ.1 3 (122 + n) = nI k2) (h07 : decide (μ.1 0 7 = 2) = false) (h073 : decide (μ.1 0 7 = 3) = true) (an : Bool) (han : ∀ d, 2 ≤ d → z_C d mi_X6_someoneSays [.ref 0] μ (zR μ (.int (nB an)))) (ha : an = false) : z_C d mi_X6_pass [.ref 0] μ (fun r μ' => r = some (.int 1) ∧ μ' = dT1 (bkH (lT μ t u1 u2 u3 c1 c2 c3)) t n k2) := by
  refine z_C_in (by decide) (by omega) (fun d' Z ed hc hr => ?_)
  have hH : zH mi_X6_pass zt_X6_pass 79 6 1 := hh_X6_pass
  refine z_rcs hc hH 1 (pc' := 1) (lv' := [(0, .ref 0)]) (st' := [.ref 0]) (μ' := μ) (by rfl) ?_
  refine zq_gfi hc hH (by rfl) (ci := 5) (f := 7) (by rfl) (by decide +kernel) (by rfl) ?_
  refine z_rcs hc hH 1 (pc' := 5) (lv' := [(0, .ref 0)]) (st' := [.int 2, .int (μ.1 0 7)]) (μ' := μ) (by rfl) ?_
  refine zq_ic hc hH (by rfl) (tg := 18) (by rfl) (fun h1 => ?_) (fun h1 => ?_)
  · have h1 : (decide ((μ.1 0 7) = 2)) = true := decide_eq_true (cm_eq9.mp h1)
    exact absurd (Eq.trans (Eq.symm (h07)) h1) (by decide)
  · have h1 : (decide ((μ.1 0 7) = 2)) = false := decide_eq_false (cn_eq.mp h1)
    refine z_rcs hc hH 1 (pc' := 9) (lv' := [(0, .ref 0)]) (st' := [.ref 0]) (μ' := μ) (by rfl) ?_
    refine zq_gfi hc hH (by rfl) (ci := 5) (f := 7) (by rfl) (by decide +kernel) (by rfl) ?_
    refine z_rcs hc hH 1 (pc' := 13) (lv' := [(0, .ref 0)]) (st' := [.int 3, .int (μ.1 0 7)]) (μ' := μ) (by rfl) ?_
    refine zq_ic hc hH (by rfl) (tg := 18) (by rfl) (fun h2 => ?_) (fun h2 => ?_)
    · have h2 : (decide ((μ.1 0 7) = 3)) = true := decide_eq_true (cm_eq9.mp h2)
      refine z_rcs hc hH 1 (pc' := 19) (lv' := [(0, .ref 0)]) (st' := [.ref 0]) (μ' := μ) (by rfl) ?_
      refine zq_call hc (z_cx_ok hH (by rfl)) (han d' (by omega)) (by decide +kernel) (fun r9 μ9 hq => ?_)
      obtain ⟨hμ9, rfl⟩ := hq
      rw [hμ9]
      clear hμ9 μ9
      show Z 0 22 [(0, .ref 0)] [.int (nB an)] μ
      refine zq_if hc hH (by rfl) (tg := 32) (by rfl) (fun h3 => ?_) (fun h3 => ?_)
      · have h3 : (an) = false := nB_z.mp (cm_eq9.mp h3)
        refine z_rcs hc hH 1 (pc' := 33) (lv' := [(0, .ref 0)]) (st' := [.ref 0]) (μ' := μ) (by rfl) ?_
        refine zq_gfi hc hH (by rfl) (ci := 5) (f := 7) (by rfl) (by decide +kernel) (by rfl) ?_
        refine z_rcs hc hH 1 (pc' := 37) (lv' := [(0, .ref 0)]) (st' := [.int 3, .int (μ.1 0 7)]) (μ' := μ) (by rfl) ?_
        refine zq_ic hc hH (by rfl) (tg := 55) (by rfl) (fun h4 => ?_) (fun h4 => ?_)
        · have h4 : (decide ((μ.1 0 7) = 3)) = false := decide_eq_false (cm_ne.mp h4)
          exact absurd (Eq.trans (Eq.symm (h073)) h4) (by decide)
        · have h4 : (decide ((μ.1 0 7) = 3)) = true := decide_eq_true (cn_ne.mp h4)
          refine z_rcs hc hH 1 (pc' := 41) (lv' := [(0, .ref 0)]) (st' := [.ref 0]) (μ' := μ) (by rfl) ?_
          refine zq_call hc (z_cx_ok hH (by rfl)) (gc_letTileGo d' (by omega) μ t c u1 u2 u3 c1 c2 c3 ht4 ht hc34 hc15 hu1 hu14 hw1 hu2 hu24 hw2 hu3 hu34 hw3) (by decide +kernel) (fun r9 μ9 hq => ?_)
          obtain ⟨rfl, rfl⟩ := hq
          show Z 0 44 [(0, .ref 0)] [] (lT μ t u1 u2 u3 c1 c2 c3)
          refine z_rcs0 hc hH 2 (pc' := 46) (lv' := [(0, .ref 0)]) (st' := [.ref 0, .ref 0]) (by rfl) ?_
          refine zq_gfi hc hH (by rfl) (ci := 5) (f := 8) (by rfl) (by decide +kernel) (by rfl) ?_
          rw [lT_0 (by omega)]
          rw [ht]
          refine zq_call hc (z_cx_ok hH (by rfl)) (gc_makeFour d' (by omega) (lT μ t u1 u2 u3 c1 c2 c3) t t n k2 (by omega) ht4 (Nat.mod_eq_of_lt ht4) hn2 (by rw [lT_o (by omega)]; exact hn) (by rw [lT_o (by omega)]; exact hS1) hk2 (by rw [lT_r (by omega)]; exact hkk)) (by decide +kernel) (fun r9 μ9 hq => ?_)
          obtain ⟨rfl, rfl⟩ := hq
          show Z 0 52 [(0, .ref 0)] [] (dT1 (bkH (lT μ t u1 u2 u3 c1 c2 c3) ) t n k2)
          refine z_rcs0 hc hH 2 (pc' := 88) (lv' := [(0, .ref 0)]) (st' := [.int 1]) (by rfl) ?_
          exact hr 0 88 _ _ _ (some (.int 1)) (by decide +kernel) (z_rx_ok hH (by rfl)) (⟨rfl, rfl⟩)
      · have h3 : (an) = true := nB_n.mp (cn_eq.mp h3)
        exact absurd (Eq.trans (Eq.symm (ha)) h3) (by decide)
    · have h2 : (decide ((μ.1 0 7) = 3)) = false := decide_eq_false (cn_eq.mp h2)
      exact absurd (Eq.trans (Eq.symm (h073)) h2) (by decide)
theorem gc_pass2d (d : Nat) (hd : 12 ≤ d) (μ : zM) (t c u1 u2 u3 : Nat) (c1 c2 c3 : Bool) (ht4 : t < 4) (ht : μ.1 0 8 = nI t) (hc34 : c < 34) (hc15 : μ.1 0 15 = nI c) (hu1 : (t + 1) % 4 = u1) (hu14 : u1 < 4) (hw1 : ∀ μ1, TE μ μ1 → ∀ d, 6 ≤ d → z_C d mi_X3_waitsFor [.ref (19 + 8 * u1), .int (nI c)] μ1 (zR μ1 (.int (nB c1)))) (hu2 : (t + 2) % 4 = u2) (hu24 : u2 < 4) (hw2 : ∀ μ1, TE μ μ1 → ∀ d, 6 ≤ d → z_C d mi_X3_waitsFor [.ref (19 + 8 * u2), .int (nI c)] μ1 (zR μ1 (.int (nB c2)))) (hu3 : (t + 3) % 4 = u3) (hu34 : u3 < 4) (hw3 : ∀ μ1, TE μ μ1 → ∀ d, 6 ≤ d → z_C d mi_X3_waitsFor [.ref (19 + 8 * u3), .int (nI c)] μ1 (zR μ1 (.int (nB c3)))) (n0 k0 : Nat) (hn02 : n0 < 136) (hn0 : μ.1 2 2 = nI n0) (hS1 : μ.1 2 1 = 1) (hk0 : k0 < 34) (hkk0 : μ.1 3 n0 = nI k0) (lf : Int32) (hlf : xLf μ = lf) (hl : decide (lf ≤ 0) = false) (h07 : decide (μ.1 0 7 = 2) = true) (h073 : decide (μ.1 0 7 = 3) = false) (an : Bool) (han : ∀ d, 2 ≤ d → z_C d mi_X6_someoneSays [.ref 0] μ (zR μ (.int (nB an)))) (ha : an = false) : z_C d mi_X6_pass [.ref 0] μ (fun r μ' => r = some (.int 1) ∧ μ' = dT0 (lT μ t u1 u2 u3 c1 c2 c3) u1 n0 k0) := by
  refine z_C_in (by decide) (by omega) (fun d' Z ed hc hr => ?_)
  have hH : zH mi_X6_pass zt_X6_pass 79 6 1 := hh_X6_pass
  refine z_rcs hc hH 1 (pc' := 1) (lv' := [(0, .ref 0)]) (st' := [.ref 0]) (μ' := μ) (by rfl) ?_
  refine zq_gfi hc hH (by rfl) (ci := 5) (f := 7) (by rfl) (by decide +kernel) (by rfl) ?_
  refine z_rcs hc hH 1 (pc' := 5) (lv' := [(0, .ref 0)]) (st' := [.int 2, .int (μ.1 0 7)]) (μ' := μ) (by rfl) ?_
  refine zq_ic hc hH (by rfl) (tg := 18) (by rfl) (fun h1 => ?_) (fun h1 => ?_)
  · have h1 : (decide ((μ.1 0 7) = 2)) = true := decide_eq_true (cm_eq9.mp h1)
    refine z_rcs hc hH 1 (pc' := 19) (lv' := [(0, .ref 0)]) (st' := [.ref 0]) (μ' := μ) (by rfl) ?_
    refine zq_call hc (z_cx_ok hH (by rfl)) (han d' (by omega)) (by decide +kernel) (fun r9 μ9 hq => ?_)
    obtain ⟨hμ9, rfl⟩ := hq
    rw [hμ9]
    clear hμ9 μ9
    show Z 0 22 [(0, .ref 0)] [.int (nB an)] μ
    refine zq_if hc hH (by rfl) (tg := 32) (by rfl) (fun h2 => ?_) (fun h2 => ?_)
    · have h2 : (an) = false := nB_z.mp (cm_eq9.mp h2)
      refine z_rcs hc hH 1 (pc' := 33) (lv' := [(0, .ref 0)]) (st' := [.ref 0]) (μ' := μ) (by rfl) ?_
      refine zq_gfi hc hH (by rfl) (ci := 5) (f := 7) (by rfl) (by decide +kernel) (by rfl) ?_
      refine z_rcs hc hH 1 (pc' := 37) (lv' := [(0, .ref 0)]) (st' := [.int 3, .int (μ.1 0 7)]) (μ' := μ) (by rfl) ?_
      refine zq_ic hc hH (by rfl) (tg := 55) (by rfl) (fun h3 => ?_) (fun h3 => ?_)
      · have h3 : (decide ((μ.1 0 7) = 3)) = false := decide_eq_false (cm_ne.mp h3)
        refine z_rcs hc hH 1 (pc' := 56) (lv' := [(0, .ref 0)]) (st' := [.ref 0]) (μ' := μ) (by rfl) ?_
        refine zq_call hc (z_cx_ok hH (by rfl)) (gc_letTileGo d' (by omega) μ t c u1 u2 u3 c1 c2 c3 ht4 ht hc34 hc15 hu1 hu14 hw1 hu2 hu24 hw2 hu3 hu34 hw3) (by decide +kernel) (fun r9 μ9 hq => ?_)
        obtain ⟨rfl, rfl⟩ := hq
        show Z 0 59 [(0, .ref 0)] [] (lT μ t u1 u2 u3 c1 c2 c3)
        refine z_rcs0 hc hH 1 (pc' := 60) (lv' := [(0, .ref 0)]) (st' := [.ref 0]) (by rfl) ?_
        refine zq_gfr hc hH (by rfl) (ci := 5) (f := 1) (q := 2) (by rfl) (by decide +kernel) (by rfl) (by decide +kernel) ?_
        refine zq_call hc (z_cx_ok hH (by rfl)) (gc_left9 d' (by omega) (lT μ t u1 u2 u3 c1 c2 c3) lf (by unfold xLf; rw [lT_r (by omega), lT_r (by omega), lT_r (by omega)]; exact hlf)) (by decide +kernel) (fun r9 μ9 hq => ?_)
        obtain ⟨hμ9, rfl⟩ := hq
        rw [hμ9]
        clear hμ9 μ9
        show Z 0 66 [(0, .ref 0)] [.int lf] _
        refine zq_if hc hH (by rfl) (tg := 83) (by rfl) (fun h4 => ?_) (fun h4 => ?_)
        · have h4 : (decide (lf ≤ 0)) = true := decide_eq_true (cm_le.mp h4)
          exact absurd (Eq.trans (Eq.symm (hl)) h4) (by decide)
        · have h4 : (decide (lf ≤ 0)) = false := decide_eq_false (cn_le.mp h4)
          refine z_rcs0 hc hH 2 (pc' := 71) (lv' := [(0, .ref 0)]) (st' := [.ref 0, .ref 0]) (by rfl) ?_
          refine zq_gfi hc hH (by rfl) (ci := 5) (f := 8) (by rfl) (by decide +kernel) (by rfl) ?_
          rw [lT_0 (by omega)]
          rw [ht]
          refine z_rcs0 hc hH 2 (pc' := 76) (lv' := [(0, .ref 0)]) (st' := [.int ((nI t) + 1), .ref 0]) (by rfl) ?_
          rw [nI_s1]
          refine z_rcs0 hc hH 1 (pc' := 77) (lv' := [(0, .ref 0)]) (st' := [.int 0, .int (nI (t + 1)), .ref 0]) (by rfl) ?_
          refine zq_call hc (z_cx_ok hH (by rfl)) (gc_drawTile0 d' (by omega) (lT μ t u1 u2 u3 c1 c2 c3) (t + 1) u1 n0 k0 (by omega) hu14 hu1 hn02 (by rw [lT_o (by omega)]; exact hn0) (by rw [lT_o (by omega)]; exact hS1) hk0 (by rw [lT_r (by omega)]; exact hkk0)) (by decide +kernel) (fun r9 μ9 hq => ?_)
          obtain ⟨rfl, rfl⟩ := hq
          show Z 0 80 [(0, .ref 0)] [] (dT0 (lT μ t u1 u2 u3 c1 c2 c3) u1 n0 k0)
          refine z_rcs0 hc hH 2 (pc' := 88) (lv' := [(0, .ref 0)]) (st' := [.int 1]) (by rfl) ?_
          exact hr 0 88 _ _ _ (some (.int 1)) (by decide +kernel) (z_rx_ok hH (by rfl)) (⟨rfl, rfl⟩)
      · have h3 : (decide ((μ.1 0 7) = 3)) = true := decide_eq_true (cn_ne.mp h3)
        exact absurd (Eq.trans (Eq.symm (h073)) h3) (by decide)
    · have h2 : (an) = true := nB_n.mp (cn_eq.mp h2)
      exact absurd (Eq.trans (Eq.symm (ha)) h2) (by decide)
  · have h1 : (decide ((μ.1 0 7) = 2)) = false := decide_eq_false (cn_eq.mp h1)
    exact absurd (Eq.trans (Eq.symm (h07)) h1) (by decide)
theorem gc_pass2u (d : Nat) (hd : 12 ≤ d) (μ : zM) (t c u1 u2 u3 : Nat) (c1 c2 c3 : Bool) (ht4 : t < 4) (ht : μ.1 0 8 = nI t) (hc34 : c < 34) (hc15 : μ.1 0 15 = nI c) (hu1 : (t + 1) % 4 = u1) (hu14 : u1 < 4) (hw1 : ∀ μ1, TE μ μ1 → ∀ d, 6 ≤ d → z_C d mi_X3_waitsFor [.ref (19 + 8 * u1), .int (nI c)] μ1 (zR μ1 (.int (nB c1)))) (hu2 : (t + 2) % 4 = u2) (hu24 : u2 < 4) (hw2 : ∀ μ1, TE μ μ1 → ∀ d, 6 ≤ d → z_C d mi_X3_waitsFor [.ref (19 + 8 * u2), .int (nI c)] μ1 (zR μ1 (.int (nB c2)))) (hu3 : (t + 3) % 4 = u3) (hu34 : u3 < 4) (hw3 : ∀ μ1, TE μ μ1 → ∀ d, 6 ≤ d → z_C d mi_X3_waitsFor [.ref (19 + 8 * u3), .int (nI c)] μ1 (zR μ1 (.int (nB c3)))) (lf : Int32) (hlf : xLf μ = lf) (hl : decide (lf ≤ 0) = true) (W : zM → Prop) (heu : ∀ d, 10 ≤ d → z_C d mi_X6_endUnwon [.ref 0] (lT μ t u1 u2 u3 c1 c2 c3) (fun r μ' => r = none ∧ W μ')) (h07 : decide (μ.1 0 7 = 2) = true) (h073 : decide (μ.1 0 7 = 3) = false) (an : Bool) (han : ∀ d, 2 ≤ d → z_C d mi_X6_someoneSays [.ref 0] μ (zR μ (.int (nB an)))) (ha : an = false) : z_C d mi_X6_pass [.ref 0] μ (fun r μ' => r = some (.int 1) ∧ W μ') := by
  refine z_C_in (by decide) (by omega) (fun d' Z ed hc hr => ?_)
  have hH : zH mi_X6_pass zt_X6_pass 79 6 1 := hh_X6_pass
  refine z_rcs hc hH 1 (pc' := 1) (lv' := [(0, .ref 0)]) (st' := [.ref 0]) (μ' := μ) (by rfl) ?_
  refine zq_gfi hc hH (by rfl) (ci := 5) (f := 7) (by rfl) (by decide +kernel) (by rfl) ?_
  refine z_rcs hc hH 1 (pc' := 5) (lv' := [(0, .ref 0)]) (st' := [.int 2, .int (μ.1 0 7)]) (μ' := μ) (by rfl) ?_
  refine zq_ic hc hH (by rfl) (tg := 18) (by rfl) (fun h1 => ?_) (fun h1 => ?_)
  · have h1 : (decide ((μ.1 0 7) = 2)) = true := decide_eq_true (cm_eq9.mp h1)
    refine z_rcs hc hH 1 (pc' := 19) (lv' := [(0, .ref 0)]) (st' := [.ref 0]) (μ' := μ) (by rfl) ?_
    refine zq_call hc (z_cx_ok hH (by rfl)) (han d' (by omega)) (by decide +kernel) (fun r9 μ9 hq => ?_)
    obtain ⟨hμ9, rfl⟩ := hq
    rw [hμ9]
    clear hμ9 μ9
    show Z 0 22 [(0, .ref 0)] [.int (nB an)] μ
    refine zq_if hc hH (by rfl) (tg := 32) (by rfl) (fun h2 => ?_) (fun h2 => ?_)
    · have h2 : (an) = false := nB_z.mp (cm_eq9.mp h2)
      refine z_rcs hc hH 1 (pc' := 33) (lv' := [(0, .ref 0)]) (st' := [.ref 0]) (μ' := μ) (by rfl) ?_
      refine zq_gfi hc hH (by rfl) (ci := 5) (f := 7) (by rfl) (by decide +kernel) (by rfl) ?_
      refine z_rcs hc hH 1 (pc' := 37) (lv' := [(0, .ref 0)]) (st' := [.int 3, .int (μ.1 0 7)]) (μ' := μ) (by rfl) ?_
      refine zq_ic hc hH (by rfl) (tg := 55) (by rfl) (fun h3 => ?_) (fun h3 => ?_)
      · have h3 : (decide ((μ.1 0 7) = 3)) = false := decide_eq_false (cm_ne.mp h3)
        refine z_rcs hc hH 1 (pc' := 56) (lv' := [(0, .ref 0)]) (st' := [.ref 0]) (μ' := μ) (by rfl) ?_
        refine zq_call hc (z_cx_ok hH (by rfl)) (gc_letTileGo d' (by omega) μ t c u1 u2 u3 c1 c2 c3 ht4 ht hc34 hc15 hu1 hu14 hw1 hu2 hu24 hw2 hu3 hu34 hw3) (by decide +kernel) (fun r9 μ9 hq => ?_)
        obtain ⟨rfl, rfl⟩ := hq
        show Z 0 59 [(0, .ref 0)] [] (lT μ t u1 u2 u3 c1 c2 c3)
        refine z_rcs0 hc hH 1 (pc' := 60) (lv' := [(0, .ref 0)]) (st' := [.ref 0]) (by rfl) ?_
        refine zq_gfr hc hH (by rfl) (ci := 5) (f := 1) (q := 2) (by rfl) (by decide +kernel) (by rfl) (by decide +kernel) ?_
        refine zq_call hc (z_cx_ok hH (by rfl)) (gc_left9 d' (by omega) (lT μ t u1 u2 u3 c1 c2 c3) lf (by unfold xLf; rw [lT_r (by omega), lT_r (by omega), lT_r (by omega)]; exact hlf)) (by decide +kernel) (fun r9 μ9 hq => ?_)
        obtain ⟨hμ9, rfl⟩ := hq
        rw [hμ9]
        clear hμ9 μ9
        show Z 0 66 [(0, .ref 0)] [.int lf] _
        refine zq_if hc hH (by rfl) (tg := 83) (by rfl) (fun h4 => ?_) (fun h4 => ?_)
        · have h4 : (decide (lf ≤ 0)) = true := decide_eq_true (cm_le.mp h4)
          refine z_rcs0 hc hH 1 (pc' := 84) (lv' := [(0, .ref 0)]) (st' := [.ref 0]) (by rfl) ?_
          refine zq_call hc (z_cx_ok hH (by rfl)) (heu d' (by omega)) (by decide +kernel) (fun r9 μw hq => ?_)
          obtain ⟨rfl, hE⟩ := hq
          show Z 0 87 [(0, .ref 0)] [] μw
          refine z_rcs hc hH 1 (pc' := 88) (lv' := [(0, .ref 0)]) (st' := [.int 1]) (μ' := μw) (by rfl) ?_
          exact hr 0 88 _ _ _ (some (.int 1)) (by decide +kernel) (z_rx_ok hH (by rfl)) (⟨rfl, hE⟩)
        · have h4 : (decide (lf ≤ 0)) = false := decide_eq_false (cn_le.mp h4)
          exact absurd (Eq.trans (Eq.symm (hl)) h4) (by decide)
      · have h3 : (decide ((μ.1 0 7) = 3)) = true := decide_eq_true (cn_ne.mp h3)
        exact absurd (Eq.trans (Eq.symm (h073)) h3) (by decide)
    · have h2 : (an) = true := nB_n.mp (cn_eq.mp h2)
      exact absurd (Eq.trans (Eq.symm (ha)) h2) (by decide)
  · have h1 : (decide ((μ.1 0 7) = 2)) = false := decide_eq_false (cn_eq.mp h1)
    exact absurd (Eq.trans (Eq.symm (h07)) h1) (by decide)
/-! the game: keepsOther, add, startHand of the class -/
set_option maxRecDepth 8000
noncomputable def kA (f : Nat → Bool) : Nat → Bool
  | 0 => false
  | n + 1 => kA f n || f n
theorem kA_hit {f : Nat → Bool} {k n : Nat} (hk : k < n) (h : f k = true) : kA f n = true := by
  induction n with
  | zero => omega
  | succ n ih =>
    show (kA f n || f n) = true
    by_cases c : k < n
    · rw [ih c]; rfl
    · have e : k = n := by omega
      rw [← e, h, Bool.or_true]
noncomputable def koF (μ : zM) (j : Nat) (us bs : Int64) (k : Nat) : Bool := !decide (μ.1 (20 + 8 * j) k - nB (xHd us (nI k)) ≤ 0) && !xHd bs (nI k)
theorem kn_le2 {n m : Nat} {M : Int32} (hM : M.toInt = (m : Int)) (h : n < 2147483648) (hm : m ≤ n) : decide (M ≤ nI n) = true := decide_eq_true (by rw [Int32.le_iff_toInt_le, nI_toInt h, hM]; omega)
theorem gc_keepsOther (d : Nat) (hd : 2 ≤ d) (μ : zM) (j : Nat) (hj : j < 4) (us bs : Int64) : z_C d mi_X6_keepsOther [.ref (19 + 8 * j), .long us, .long bs] μ (zR μ (.int (nB (kA (koF μ j us bs) 34)))) := by
  refine z_C_in (by decide) (by omega) (fun d' Z ed hc hr => ?_)
  have hH : zH mi_X6_keepsOther zt_X6_keepsOther 79 6 7 := hh_X6_keepsOther
  have hL : ∀ n k (kp : Int32), k + n = 34 → kA (koF μ j us bs) k = false → Z 0 3 [(5, .int (nI k)), (6, .int kp), (0, .ref (19 + 8 * j)), (1, .long us), (3, .long bs)] [] μ := by
    intro n
    induction n with
    | zero =>
      intro k kp hk hA
      have hz : kA (koF μ j us bs) 34 = false := by rw [← hk]; exact hA
      refine z_rcs hc hH 2 (pc' := 7) (lv' := [(5, .int (nI k)), (6, .int kp), (0, .ref (19 + 8 * j)), (1, .long us), (3, .long bs)]) (st' := [.int 34, .int (nI k)]) (μ' := μ) (by rfl) ?_
      refine zq_ic hc hH (by rfl) (tg := 56) (by rfl) (fun h1 => ?_) (fun h1 => ?_)
      · have h1 : (decide (34 ≤ (nI k))) = true := decide_eq_true (cm_ge.mp h1)
        refine z_rcs hc hH 1 (pc' := 57) (lv' := [(5, .int (nI k)), (6, .int kp), (0, .ref (19 + 8 * j)), (1, .long us), (3, .long bs)]) (st' := [.int 0]) (μ' := μ) (by rfl) ?_
        exact hr 0 57 _ _ _ (some (.int 0)) (by decide +kernel) (z_rx_ok hH (by rfl)) (⟨rfl, by rw [hz]; rfl⟩)
      · have h1 : (decide (34 ≤ (nI k))) = false := decide_eq_false (cn_ge.mp h1)
        exact absurd (Eq.trans (Eq.symm (kn_le2 (m := 34) rfl (by omega) (by omega))) h1) (by decide)
    | succ n ih =>
      intro k kp hk hA
      refine z_rcs hc hH 2 (pc' := 7) (lv' := [(5, .int (nI k)), (6, .int kp), (0, .ref (19 + 8 * j)), (1, .long us), (3, .long bs)]) (st' := [.int 34, .int (nI k)]) (μ' := μ) (by rfl) ?_
      refine zq_ic hc hH (by rfl) (tg := 56) (by rfl) (fun h1 => ?_) (fun h1 => ?_)
      · have h1 : (decide (34 ≤ (nI k))) = true := decide_eq_true (cm_ge.mp h1)
        exact absurd (Eq.trans (Eq.symm (kn_le (m := 34) rfl (by omega) (by omega))) h1) (by decide)
      · have h1 : (decide (34 ≤ (nI k))) = false := decide_eq_false (cn_ge.mp h1)
        refine z_rcs hc hH 1 (pc' := 11) (lv' := [(5, .int (nI k)), (6, .int kp), (0, .ref (19 + 8 * j)), (1, .long us), (3, .long bs)]) (st' := [.ref (19 + 8 * j)]) (μ' := μ) (by rfl) ?_
        refine zq_gfr hc hH (by rfl) (ci := 2) (f := 0) (q := 20 + 8 * j) (by rfl) (sj (P := fun i => okf 79 2 0 (19 + 8 * i)) hj (by decide +kernel)) (by rfl) (sj (P := fun i => Nat.beq (z_gr (19 + 8 * i) 0) (20 + 8 * i)) hj (by decide +kernel)) ?_
        refine z_rcs hc hH 1 (pc' := 16) (lv' := [(5, .int (nI k)), (6, .int kp), (0, .ref (19 + 8 * j)), (1, .long us), (3, .long bs)]) (st' := [.int (nI k), .ref (20 + 8 * j)]) (μ' := μ) (by rfl) ?_
        refine zq_iald hc hH (by rfl) 34 (oka_i (sj (P := fun i => oka 79 1 34 (20 + 8 * i)) hj (by decide +kernel))) (vp_in_nI (by omega) (by decide)) ?_
        rw [nI_clamp (by omega)]
        refine z_rcs hc hH 2 (pc' := 20) (lv' := [(5, .int (nI k)), (6, .int kp), (0, .ref (19 + 8 * j)), (1, .long us), (3, .long bs)]) (st' := [.int (nI k), .long us, .int (μ.1 (20 + 8 * j) k)]) (μ' := μ) (by rfl) ?_
        refine zq_call hc (z_cx_ok hH (by rfl)) (fb_X6_holds d' (by omega) μ us (nI k)) (by decide +kernel) (fun r9 μ9 hq => ?_)
        obtain ⟨hμ9, rfl⟩ := hq
        rw [hμ9]
        clear hμ9 μ9
        show Z 0 23 [(5, .int (nI k)), (6, .int kp), (0, .ref (19 + 8 * j)), (1, .long us), (3, .long bs)] [.int (nB (xHd us (nI k))), .int (μ.1 (20 + 8 * j) k)] μ
        have hJ2 : Z 0 31 [(5, .int (nI k)), (6, .int kp), (0, .ref (19 + 8 * j)), (1, .long us), (3, .long bs)] [.int (nB (xHd us (nI k))), .int (μ.1 (20 + 8 * j) k)] μ := by
          refine z_rcs hc hH 3 (pc' := 36) (lv' := [(6, .int ((μ.1 (20 + 8 * j) k) - (nB (xHd us (nI k))))), (5, .int (nI k)), (0, .ref (19 + 8 * j)), (1, .long us), (3, .long bs)]) (st' := [.int ((μ.1 (20 + 8 * j) k) - (nB (xHd us (nI k))))]) (μ' := μ) (by rfl) ?_
          refine zq_if hc hH (by rfl) (tg := 50) (by rfl) (fun h3 => ?_) (fun h3 => ?_)
          · have h3 : (decide (((μ.1 (20 + 8 * j) k) - (nB (xHd us (nI k)))) ≤ 0)) = true := decide_eq_true (cm_le.mp h3)
            refine z_rcs hc hH 2 (pc' := 3) (lv' := [(5, .int ((nI k) + 1)), (6, .int ((μ.1 (20 + 8 * j) k) - (nB (xHd us (nI k))))), (0, .ref (19 + 8 * j)), (1, .long us), (3, .long bs)]) (st' := []) (μ' := μ) (by rfl) ?_
            rw [nI_s1]
            exact ih (k + 1) _ (by omega) (by show (kA _ k || koF μ j us bs k) = false; rw [hA]; unfold koF; simp only [h3, Bool.not_true, Bool.not_false, Bool.and_true, Bool.true_and, Bool.false_and, Bool.and_false, Bool.or_false, Bool.or_true])
          · have h3 : (decide (((μ.1 (20 + 8 * j) k) - (nB (xHd us (nI k)))) ≤ 0)) = false := decide_eq_false (cn_le.mp h3)
            refine z_rcs hc hH 2 (pc' := 42) (lv' := [(6, .int ((μ.1 (20 + 8 * j) k) - (nB (xHd us (nI k))))), (5, .int (nI k)), (0, .ref (19 + 8 * j)), (1, .long us), (3, .long bs)]) (st' := [.int (nI k), .long bs]) (μ' := μ) (by rfl) ?_
            refine zq_call hc (z_cx_ok hH (by rfl)) (fb_X6_holds d' (by omega) μ bs (nI k)) (by decide +kernel) (fun r9 μ9 hq => ?_)
            obtain ⟨hμ9, rfl⟩ := hq
            rw [hμ9]
            clear hμ9 μ9
            show Z 0 45 [(6, .int ((μ.1 (20 + 8 * j) k) - (nB (xHd us (nI k))))), (5, .int (nI k)), (0, .ref (19 + 8 * j)), (1, .long us), (3, .long bs)] [.int (nB (xHd bs (nI k)))] μ
            refine zq_if hc hH (by rfl) (tg := 50) (by rfl) (fun h4 => ?_) (fun h4 => ?_)
            · have h4 : (xHd bs (nI k)) = true := nB_n.mp (cm_ne.mp h4)
              refine z_rcs hc hH 2 (pc' := 3) (lv' := [(5, .int ((nI k) + 1)), (6, .int ((μ.1 (20 + 8 * j) k) - (nB (xHd us (nI k))))), (0, .ref (19 + 8 * j)), (1, .long us), (3, .long bs)]) (st' := []) (μ' := μ) (by rfl) ?_
              rw [nI_s1]
              exact ih (k + 1) _ (by omega) (by show (kA _ k || koF μ j us bs k) = false; rw [hA]; unfold koF; simp only [h3, h4, Bool.not_true, Bool.not_false, Bool.and_true, Bool.true_and, Bool.false_and, Bool.and_false, Bool.or_false, Bool.or_true])
            · have h4 : (xHd bs (nI k)) = false := nB_z.mp (cn_ne.mp h4)
              refine z_rcs hc hH 1 (pc' := 49) (lv' := [(6, .int ((μ.1 (20 + 8 * j) k) - (nB (xHd us (nI k))))), (5, .int (nI k)), (0, .ref (19 + 8 * j)), (1, .long us), (3, .long bs)]) (st' := [.int 1]) (μ' := μ) (by rfl) ?_
              exact hr 0 49 _ _ _ (some (.int 1)) (by decide +kernel) (z_rx_ok hH (by rfl)) (⟨rfl, by rw [kA_hit (k := k) (by omega) (show koF μ j us bs k = true from by unfold koF; simp only [h3, h4, Bool.not_true, Bool.not_false, Bool.and_true, Bool.true_and, Bool.false_and, Bool.and_false, Bool.or_false, Bool.or_true])]; rfl⟩)
        refine zq_if hc hH (by rfl) (tg := 30) (by rfl) (fun h5 => ?_) (fun h5 => ?_)
        · have h5 : (xHd us (nI k)) = false := nB_z.mp (cm_eq9.mp h5)
          refine z_rcs hc hH 1 (pc' := 31) (lv' := [(5, .int (nI k)), (6, .int kp), (0, .ref (19 + 8 * j)), (1, .long us), (3, .long bs)]) (st' := [.int 0, .int (μ.1 (20 + 8 * j) k)]) (μ' := μ) (by rfl) ?_
          exact zJ hJ2 rfl (by first | with_reducible rfl | (simp only [h5, lb_f, Int64.or_zero, Int32.add_zero, nB_t, nB_f, Bool.not_true, Bool.not_false, Bool.and_true, Bool.true_and, Bool.false_and, Bool.and_false, Bool.or_true, Bool.true_or, Bool.false_or, Bool.or_false, cond_true, cond_false]; done) | rfl) rfl
        · have h5 : (xHd us (nI k)) = true := nB_n.mp (cn_eq.mp h5)
          refine z_rcs hc hH 2 (pc' := 31) (lv' := [(5, .int (nI k)), (6, .int kp), (0, .ref (19 + 8 * j)), (1, .long us), (3, .long bs)]) (st' := [.int 1, .int (μ.1 (20 + 8 * j) k)]) (μ' := μ) (by rfl) ?_
          exact zJ hJ2 rfl (by first | with_reducible rfl | (simp only [h5, lb_f, Int64.or_zero, Int32.add_zero, nB_t, nB_f, Bool.not_true, Bool.not_false, Bool.and_true, Bool.true_and, Bool.false_and, Bool.and_false, Bool.or_true, Bool.true_or, Bool.false_or, Bool.or_false, cond_true, cond_false]; done) | rfl) rfl
  refine z_rcs hc hH 2 (pc' := 3) (lv' := [(5, .int (nI 0)), (0, .ref (19 + 8 * j)), (1, .long us), (3, .long bs)]) (st' := []) (μ' := μ) (by rfl) ?_
  refine z_rcs hc hH 2 (pc' := 7) (lv' := [(5, .int (nI 0)), (0, .ref (19 + 8 * j)), (1, .long us), (3, .long bs)]) (st' := [.int 34, .int (nI 0)]) (μ' := μ) (by rfl) ?_
  refine zq_ic hc hH (by rfl) (tg := 56) (by rfl) (fun h1 => ?_) (fun h1 => ?_)
  · have h1 : (decide (34 ≤ (nI 0))) = true := decide_eq_true (cm_ge.mp h1)
    exact absurd (Eq.trans (Eq.symm (kn_le (m := 34) rfl (by omega) (by omega))) h1) (by decide)
  · have h1 : (decide (34 ≤ (nI 0))) = false := decide_eq_false (cn_ge.mp h1)
    refine z_rcs hc hH 1 (pc' := 11) (lv' := [(5, .int (nI 0)), (0, .ref (19 + 8 * j)), (1, .long us), (3, .long bs)]) (st' := [.ref (19 + 8 * j)]) (μ' := μ) (by rfl) ?_
    refine zq_gfr hc hH (by rfl) (ci := 2) (f := 0) (q := 20 + 8 * j) (by rfl) (sj (P := fun i => okf 79 2 0 (19 + 8 * i)) hj (by decide +kernel)) (by rfl) (sj (P := fun i => Nat.beq (z_gr (19 + 8 * i) 0) (20 + 8 * i)) hj (by decide +kernel)) ?_
    refine z_rcs hc hH 1 (pc' := 16) (lv' := [(5, .int (nI 0)), (0, .ref (19 + 8 * j)), (1, .long us), (3, .long bs)]) (st' := [.int (nI 0), .ref (20 + 8 * j)]) (μ' := μ) (by rfl) ?_
    refine zq_iald hc hH (by rfl) 34 (oka_i (sj (P := fun i => oka 79 1 34 (20 + 8 * i)) hj (by decide +kernel))) (vp_in_nI (by omega) (by decide)) ?_
    rw [nI_clamp (by omega)]
    refine z_rcs hc hH 2 (pc' := 20) (lv' := [(5, .int (nI 0)), (0, .ref (19 + 8 * j)), (1, .long us), (3, .long bs)]) (st' := [.int (nI 0), .long us, .int (μ.1 (20 + 8 * j) 0)]) (μ' := μ) (by rfl) ?_
    refine zq_call hc (z_cx_ok hH (by rfl)) (fb_X6_holds d' (by omega) μ us (nI 0)) (by decide +kernel) (fun r9 μ9 hq => ?_)
    obtain ⟨hμ9, rfl⟩ := hq
    rw [hμ9]
    clear hμ9 μ9
    show Z 0 23 [(5, .int (nI 0)), (0, .ref (19 + 8 * j)), (1, .long us), (3, .long bs)] [.int (nB (xHd us (nI 0))), .int (μ.1 (20 + 8 * j) 0)] μ
    have hJ2 : Z 0 31 [(5, .int (nI 0)), (0, .ref (19 + 8 * j)), (1, .long us), (3, .long bs)] [.int (nB (xHd us (nI 0))), .int (μ.1 (20 + 8 * j) 0)] μ := by
      refine z_rcs hc hH 3 (pc' := 36) (lv' := [(6, .int ((μ.1 (20 + 8 * j) 0) - (nB (xHd us (nI 0))))), (5, .int (nI 0)), (0, .ref (19 + 8 * j)), (1, .long us), (3, .long bs)]) (st' := [.int ((μ.1 (20 + 8 * j) 0) - (nB (xHd us (nI 0))))]) (μ' := μ) (by rfl) ?_
      refine zq_if hc hH (by rfl) (tg := 50) (by rfl) (fun h3 => ?_) (fun h3 => ?_)
      · have h3 : (decide (((μ.1 (20 + 8 * j) 0) - (nB (xHd us (nI 0)))) ≤ 0)) = true := decide_eq_true (cm_le.mp h3)
        refine z_rcs hc hH 2 (pc' := 3) (lv' := [(5, .int ((nI 0) + 1)), (6, .int ((μ.1 (20 + 8 * j) 0) - (nB (xHd us (nI 0))))), (0, .ref (19 + 8 * j)), (1, .long us), (3, .long bs)]) (st' := []) (μ' := μ) (by rfl) ?_
        rw [nI_s1]
        exact hL 33 1 _ (by omega) (by show (kA _ 0 || koF μ j us bs 0) = false; show (false || koF μ j us bs 0) = false; unfold koF; simp only [h3, Bool.not_true, Bool.not_false, Bool.and_true, Bool.true_and, Bool.false_and, Bool.and_false, Bool.or_false, Bool.or_true, Bool.false_or])
      · have h3 : (decide (((μ.1 (20 + 8 * j) 0) - (nB (xHd us (nI 0)))) ≤ 0)) = false := decide_eq_false (cn_le.mp h3)
        refine z_rcs hc hH 2 (pc' := 42) (lv' := [(6, .int ((μ.1 (20 + 8 * j) 0) - (nB (xHd us (nI 0))))), (5, .int (nI 0)), (0, .ref (19 + 8 * j)), (1, .long us), (3, .long bs)]) (st' := [.int (nI 0), .long bs]) (μ' := μ) (by rfl) ?_
        refine zq_call hc (z_cx_ok hH (by rfl)) (fb_X6_holds d' (by omega) μ bs (nI 0)) (by decide +kernel) (fun r9 μ9 hq => ?_)
        obtain ⟨hμ9, rfl⟩ := hq
        rw [hμ9]
        clear hμ9 μ9
        show Z 0 45 [(6, .int ((μ.1 (20 + 8 * j) 0) - (nB (xHd us (nI 0))))), (5, .int (nI 0)), (0, .ref (19 + 8 * j)), (1, .long us), (3, .long bs)] [.int (nB (xHd bs (nI 0)))] μ
        refine zq_if hc hH (by rfl) (tg := 50) (by rfl) (fun h4 => ?_) (fun h4 => ?_)
        · have h4 : (xHd bs (nI 0)) = true := nB_n.mp (cm_ne.mp h4)
          refine z_rcs hc hH 2 (pc' := 3) (lv' := [(5, .int ((nI 0) + 1)), (6, .int ((μ.1 (20 + 8 * j) 0) - (nB (xHd us (nI 0))))), (0, .ref (19 + 8 * j)), (1, .long us), (3, .long bs)]) (st' := []) (μ' := μ) (by rfl) ?_
          rw [nI_s1]
          exact hL 33 1 _ (by omega) (by show (kA _ 0 || koF μ j us bs 0) = false; show (false || koF μ j us bs 0) = false; unfold koF; simp only [h3, h4, Bool.not_true, Bool.not_false, Bool.and_true, Bool.true_and, Bool.false_and, Bool.and_false, Bool.or_false, Bool.or_true, Bool.false_or])
        · have h4 : (xHd bs (nI 0)) = false := nB_z.mp (cn_ne.mp h4)
          refine z_rcs hc hH 1 (pc' := 49) (lv' := [(6, .int ((μ.1 (20 + 8 * j) 0) - (nB (xHd us (nI 0))))), (5, .int (nI 0)), (0, .ref (19 + 8 * j)), (1, .long us), (3, .long bs)]) (st' := [.int 1]) (μ' := μ) (by rfl) ?_
          exact hr 0 49 _ _ _ (some (.int 1)) (by decide +kernel) (z_rx_ok hH (by rfl)) (⟨rfl, by rw [kA_hit (k := 0) (by omega) (show koF μ j us bs 0 = true from by unfold koF; simp only [h3, h4, Bool.not_true, Bool.not_false, Bool.and_true, Bool.true_and, Bool.false_and, Bool.and_false, Bool.or_false, Bool.or_true])]; rfl⟩)
    refine zq_if hc hH (by rfl) (tg := 30) (by rfl) (fun h5 => ?_) (fun h5 => ?_)
    · have h5 : (xHd us (nI 0)) = false := nB_z.mp (cm_eq9.mp h5)
      refine z_rcs hc hH 1 (pc' := 31) (lv' := [(5, .int (nI 0)), (0, .ref (19 + 8 * j)), (1, .long us), (3, .long bs)]) (st' := [.int 0, .int (μ.1 (20 + 8 * j) 0)]) (μ' := μ) (by rfl) ?_
      exact zJ hJ2 rfl (by first | with_reducible rfl | (simp only [h5, lb_f, Int64.or_zero, Int32.add_zero, nB_t, nB_f, Bool.not_true, Bool.not_false, Bool.and_true, Bool.true_and, Bool.false_and, Bool.and_false, Bool.or_true, Bool.true_or, Bool.false_or, Bool.or_false, cond_true, cond_false]; done) | rfl) rfl
    · have h5 : (xHd us (nI 0)) = true := nB_n.mp (cn_eq.mp h5)
      refine z_rcs hc hH 2 (pc' := 31) (lv' := [(5, .int (nI 0)), (0, .ref (19 + 8 * j)), (1, .long us), (3, .long bs)]) (st' := [.int 1, .int (μ.1 (20 + 8 * j) 0)]) (μ' := μ) (by rfl) ?_
      exact zJ hJ2 rfl (by first | with_reducible rfl | (simp only [h5, lb_f, Int64.or_zero, Int32.add_zero, nB_t, nB_f, Bool.not_true, Bool.not_false, Bool.and_true, Bool.true_and, Bool.false_and, Bool.and_false, Bool.or_true, Bool.true_or, Bool.false_or, Bool.or_false, cond_true, cond_false]; done) | rfl) rfl
theorem gc_add (d : Nat) (hd : 5 ≤ d) (μ : zM) (t : Nat) (ht4 : t < 4) (ht : μ.1 0 8 = nI t) (k : Nat) (hk : k < 34) (mm : Bool) (hmm : ∀ d, 3 ≤ d → z_C d mi_X6_mayMakeFour [.ref 0] μ (zR μ (.int (nB mm)))) (at3 : Bool) (A3 : zM) (hat : ∀ d, 3 ≤ d → z_C d mi_X3_addToThree [.ref (19 + 8 * t), .int (nI k)] μ (fun r μ' => r = some (.int (nB at3)) ∧ μ' = A3)) : z_C d mi_X6_add [.ref 0, .int (nI k)] μ (fun r μ' => r = some ((bif mm then (bif at3 then .int 1 else .int 0) else .int 0)) ∧ μ' = (bif mm then (bif at3 then z_ui (z_ui A3 0 15 (nI k)) 0 7 3 else A3) else μ)) := by
  refine z_C_in (by decide) (by omega) (fun d' Z ed hc hr => ?_)
  have hH : zH mi_X6_add zt_X6_add 79 6 2 := hh_X6_add
  refine z_rcs hc hH 1 (pc' := 1) (lv' := [(0, .ref 0), (1, .int (nI k))]) (st' := [.ref 0]) (μ' := μ) (by rfl) ?_
  refine zq_call hc (z_cx_ok hH (by rfl)) (hmm d' (by omega)) (by decide +kernel) (fun r9 μ9 hq => ?_)
  obtain ⟨hμ9, rfl⟩ := hq
  rw [hμ9]
  clear hμ9 μ9
  show Z 0 4 [(0, .ref 0), (1, .int (nI k))] [.int (nB mm)] μ
  refine zq_if hc hH (by rfl) (tg := 25) (by rfl) (fun h1 => ?_) (fun h1 => ?_)
  · have h1 : (mm) = false := nB_z.mp (cm_eq9.mp h1)
    refine z_rcs hc hH 1 (pc' := 26) (lv' := [(0, .ref 0), (1, .int (nI k))]) (st' := [.int 0]) (μ' := μ) (by rfl) ?_
    exact hr 0 26 _ _ _ (some (.int 0)) (by decide +kernel) (z_rx_ok hH (by rfl)) (⟨(by first | with_reducible rfl | (simp only [h1, cond_true, cond_false]; done) | rfl), (by simp only [h1, cond_true, cond_false])⟩)
  · have h1 : (mm) = true := nB_n.mp (cn_eq.mp h1)
    refine z_rcs hc hH 2 (pc' := 9) (lv' := [(0, .ref 0), (1, .int (nI k))]) (st' := [.ref 0, .ref 0]) (μ' := μ) (by rfl) ?_
    refine zq_gfi hc hH (by rfl) (ci := 5) (f := 8) (by rfl) (by decide +kernel) (by rfl) ?_
    rw [ht]
    refine zq_call hc (z_cx_ok hH (by rfl)) (gc_at4 d' (by omega) μ t ht4) (by decide +kernel) (fun r9 μ9 hq => ?_)
    obtain ⟨hμ9, rfl⟩ := hq
    rw [hμ9]
    clear hμ9 μ9
    show Z 0 15 [(0, .ref 0), (1, .int (nI k))] [.ref (18 + 8 * t)] μ
    refine zq_gfr hc hH (by rfl) (ci := 1) (f := 0) (q := 19 + 8 * t) (by rfl) (sj (P := fun i => okf 79 1 0 (18 + 8 * i)) ht4 (by decide +kernel)) (by rfl) (sj (P := fun i => Nat.beq (z_gr (18 + 8 * i) 0) (19 + 8 * i)) ht4 (by decide +kernel)) ?_
    refine z_rcs hc hH 1 (pc' := 19) (lv' := [(0, .ref 0), (1, .int (nI k))]) (st' := [.int (nI k), .ref (19 + 8 * t)]) (μ' := μ) (by rfl) ?_
    refine zq_call hc (z_clv9 hH (by rfl) (by rfl) (by rfl) (by rfl) (sj (P := fun i => okr 79 2 (19 + 8 * i)) ht4 (by decide +kernel)) (by rfl) (by rfl)) (hat d' (by omega)) (by decide +kernel) (fun r9 μ9 hq => ?_)
    obtain ⟨rfl, hm9⟩ := hq
    rw [hm9]
    clear hm9 μ9
    show Z 0 22 [(0, .ref 0), (1, .int (nI k))] [.int (nB at3)] A3
    refine zq_if hc hH (by rfl) (tg := 27) (by rfl) (fun h2 => ?_) (fun h2 => ?_)
    · have h2 : (at3) = true := nB_n.mp (cm_ne.mp h2)
      refine z_rcs hc hH 2 (pc' := 29) (lv' := [(0, .ref 0), (1, .int (nI k))]) (st' := [.int (nI k), .ref 0]) (μ' := A3) (by rfl) ?_
      refine zq_pfi hc hH (by rfl) (ci := 5) (f := 15) (by rfl) (by decide +kernel) (by rfl) ?_
      show Z 0 32 [(0, .ref 0), (1, .int (nI k))] [] (z_ui A3 0 15 (nI k))
      refine z_rcs hc hH 2 (pc' := 34) (lv' := [(0, .ref 0), (1, .int (nI k))]) (st' := [.int 3, .ref 0]) (μ' := z_ui A3 0 15 (nI k)) (by rfl) ?_
      refine zq_pfi hc hH (by rfl) (ci := 5) (f := 7) (by rfl) (by decide +kernel) (by rfl) ?_
      show Z 0 37 [(0, .ref 0), (1, .int (nI k))] [] (z_ui (z_ui A3 0 15 (nI k)) 0 7 3)
      refine z_rcs0 hc hH 1 (pc' := 38) (lv' := [(0, .ref 0), (1, .int (nI k))]) (st' := [.int 1]) (by rfl) ?_
      exact hr 0 38 _ _ _ (some (.int 1)) (by decide +kernel) (z_rx_ok hH (by rfl)) (⟨(by first | with_reducible rfl | (simp only [h1, h2, cond_true, cond_false]; done) | rfl), (by simp only [h1, h2, cond_true, cond_false])⟩)
    · have h2 : (at3) = false := nB_z.mp (cn_ne.mp h2)
      refine z_rcs hc hH 1 (pc' := 26) (lv' := [(0, .ref 0), (1, .int (nI k))]) (st' := [.int 0]) (μ' := A3) (by rfl) ?_
      exact hr 0 26 _ _ _ (some (.int 0)) (by decide +kernel) (z_rx_ok hH (by rfl)) (⟨(by first | with_reducible rfl | (simp only [h1, h2, cond_true, cond_false]; done) | rfl), (by simp only [h1, h2, cond_true, cond_false])⟩)
noncomputable def sHm (μe : zM) (j : Nat) : zM := z_ui (z_ui (z_ui (z_ui (z_ui (z_uj (z_ui μe (18 + 8 * j) 2 0) (18 + 8 * j) 3 0) (18 + 8 * j) 5 0) (18 + 8 * j) 6 0) (18 + 8 * j) 7 0) (18 + 8 * j) 8 0) (18 + 8 * j) 9 0
noncomputable def eMt (μ : zM) (j : Nat) (μe : zM) : Prop := ((∀ k, k < 34 → μe.1 (20 + 8 * j) k = 0 ∧ μe.1 (21 + 8 * j) k = 0) ∧ μe.1 (19 + 8 * j) 4 = 0 ∧ μe.1 (19 + 8 * j) 5 = 0 ∧ (∀ r k, r ≠ 20 + 8 * j → r ≠ 21 + 8 * j → ¬ (r = 19 + 8 * j ∧ (k = 4 ∨ k = 5)) → μe.1 r k = μ.1 r k) ∧ μe.2.1 = μ.2.1)
theorem gc_startHand (d : Nat) (hd : 2 ≤ d) (μ : zM) (j : Nat) (hj : j < 4) : z_C d mi_X2_startHand [.ref (18 + 8 * j)] μ (fun r μ' => r = none ∧ ∃ μe, eMt μ j μe ∧ μ' = sHm μe j) := by
  refine z_C_in (by decide) (by omega) (fun d' Z ed hc hr => ?_)
  have hH : zH mi_X2_startHand zt_X2_startHand 79 2 1 := hh_X2_startHand
  refine z_rcs hc hH 1 (pc' := 1) (lv' := [(0, .ref (18 + 8 * j))]) (st' := [.ref (18 + 8 * j)]) (μ' := μ) (by rfl) ?_
  refine zq_gfr hc hH (by rfl) (ci := 1) (f := 0) (q := 19 + 8 * j) (by rfl) (sj (P := fun i => okf 79 1 0 (18 + 8 * i)) hj (by decide +kernel)) (by rfl) (sj (P := fun i => Nat.beq (z_gr (18 + 8 * i) 0) (19 + 8 * i)) hj (by decide +kernel)) ?_
  refine zq_call hc (z_clv9 hH (by rfl) (by rfl) (by rfl) (by rfl) (sj (P := fun i => okr 79 2 (19 + 8 * i)) hj (by decide +kernel)) (by rfl) (by rfl)) (gc_empty d' (by omega) μ j hj) (by decide +kernel) (fun r9 μe hq => ?_)
  obtain ⟨rfl, hE⟩ := hq
  show Z 0 7 [(0, .ref (18 + 8 * j))] [] μe
  refine z_rcs hc hH 2 (pc' := 9) (lv' := [(0, .ref (18 + 8 * j))]) (st' := [.int 0, .ref (18 + 8 * j)]) (μ' := μe) (by rfl) ?_
  refine zq_pfi hc hH (by rfl) (ci := 1) (f := 2) (by rfl) (sj (P := fun i => okf 79 1 2 (18 + 8 * i)) hj (by decide +kernel)) (by rfl) ?_
  show Z 0 12 [(0, .ref (18 + 8 * j))] [] (z_ui μe (18 + 8 * j) 2 0)
  refine z_rcs0 hc hH 2 (pc' := 14) (lv' := [(0, .ref (18 + 8 * j))]) (st' := [.long 0, .ref (18 + 8 * j)]) (by rfl) ?_
  refine zq_pfl hc hH (by rfl) (ci := 1) (f := 3) (by rfl) (sj (P := fun i => okf 79 1 3 (18 + 8 * i)) hj (by decide +kernel)) (by rfl) ?_
  show Z 0 17 [(0, .ref (18 + 8 * j))] [] (z_uj (z_ui μe (18 + 8 * j) 2 0) (18 + 8 * j) 3 0)
  refine z_rcs0 hc hH 2 (pc' := 19) (lv' := [(0, .ref (18 + 8 * j))]) (st' := [.int 0, .ref (18 + 8 * j)]) (by rfl) ?_
  refine zq_pfi hc hH (by rfl) (ci := 1) (f := 5) (by rfl) (sj (P := fun i => okf 79 1 5 (18 + 8 * i)) hj (by decide +kernel)) (by rfl) ?_
  show Z 0 22 [(0, .ref (18 + 8 * j))] [] (z_ui (z_uj (z_ui μe (18 + 8 * j) 2 0) (18 + 8 * j) 3 0) (18 + 8 * j) 5 0)
  refine z_rcs0 hc hH 2 (pc' := 24) (lv' := [(0, .ref (18 + 8 * j))]) (st' := [.int 0, .ref (18 + 8 * j)]) (by rfl) ?_
  refine zq_pfb hc hH (by rfl) (ci := 1) (f := 6) (by rfl) (sj (P := fun i => okf 79 1 6 (18 + 8 * i)) hj (by decide +kernel)) (by rfl) (by decide) ?_
  show Z 0 27 [(0, .ref (18 + 8 * j))] [] (z_ui (z_ui (z_uj (z_ui μe (18 + 8 * j) 2 0) (18 + 8 * j) 3 0) (18 + 8 * j) 5 0) (18 + 8 * j) 6 0)
  refine z_rcs0 hc hH 2 (pc' := 29) (lv' := [(0, .ref (18 + 8 * j))]) (st' := [.int 0, .ref (18 + 8 * j)]) (by rfl) ?_
  refine zq_pfb hc hH (by rfl) (ci := 1) (f := 7) (by rfl) (sj (P := fun i => okf 79 1 7 (18 + 8 * i)) hj (by decide +kernel)) (by rfl) (by decide) ?_
  show Z 0 32 [(0, .ref (18 + 8 * j))] [] (z_ui (z_ui (z_ui (z_uj (z_ui μe (18 + 8 * j) 2 0) (18 + 8 * j) 3 0) (18 + 8 * j) 5 0) (18 + 8 * j) 6 0) (18 + 8 * j) 7 0)
  refine z_rcs0 hc hH 2 (pc' := 34) (lv' := [(0, .ref (18 + 8 * j))]) (st' := [.int 0, .ref (18 + 8 * j)]) (by rfl) ?_
  refine zq_pfb hc hH (by rfl) (ci := 1) (f := 8) (by rfl) (sj (P := fun i => okf 79 1 8 (18 + 8 * i)) hj (by decide +kernel)) (by rfl) (by decide) ?_
  show Z 0 37 [(0, .ref (18 + 8 * j))] [] (z_ui (z_ui (z_ui (z_ui (z_uj (z_ui μe (18 + 8 * j) 2 0) (18 + 8 * j) 3 0) (18 + 8 * j) 5 0) (18 + 8 * j) 6 0) (18 + 8 * j) 7 0) (18 + 8 * j) 8 0)
  refine z_rcs0 hc hH 2 (pc' := 39) (lv' := [(0, .ref (18 + 8 * j))]) (st' := [.int 0, .ref (18 + 8 * j)]) (by rfl) ?_
  refine zq_pfb hc hH (by rfl) (ci := 1) (f := 9) (by rfl) (sj (P := fun i => okf 79 1 9 (18 + 8 * i)) hj (by decide +kernel)) (by rfl) (by decide) ?_
  show Z 0 42 [(0, .ref (18 + 8 * j))] [] (z_ui (z_ui (z_ui (z_ui (z_ui (z_uj (z_ui μe (18 + 8 * j) 2 0) (18 + 8 * j) 3 0) (18 + 8 * j) 5 0) (18 + 8 * j) 6 0) (18 + 8 * j) 7 0) (18 + 8 * j) 8 0) (18 + 8 * j) 9 0)
  exact hr 0 42 _ _ _ none (by decide +kernel) (by rfl) (⟨rfl, μe, hE, rfl⟩)
/-! the game: run of the class -/
set_option maxRecDepth 8000
theorem kn_nn {a b : Nat} (ha : a < 2147483648) (hb : b < 2147483648) (h : b ≤ a) : decide (nI a < nI b) = false := decide_eq_false (by rw [Int32.lt_iff_toInt_lt, nI_toInt ha, nI_toInt hb]; omega)
theorem kn_ln {a b : Nat} (ha : a < 2147483648) (hb : b < 2147483648) (h : a < b) : decide (nI a < nI b) = true := decide_eq_true (by rw [Int32.lt_iff_toInt_lt, nI_toInt ha, nI_toInt hb]; omega)
theorem gc_run (d : Nat) (hd : 11 ≤ d) (μ : zM) (s q l : Nat) (hs4 : s < 4) (hq3 : q ≤ 3) (e4 : μ.1 (19 + 8 * s) 4 = nI q) (hl : l + 2 ≤ 33) (ham : l + zl 0 ≤ 33) (t c u1 u2 u3 : Nat) (c1 c2 c3 : Bool) (ht4 : t < 4) (ht : μ.1 0 8 = nI t) (hc34 : c < 34) (hc15 : μ.1 0 15 = nI c) (hu1 : (t + 1) % 4 = u1) (hu14 : u1 < 4) (hw1 : ∀ μ1, TE μ μ1 → ∀ d, 6 ≤ d → z_C d mi_X3_waitsFor [.ref (19 + 8 * u1), .int (nI c)] μ1 (zR μ1 (.int (nB c1)))) (hu2 : (t + 2) % 4 = u2) (hu24 : u2 < 4) (hw2 : ∀ μ1, TE μ μ1 → ∀ d, 6 ≤ d → z_C d mi_X3_waitsFor [.ref (19 + 8 * u2), .int (nI c)] μ1 (zR μ1 (.int (nB c2)))) (hu3 : (t + 3) % 4 = u3) (hu34 : u3 < 4) (hw3 : ∀ μ1, TE μ μ1 → ∀ d, 6 ≤ d → z_C d mi_X3_waitsFor [.ref (19 + 8 * u3), .int (nI c)] μ1 (zR μ1 (.int (nB c3)))) (mc : Bool) (hmc : ∀ d, 3 ≤ d → z_C d mi_X6_mayClaimSet [.ref 0, .int (nI s)] μ (zR μ (.int (nB mc)))) (sr : Bool) (hsr : ∀ d, 1 ≤ d → z_C d mi_X6_startsRun [.int (nI l)] μ (zR μ (.int (nB sr)))) (oe : Int64) (hoe : ∀ d, 2 ≤ d → z_C d mi_X6_otherEnd [.ref 0, .int (nI l)] μ (zR μ (.long oe))) (ko : Bool) (hko : ∀ d, 3 ≤ d → z_C d mi_X6_keepsOther [.ref (19 + 8 * s), .long ((7 <<< ((nI l).toInt64 &&& 63)) &&& ((1 <<< ((nI c).toInt64 &&& 63)) ^^^ (-1))), .long ((1 <<< ((nI c).toInt64 &&& 63)) ||| oe)] μ (zR μ (.int (nB ko)))) : z_C d mi_X6_run [.ref 0, .int (nI s), .int (nI l)] μ (fun r μ' => r = some ((bif mc then (bif decide ((nI s) = (nI u1)) then (bif sr then (bif decide ((nI c) < (nI l)) then .int 0 else (bif decide ((nI c) ≤ (nI (l + 2))) then (bif decide ((nI l) = (nI c)) then (bif decide ((nI (l + 1)) = (nI c)) then (bif decide ((nI (l + 2)) = (nI c)) then (bif ko then .int 1 else .int 0) else (bif decide ((μ.1 (20 + 8 * s) (l + 2)) = 0) then .int 0 else (bif ko then .int 1 else .int 0))) else (bif decide ((μ.1 (20 + 8 * s) (l + 1)) = 0) then .int 0 else (bif decide ((nI (l + 2)) = (nI c)) then (bif ko then .int 1 else .int 0) else (bif decide ((μ.1 (20 + 8 * s) (l + 2)) = 0) then .int 0 else (bif ko then .int 1 else .int 0))))) else (bif decide ((μ.1 (20 + 8 * s) l) = 0) then .int 0 else (bif decide ((nI (l + 1)) = (nI c)) then (bif decide ((nI (l + 2)) = (nI c)) then (bif ko then .int 1 else .int 0) else (bif decide ((μ.1 (20 + 8 * s) (l + 2)) = 0) then .int 0 else (bif ko then .int 1 else .int 0))) else (bif decide ((μ.1 (20 + 8 * s) (l + 1)) = 0) then .int 0 else (bif decide ((nI (l + 2)) = (nI c)) then (bif ko then .int 1 else .int 0) else (bif decide ((μ.1 (20 + 8 * s) (l + 2)) = 0) then .int 0 else (bif ko then .int 1 else .int 0))))))) else .int 0)) else .int 0) else .int 0) else .int 0)) ∧ μ' = (bif mc then (bif decide ((nI s) = (nI u1)) then (bif sr then (bif decide ((nI c) < (nI l)) then μ else (bif decide ((nI c) ≤ (nI (l + 2))) then (bif decide ((nI l) = (nI c)) then (bif decide ((nI (l + 1)) = (nI c)) then (bif decide ((nI (l + 2)) = (nI c)) then (bif ko then z_uj (tkS μ s l q 0 t c u1 u2 u3 c1 c2 c3) 0 18 ((1 <<< ((nI c).toInt64 &&& 63)) ||| oe) else μ) else (bif decide ((μ.1 (20 + 8 * s) (l + 2)) = 0) then μ else (bif ko then z_uj (tkS μ s l q 0 t c u1 u2 u3 c1 c2 c3) 0 18 ((1 <<< ((nI c).toInt64 &&& 63)) ||| oe) else μ))) else (bif decide ((μ.1 (20 + 8 * s) (l + 1)) = 0) then μ else (bif decide ((nI (l + 2)) = (nI c)) then (bif ko then z_uj (tkS μ s l q 0 t c u1 u2 u3 c1 c2 c3) 0 18 ((1 <<< ((nI c).toInt64 &&& 63)) ||| oe) else μ) else (bif decide ((μ.1 (20 + 8 * s) (l + 2)) = 0) then μ else (bif ko then z_uj (tkS μ s l q 0 t c u1 u2 u3 c1 c2 c3) 0 18 ((1 <<< ((nI c).toInt64 &&& 63)) ||| oe) else μ))))) else (bif decide ((μ.1 (20 + 8 * s) l) = 0) then μ else (bif decide ((nI (l + 1)) = (nI c)) then (bif decide ((nI (l + 2)) = (nI c)) then (bif ko then z_uj (tkS μ s l q 0 t c u1 u2 u3 c1 c2 c3) 0 18 ((1 <<< ((nI c).toInt64 &&& 63)) ||| oe) else μ) else (bif decide ((μ.1 (20 + 8 * s) (l + 2)) = 0) then μ else (bif ko then z_uj (tkS μ s l q 0 t c u1 u2 u3 c1 c2 c3) 0 18 ((1 <<< ((nI c).toInt64 &&& 63)) ||| oe) else μ))) else (bif decide ((μ.1 (20 + 8 * s) (l + 1)) = 0) then μ else (bif decide ((nI (l + 2)) = (nI c)) then (bif ko then z_uj (tkS μ s l q 0 t c u1 u2 u3 c1 c2 c3) 0 18 ((1 <<< ((nI c).toInt64 &&& 63)) ||| oe) else μ) else (bif decide ((μ.1 (20 + 8 * s) (l + 2)) = 0) then μ else (bif ko then z_uj (tkS μ s l q 0 t c u1 u2 u3 c1 c2 c3) 0 18 ((1 <<< ((nI c).toInt64 &&& 63)) ||| oe) else μ))))))) else μ)) else μ) else μ) else μ)) := by
  refine z_C_in (by decide) (by omega) (fun d' Z ed hc hr => ?_)
  have hH : zH mi_X6_run zt_X6_run 79 6 6 := hh_X6_run
  refine z_rcs hc hH 2 (pc' := 2) (lv' := [(0, .ref 0), (1, .int (nI s)), (2, .int (nI l))]) (st' := [.int (nI s), .ref 0]) (μ' := μ) (by rfl) ?_
  refine zq_call hc (z_cx_ok hH (by rfl)) (hmc d' (by omega)) (by decide +kernel) (fun r9 μ9 hq => ?_)
  obtain ⟨hμ9, rfl⟩ := hq
  rw [hμ9]
  clear hμ9 μ9
  show Z 0 5 [(0, .ref 0), (1, .int (nI s)), (2, .int (nI l))] [.int (nB mc)] μ
  refine zq_if hc hH (by rfl) (tg := 27) (by rfl) (fun h1 => ?_) (fun h1 => ?_)
  · have h1 : (mc) = false := nB_z.mp (cm_eq9.mp h1)
    refine z_rcs hc hH 1 (pc' := 28) (lv' := [(0, .ref 0), (1, .int (nI s)), (2, .int (nI l))]) (st' := [.int 0]) (μ' := μ) (by rfl) ?_
    exact hr 0 28 _ _ _ (some (.int 0)) (by decide +kernel) (z_rx_ok hH (by rfl)) (⟨(by first | with_reducible rfl | (simp only [h1, cond_true, cond_false]; done) | rfl), (by simp only [h1, cond_true, cond_false])⟩)
  · have h1 : (mc) = true := nB_n.mp (cn_eq.mp h1)
    refine z_rcs hc hH 2 (pc' := 10) (lv' := [(0, .ref 0), (1, .int (nI s)), (2, .int (nI l))]) (st' := [.ref 0, .int (nI s)]) (μ' := μ) (by rfl) ?_
    refine zq_gfi hc hH (by rfl) (ci := 5) (f := 8) (by rfl) (by decide +kernel) (by rfl) ?_
    rw [ht]
    refine z_rcs hc hH 2 (pc' := 15) (lv' := [(0, .ref 0), (1, .int (nI s)), (2, .int (nI l))]) (st' := [.int ((nI t) + 1), .int (nI s)]) (μ' := μ) (by rfl) ?_
    rw [nI_s1]
    refine z_rcs hc hH 2 (pc' := 17) (lv' := [(0, .ref 0), (1, .int (nI s)), (2, .int (nI l))]) (st' := [.int ((nI (t + 1)) &&& 3), .int (nI s)]) (μ' := μ) (by rfl) ?_
    rw [show nI (t + 1) &&& 3 = nI u1 from by rw [and3 (by omega), hu1]]
    refine zq_ic hc hH (by rfl) (tg := 27) (by rfl) (fun h2 => ?_) (fun h2 => ?_)
    · have h2 : (decide ((nI s) = (nI u1))) = false := decide_eq_false (cm_ne.mp h2)
      refine z_rcs hc hH 1 (pc' := 28) (lv' := [(0, .ref 0), (1, .int (nI s)), (2, .int (nI l))]) (st' := [.int 0]) (μ' := μ) (by rfl) ?_
      exact hr 0 28 _ _ _ (some (.int 0)) (by decide +kernel) (z_rx_ok hH (by rfl)) (⟨(by first | with_reducible rfl | (simp only [h1, h2, cond_true, cond_false]; done) | rfl), (by simp only [h1, h2, cond_true, cond_false])⟩)
    · have h2 : (decide ((nI s) = (nI u1))) = true := decide_eq_true (cn_ne.mp h2)
      refine z_rcs hc hH 1 (pc' := 21) (lv' := [(0, .ref 0), (1, .int (nI s)), (2, .int (nI l))]) (st' := [.int (nI l)]) (μ' := μ) (by rfl) ?_
      refine zq_call hc (z_cx_ok hH (by rfl)) (hsr d' (by omega)) (by decide +kernel) (fun r9 μ9 hq => ?_)
      obtain ⟨hμ9, rfl⟩ := hq
      rw [hμ9]
      clear hμ9 μ9
      show Z 0 24 [(0, .ref 0), (1, .int (nI s)), (2, .int (nI l))] [.int (nB sr)] μ
      refine zq_if hc hH (by rfl) (tg := 29) (by rfl) (fun h3 => ?_) (fun h3 => ?_)
      · have h3 : (sr) = true := nB_n.mp (cm_ne.mp h3)
        refine z_rcs hc hH 1 (pc' := 30) (lv' := [(0, .ref 0), (1, .int (nI s)), (2, .int (nI l))]) (st' := [.ref 0]) (μ' := μ) (by rfl) ?_
        refine zq_gfi hc hH (by rfl) (ci := 5) (f := 15) (by rfl) (by decide +kernel) (by rfl) ?_
        rw [hc15]
        refine z_rcs hc hH 1 (pc' := 34) (lv' := [(0, .ref 0), (1, .int (nI s)), (2, .int (nI l))]) (st' := [.int (nI l), .int (nI c)]) (μ' := μ) (by rfl) ?_
        refine zq_ic hc hH (by rfl) (tg := 47) (by rfl) (fun h4 => ?_) (fun h4 => ?_)
        · have h4 : (decide ((nI c) < (nI l))) = true := decide_eq_true (cm_lt.mp h4)
          refine z_rcs hc hH 1 (pc' := 48) (lv' := [(0, .ref 0), (1, .int (nI s)), (2, .int (nI l))]) (st' := [.int 0]) (μ' := μ) (by rfl) ?_
          exact hr 0 48 _ _ _ (some (.int 0)) (by decide +kernel) (z_rx_ok hH (by rfl)) (⟨(by first | with_reducible rfl | (simp only [h1, h2, h3, h4, cond_true, cond_false]; done) | rfl), (by simp only [h1, h2, h3, h4, cond_true, cond_false])⟩)
        · have h4 : (decide ((nI c) < (nI l))) = false := decide_eq_false (cn_lt.mp h4)
          refine z_rcs hc hH 1 (pc' := 38) (lv' := [(0, .ref 0), (1, .int (nI s)), (2, .int (nI l))]) (st' := [.ref 0]) (μ' := μ) (by rfl) ?_
          refine zq_gfi hc hH (by rfl) (ci := 5) (f := 15) (by rfl) (by decide +kernel) (by rfl) ?_
          rw [hc15]
          refine z_rcs hc hH 3 (pc' := 44) (lv' := [(0, .ref 0), (1, .int (nI s)), (2, .int (nI l))]) (st' := [.int ((nI l) + 2), .int (nI c)]) (μ' := μ) (by rfl) ?_
          rw [show nI l + 2 = nI (l + 2) from by rw [show (2 : Int32) = nI 2 from rfl, nI_add]]
          refine zq_ic hc hH (by rfl) (tg := 49) (by rfl) (fun h5 => ?_) (fun h5 => ?_)
          · have h5 : (decide ((nI c) ≤ (nI (l + 2)))) = true := decide_eq_true (cm_le.mp h5)
            refine z_rcs hc hH 2 (pc' := 51) (lv' := [(0, .ref 0), (1, .int (nI s)), (2, .int (nI l))]) (st' := [.int (nI s), .ref 0]) (μ' := μ) (by rfl) ?_
            refine zq_call hc (z_cx_ok hH (by rfl)) (gc_at4 d' (by omega) μ s hs4) (by decide +kernel) (fun r9 μ9 hq => ?_)
            obtain ⟨hμ9, rfl⟩ := hq
            rw [hμ9]
            clear hμ9 μ9
            show Z 0 54 [(0, .ref 0), (1, .int (nI s)), (2, .int (nI l))] [.ref (18 + 8 * s)] μ
            refine zq_gfr hc hH (by rfl) (ci := 1) (f := 0) (q := 19 + 8 * s) (by rfl) (sj (P := fun i => okf 79 1 0 (18 + 8 * i)) hs4 (by decide +kernel)) (by rfl) (sj (P := fun i => Nat.beq (z_gr (18 + 8 * i) 0) (19 + 8 * i)) hs4 (by decide +kernel)) ?_
            refine zq_gfr hc hH (by rfl) (ci := 2) (f := 0) (q := 20 + 8 * s) (by rfl) (sj (P := fun i => okf 79 2 0 (19 + 8 * i)) hs4 (by decide +kernel)) (by rfl) (sj (P := fun i => Nat.beq (z_gr (19 + 8 * i) 0) (20 + 8 * i)) hs4 (by decide +kernel)) ?_
            refine z_rcs hc hH 7 (pc' := 69) (lv' := [(4, .int (nI l)), (3, .ref (20 + 8 * s)), (0, .ref 0), (1, .int (nI s)), (2, .int (nI l))]) (st' := [.int ((nI l) + 2), .int (nI l)]) (μ' := μ) (by rfl) ?_
            rw [show nI l + 2 = nI (l + 2) from by rw [show (2 : Int32) = nI 2 from rfl, nI_add]]
            refine zq_ic hc hH (by rfl) (tg := 96) (by rfl) (fun h6 => ?_) (fun h6 => ?_)
            · have h6 : (decide ((nI (l + 2)) < (nI l))) = true := decide_eq_true (cm_gt.mp h6)
              exact absurd (Eq.trans (Eq.symm (kn_nn (by omega) (by omega) (by omega))) h6) (by decide)
            · have h6 : (decide ((nI (l + 2)) < (nI l))) = false := decide_eq_false (cn_gt.mp h6)
              refine z_rcs hc hH 2 (pc' := 75) (lv' := [(4, .int (nI l)), (3, .ref (20 + 8 * s)), (0, .ref 0), (1, .int (nI s)), (2, .int (nI l))]) (st' := [.ref 0, .int (nI l)]) (μ' := μ) (by rfl) ?_
              refine zq_gfi hc hH (by rfl) (ci := 5) (f := 15) (by rfl) (by decide +kernel) (by rfl) ?_
              rw [hc15]
              refine zq_ic hc hH (by rfl) (tg := 90) (by rfl) (fun h7 => ?_) (fun h7 => ?_)
              · have h7 : (decide ((nI l) = (nI c))) = true := decide_eq_true (cm_eq9.mp h7)
                refine z_rcs hc hH 3 (pc' := 66) (lv' := [(4, .int ((nI l) + 1)), (3, .ref (20 + 8 * s)), (0, .ref 0), (1, .int (nI s)), (2, .int (nI l))]) (st' := [.int ((nI l) + 1)]) (μ' := μ) (by rfl) ?_
                rw [show nI l + 1 = nI (l + 1) from by rw [show (1 : Int32) = nI 1 from rfl, nI_add]]
                refine z_rcs hc hH 3 (pc' := 69) (lv' := [(4, .int (nI (l + 1))), (3, .ref (20 + 8 * s)), (0, .ref 0), (1, .int (nI s)), (2, .int (nI l))]) (st' := [.int ((nI l) + 2), .int (nI (l + 1))]) (μ' := μ) (by rfl) ?_
                rw [show nI l + 2 = nI (l + 2) from by rw [show (2 : Int32) = nI 2 from rfl, nI_add]]
                refine zq_ic hc hH (by rfl) (tg := 96) (by rfl) (fun h8 => ?_) (fun h8 => ?_)
                · have h8 : (decide ((nI (l + 2)) < (nI (l + 1)))) = true := decide_eq_true (cm_gt.mp h8)
                  exact absurd (Eq.trans (Eq.symm (kn_nn (by omega) (by omega) (by omega))) h8) (by decide)
                · have h8 : (decide ((nI (l + 2)) < (nI (l + 1)))) = false := decide_eq_false (cn_gt.mp h8)
                  refine z_rcs hc hH 2 (pc' := 75) (lv' := [(4, .int (nI (l + 1))), (3, .ref (20 + 8 * s)), (0, .ref 0), (1, .int (nI s)), (2, .int (nI l))]) (st' := [.ref 0, .int (nI (l + 1))]) (μ' := μ) (by rfl) ?_
                  refine zq_gfi hc hH (by rfl) (ci := 5) (f := 15) (by rfl) (by decide +kernel) (by rfl) ?_
                  rw [hc15]
                  refine zq_ic hc hH (by rfl) (tg := 90) (by rfl) (fun h9 => ?_) (fun h9 => ?_)
                  · have h9 : (decide ((nI (l + 1)) = (nI c))) = true := decide_eq_true (cm_eq9.mp h9)
                    refine z_rcs hc hH 3 (pc' := 66) (lv' := [(4, .int ((nI (l + 1)) + 1)), (3, .ref (20 + 8 * s)), (0, .ref 0), (1, .int (nI s)), (2, .int (nI l))]) (st' := [.int ((nI (l + 1)) + 1)]) (μ' := μ) (by rfl) ?_
                    rw [show nI (l + 1) + 1 = nI (l + 2) from nI_s1 _]
                    refine z_rcs hc hH 3 (pc' := 69) (lv' := [(4, .int (nI (l + 2))), (3, .ref (20 + 8 * s)), (0, .ref 0), (1, .int (nI s)), (2, .int (nI l))]) (st' := [.int ((nI l) + 2), .int (nI (l + 2))]) (μ' := μ) (by rfl) ?_
                    rw [show nI l + 2 = nI (l + 2) from by rw [show (2 : Int32) = nI 2 from rfl, nI_add]]
                    refine zq_ic hc hH (by rfl) (tg := 96) (by rfl) (fun h10 => ?_) (fun h10 => ?_)
                    · have h10 : (decide ((nI (l + 2)) < (nI (l + 2)))) = true := decide_eq_true (cm_gt.mp h10)
                      exact absurd (Eq.trans (Eq.symm (kn_nn (by omega) (by omega) (by omega))) h10) (by decide)
                    · have h10 : (decide ((nI (l + 2)) < (nI (l + 2)))) = false := decide_eq_false (cn_gt.mp h10)
                      refine z_rcs hc hH 2 (pc' := 75) (lv' := [(4, .int (nI (l + 2))), (3, .ref (20 + 8 * s)), (0, .ref 0), (1, .int (nI s)), (2, .int (nI l))]) (st' := [.ref 0, .int (nI (l + 2))]) (μ' := μ) (by rfl) ?_
                      refine zq_gfi hc hH (by rfl) (ci := 5) (f := 15) (by rfl) (by decide +kernel) (by rfl) ?_
                      rw [hc15]
                      refine zq_ic hc hH (by rfl) (tg := 90) (by rfl) (fun h11 => ?_) (fun h11 => ?_)
                      · have h11 : (decide ((nI (l + 2)) = (nI c))) = true := decide_eq_true (cm_eq9.mp h11)
                        refine z_rcs hc hH 3 (pc' := 66) (lv' := [(4, .int ((nI (l + 2)) + 1)), (3, .ref (20 + 8 * s)), (0, .ref 0), (1, .int (nI s)), (2, .int (nI l))]) (st' := [.int ((nI (l + 2)) + 1)]) (μ' := μ) (by rfl) ?_
                        rw [show nI (l + 2) + 1 = nI (l + 3) from nI_s1 _]
                        refine z_rcs hc hH 3 (pc' := 69) (lv' := [(4, .int (nI (l + 3))), (3, .ref (20 + 8 * s)), (0, .ref 0), (1, .int (nI s)), (2, .int (nI l))]) (st' := [.int ((nI l) + 2), .int (nI (l + 3))]) (μ' := μ) (by rfl) ?_
                        rw [show nI l + 2 = nI (l + 2) from by rw [show (2 : Int32) = nI 2 from rfl, nI_add]]
                        refine zq_ic hc hH (by rfl) (tg := 96) (by rfl) (fun h12 => ?_) (fun h12 => ?_)
                        · have h12 : (decide ((nI (l + 2)) < (nI (l + 3)))) = true := decide_eq_true (cm_gt.mp h12)
                          refine z_rcs hc hH 2 (pc' := 98) (lv' := [(4, .int (nI (l + 3))), (3, .ref (20 + 8 * s)), (0, .ref 0), (1, .int (nI s)), (2, .int (nI l))]) (st' := [.ref 0, .long 1]) (μ' := μ) (by rfl) ?_
                          refine zq_gfi hc hH (by rfl) (ci := 5) (f := 15) (by rfl) (by decide +kernel) (by rfl) ?_
                          rw [hc15]
                          refine z_rcs hc hH 3 (pc' := 104) (lv' := [(4, .int (nI (l + 3))), (3, .ref (20 + 8 * s)), (0, .ref 0), (1, .int (nI s)), (2, .int (nI l))]) (st' := [.int (nI l), .ref 0, .long (1 <<< ((nI c).toInt64 &&& 63))]) (μ' := μ) (by rfl) ?_
                          refine zq_call hc (z_cx_ok hH (by rfl)) (hoe d' (by omega)) (by decide +kernel) (fun r9 μ9 hq => ?_)
                          obtain ⟨hμ9, rfl⟩ := hq
                          rw [hμ9]
                          clear hμ9 μ9
                          show Z 0 107 [(4, .int (nI (l + 3))), (3, .ref (20 + 8 * s)), (0, .ref 0), (1, .int (nI s)), (2, .int (nI l))] [.long oe, .long (1 <<< ((nI c).toInt64 &&& 63))] μ
                          refine z_rcs hc hH 4 (pc' := 112) (lv' := [(4, .long ((1 <<< ((nI c).toInt64 &&& 63)) ||| oe)), (3, .ref (20 + 8 * s)), (0, .ref 0), (1, .int (nI s)), (2, .int (nI l))]) (st' := [.int (nI s), .ref 0]) (μ' := μ) (by rfl) ?_
                          refine zq_call hc (z_cx_ok hH (by rfl)) (gc_at4 d' (by omega) μ s hs4) (by decide +kernel) (fun r9 μ9 hq => ?_)
                          obtain ⟨hμ9, rfl⟩ := hq
                          rw [hμ9]
                          clear hμ9 μ9
                          show Z 0 115 [(4, .long ((1 <<< ((nI c).toInt64 &&& 63)) ||| oe)), (3, .ref (20 + 8 * s)), (0, .ref 0), (1, .int (nI s)), (2, .int (nI l))] [.ref (18 + 8 * s)] μ
                          refine zq_gfr hc hH (by rfl) (ci := 1) (f := 0) (q := 19 + 8 * s) (by rfl) (sj (P := fun i => okf 79 1 0 (18 + 8 * i)) hs4 (by decide +kernel)) (by rfl) (sj (P := fun i => Nat.beq (z_gr (18 + 8 * i) 0) (19 + 8 * i)) hs4 (by decide +kernel)) ?_
                          refine z_rcs hc hH 5 (pc' := 125) (lv' := [(4, .long ((1 <<< ((nI c).toInt64 &&& 63)) ||| oe)), (3, .ref (20 + 8 * s)), (0, .ref 0), (1, .int (nI s)), (2, .int (nI l))]) (st' := [.ref 0, .long 1, .long (7 <<< ((nI l).toInt64 &&& 63)), .ref (19 + 8 * s)]) (μ' := μ) (by rfl) ?_
                          refine zq_gfi hc hH (by rfl) (ci := 5) (f := 15) (by rfl) (by decide +kernel) (by rfl) ?_
                          rw [hc15]
                          refine z_rcs hc hH 5 (pc' := 136) (lv' := [(4, .long ((1 <<< ((nI c).toInt64 &&& 63)) ||| oe)), (3, .ref (20 + 8 * s)), (0, .ref 0), (1, .int (nI s)), (2, .int (nI l))]) (st' := [.long ((1 <<< ((nI c).toInt64 &&& 63)) ||| oe), .long ((7 <<< ((nI l).toInt64 &&& 63)) &&& ((1 <<< ((nI c).toInt64 &&& 63)) ^^^ (-1))), .ref (19 + 8 * s)]) (μ' := μ) (by rfl) ?_
                          refine zq_call hc (z_cx_ok hH (by rfl)) (hko d' (by omega)) (by decide +kernel) (fun r9 μ9 hq => ?_)
                          obtain ⟨hμ9, rfl⟩ := hq
                          rw [hμ9]
                          clear hμ9 μ9
                          show Z 0 139 [(4, .long ((1 <<< ((nI c).toInt64 &&& 63)) ||| oe)), (3, .ref (20 + 8 * s)), (0, .ref 0), (1, .int (nI s)), (2, .int (nI l))] [.int (nB ko)] μ
                          refine zq_if hc hH (by rfl) (tg := 144) (by rfl) (fun h13 => ?_) (fun h13 => ?_)
                          · have h13 : (ko) = true := nB_n.mp (cm_ne.mp h13)
                            refine z_rcs hc hH 4 (pc' := 148) (lv' := [(4, .long ((1 <<< ((nI c).toInt64 &&& 63)) ||| oe)), (3, .ref (20 + 8 * s)), (0, .ref 0), (1, .int (nI s)), (2, .int (nI l))]) (st' := [.int (nI l), .int 0, .int (nI s), .ref 0]) (μ' := μ) (by rfl) ?_
                            refine zq_call hc (z_cx_ok hH (by rfl)) (gc_takeSet d' (by omega) μ s l q 0 hs4 ham hq3 e4 t c u1 u2 u3 c1 c2 c3 ht4 ht hc34 hc15 hu1 hu14 hw1 hu2 hu24 hw2 hu3 hu34 hw3) (by decide +kernel) (fun r9 μ9 hq => ?_)
                            obtain ⟨rfl, rfl⟩ := hq
                            show Z 0 151 [(4, .long ((1 <<< ((nI c).toInt64 &&& 63)) ||| oe)), (3, .ref (20 + 8 * s)), (0, .ref 0), (1, .int (nI s)), (2, .int (nI l))] [] (tkS μ s l q 0 t c u1 u2 u3 c1 c2 c3)
                            refine z_rcs0 hc hH 2 (pc' := 154) (lv' := [(4, .long ((1 <<< ((nI c).toInt64 &&& 63)) ||| oe)), (3, .ref (20 + 8 * s)), (0, .ref 0), (1, .int (nI s)), (2, .int (nI l))]) (st' := [.long ((1 <<< ((nI c).toInt64 &&& 63)) ||| oe), .ref 0]) (by rfl) ?_
                            refine zq_pfl hc hH (by rfl) (ci := 5) (f := 18) (by rfl) (by decide +kernel) (by rfl) ?_
                            show Z 0 157 [(4, .long ((1 <<< ((nI c).toInt64 &&& 63)) ||| oe)), (3, .ref (20 + 8 * s)), (0, .ref 0), (1, .int (nI s)), (2, .int (nI l))] [] (z_uj (tkS μ s l q 0 t c u1 u2 u3 c1 c2 c3) 0 18 ((1 <<< ((nI c).toInt64 &&& 63)) ||| oe))
                            refine z_rcs0 hc hH 1 (pc' := 158) (lv' := [(4, .long ((1 <<< ((nI c).toInt64 &&& 63)) ||| oe)), (3, .ref (20 + 8 * s)), (0, .ref 0), (1, .int (nI s)), (2, .int (nI l))]) (st' := [.int 1]) (by rfl) ?_
                            exact hr 0 158 _ _ _ (some (.int 1)) (by decide +kernel) (z_rx_ok hH (by rfl)) (⟨(by first | with_reducible rfl | (simp only [h1, h2, h3, h4, h5, h7, h9, h11, h13, cond_true, cond_false]; done) | rfl), (by simp only [h1, h2, h3, h4, h5, h7, h9, h11, h13, cond_true, cond_false])⟩)
                          · have h13 : (ko) = false := nB_z.mp (cn_ne.mp h13)
                            refine z_rcs hc hH 1 (pc' := 143) (lv' := [(4, .long ((1 <<< ((nI c).toInt64 &&& 63)) ||| oe)), (3, .ref (20 + 8 * s)), (0, .ref 0), (1, .int (nI s)), (2, .int (nI l))]) (st' := [.int 0]) (μ' := μ) (by rfl) ?_
                            exact hr 0 143 _ _ _ (some (.int 0)) (by decide +kernel) (z_rx_ok hH (by rfl)) (⟨(by first | with_reducible rfl | (simp only [h1, h2, h3, h4, h5, h7, h9, h11, h13, cond_true, cond_false]; done) | rfl), (by simp only [h1, h2, h3, h4, h5, h7, h9, h11, h13, cond_true, cond_false])⟩)
                        · have h12 : (decide ((nI (l + 2)) < (nI (l + 3)))) = false := decide_eq_false (cn_gt.mp h12)
                          exact absurd (Eq.trans (Eq.symm (kn_ln (by omega) (by omega) (by omega))) h12) (by decide)
                      · have h11 : (decide ((nI (l + 2)) = (nI c))) = false := decide_eq_false (cn_eq.mp h11)
                        refine z_rcs hc hH 2 (pc' := 84) (lv' := [(4, .int (nI (l + 2))), (3, .ref (20 + 8 * s)), (0, .ref 0), (1, .int (nI s)), (2, .int (nI l))]) (st' := [.int (nI (l + 2)), .ref (20 + 8 * s)]) (μ' := μ) (by rfl) ?_
                        refine zq_iald hc hH (by rfl) 34 (oka_i (sj (P := fun i => oka 79 1 34 (20 + 8 * i)) hs4 (by decide +kernel))) (vp_in_nI (by omega) (by decide)) ?_
                        rw [nI_clamp (by omega)]
                        refine zq_if hc hH (by rfl) (tg := 90) (by rfl) (fun h14 => ?_) (fun h14 => ?_)
                        · have h14 : (decide ((μ.1 (20 + 8 * s) (l + 2)) = 0)) = false := decide_eq_false (cm_ne.mp h14)
                          refine z_rcs hc hH 3 (pc' := 66) (lv' := [(4, .int ((nI (l + 2)) + 1)), (3, .ref (20 + 8 * s)), (0, .ref 0), (1, .int (nI s)), (2, .int (nI l))]) (st' := [.int ((nI (l + 2)) + 1)]) (μ' := μ) (by rfl) ?_
                          rw [show nI (l + 2) + 1 = nI (l + 3) from nI_s1 _]
                          refine z_rcs hc hH 3 (pc' := 69) (lv' := [(4, .int (nI (l + 3))), (3, .ref (20 + 8 * s)), (0, .ref 0), (1, .int (nI s)), (2, .int (nI l))]) (st' := [.int ((nI l) + 2), .int (nI (l + 3))]) (μ' := μ) (by rfl) ?_
                          rw [show nI l + 2 = nI (l + 2) from by rw [show (2 : Int32) = nI 2 from rfl, nI_add]]
                          refine zq_ic hc hH (by rfl) (tg := 96) (by rfl) (fun h15 => ?_) (fun h15 => ?_)
                          · have h15 : (decide ((nI (l + 2)) < (nI (l + 3)))) = true := decide_eq_true (cm_gt.mp h15)
                            refine z_rcs hc hH 2 (pc' := 98) (lv' := [(4, .int (nI (l + 3))), (3, .ref (20 + 8 * s)), (0, .ref 0), (1, .int (nI s)), (2, .int (nI l))]) (st' := [.ref 0, .long 1]) (μ' := μ) (by rfl) ?_
                            refine zq_gfi hc hH (by rfl) (ci := 5) (f := 15) (by rfl) (by decide +kernel) (by rfl) ?_
                            rw [hc15]
                            refine z_rcs hc hH 3 (pc' := 104) (lv' := [(4, .int (nI (l + 3))), (3, .ref (20 + 8 * s)), (0, .ref 0), (1, .int (nI s)), (2, .int (nI l))]) (st' := [.int (nI l), .ref 0, .long (1 <<< ((nI c).toInt64 &&& 63))]) (μ' := μ) (by rfl) ?_
                            refine zq_call hc (z_cx_ok hH (by rfl)) (hoe d' (by omega)) (by decide +kernel) (fun r9 μ9 hq => ?_)
                            obtain ⟨hμ9, rfl⟩ := hq
                            rw [hμ9]
                            clear hμ9 μ9
                            show Z 0 107 [(4, .int (nI (l + 3))), (3, .ref (20 + 8 * s)), (0, .ref 0), (1, .int (nI s)), (2, .int (nI l))] [.long oe, .long (1 <<< ((nI c).toInt64 &&& 63))] μ
                            refine z_rcs hc hH 4 (pc' := 112) (lv' := [(4, .long ((1 <<< ((nI c).toInt64 &&& 63)) ||| oe)), (3, .ref (20 + 8 * s)), (0, .ref 0), (1, .int (nI s)), (2, .int (nI l))]) (st' := [.int (nI s), .ref 0]) (μ' := μ) (by rfl) ?_
                            refine zq_call hc (z_cx_ok hH (by rfl)) (gc_at4 d' (by omega) μ s hs4) (by decide +kernel) (fun r9 μ9 hq => ?_)
                            obtain ⟨hμ9, rfl⟩ := hq
                            rw [hμ9]
                            clear hμ9 μ9
                            show Z 0 115 [(4, .long ((1 <<< ((nI c).toInt64 &&& 63)) ||| oe)), (3, .ref (20 + 8 * s)), (0, .ref 0), (1, .int (nI s)), (2, .int (nI l))] [.ref (18 + 8 * s)] μ
                            refine zq_gfr hc hH (by rfl) (ci := 1) (f := 0) (q := 19 + 8 * s) (by rfl) (sj (P := fun i => okf 79 1 0 (18 + 8 * i)) hs4 (by decide +kernel)) (by rfl) (sj (P := fun i => Nat.beq (z_gr (18 + 8 * i) 0) (19 + 8 * i)) hs4 (by decide +kernel)) ?_
                            refine z_rcs hc hH 5 (pc' := 125) (lv' := [(4, .long ((1 <<< ((nI c).toInt64 &&& 63)) ||| oe)), (3, .ref (20 + 8 * s)), (0, .ref 0), (1, .int (nI s)), (2, .int (nI l))]) (st' := [.ref 0, .long 1, .long (7 <<< ((nI l).toInt64 &&& 63)), .ref (19 + 8 * s)]) (μ' := μ) (by rfl) ?_
                            refine zq_gfi hc hH (by rfl) (ci := 5) (f := 15) (by rfl) (by decide +kernel) (by rfl) ?_
                            rw [hc15]
                            refine z_rcs hc hH 5 (pc' := 136) (lv' := [(4, .long ((1 <<< ((nI c).toInt64 &&& 63)) ||| oe)), (3, .ref (20 + 8 * s)), (0, .ref 0), (1, .int (nI s)), (2, .int (nI l))]) (st' := [.long ((1 <<< ((nI c).toInt64 &&& 63)) ||| oe), .long ((7 <<< ((nI l).toInt64 &&& 63)) &&& ((1 <<< ((nI c).toInt64 &&& 63)) ^^^ (-1))), .ref (19 + 8 * s)]) (μ' := μ) (by rfl) ?_
                            refine zq_call hc (z_cx_ok hH (by rfl)) (hko d' (by omega)) (by decide +kernel) (fun r9 μ9 hq => ?_)
                            obtain ⟨hμ9, rfl⟩ := hq
                            rw [hμ9]
                            clear hμ9 μ9
                            show Z 0 139 [(4, .long ((1 <<< ((nI c).toInt64 &&& 63)) ||| oe)), (3, .ref (20 + 8 * s)), (0, .ref 0), (1, .int (nI s)), (2, .int (nI l))] [.int (nB ko)] μ
                            refine zq_if hc hH (by rfl) (tg := 144) (by rfl) (fun h16 => ?_) (fun h16 => ?_)
                            · have h16 : (ko) = true := nB_n.mp (cm_ne.mp h16)
                              refine z_rcs hc hH 4 (pc' := 148) (lv' := [(4, .long ((1 <<< ((nI c).toInt64 &&& 63)) ||| oe)), (3, .ref (20 + 8 * s)), (0, .ref 0), (1, .int (nI s)), (2, .int (nI l))]) (st' := [.int (nI l), .int 0, .int (nI s), .ref 0]) (μ' := μ) (by rfl) ?_
                              refine zq_call hc (z_cx_ok hH (by rfl)) (gc_takeSet d' (by omega) μ s l q 0 hs4 ham hq3 e4 t c u1 u2 u3 c1 c2 c3 ht4 ht hc34 hc15 hu1 hu14 hw1 hu2 hu24 hw2 hu3 hu34 hw3) (by decide +kernel) (fun r9 μ9 hq => ?_)
                              obtain ⟨rfl, rfl⟩ := hq
                              show Z 0 151 [(4, .long ((1 <<< ((nI c).toInt64 &&& 63)) ||| oe)), (3, .ref (20 + 8 * s)), (0, .ref 0), (1, .int (nI s)), (2, .int (nI l))] [] (tkS μ s l q 0 t c u1 u2 u3 c1 c2 c3)
                              refine z_rcs0 hc hH 2 (pc' := 154) (lv' := [(4, .long ((1 <<< ((nI c).toInt64 &&& 63)) ||| oe)), (3, .ref (20 + 8 * s)), (0, .ref 0), (1, .int (nI s)), (2, .int (nI l))]) (st' := [.long ((1 <<< ((nI c).toInt64 &&& 63)) ||| oe), .ref 0]) (by rfl) ?_
                              refine zq_pfl hc hH (by rfl) (ci := 5) (f := 18) (by rfl) (by decide +kernel) (by rfl) ?_
                              show Z 0 157 [(4, .long ((1 <<< ((nI c).toInt64 &&& 63)) ||| oe)), (3, .ref (20 + 8 * s)), (0, .ref 0), (1, .int (nI s)), (2, .int (nI l))] [] (z_uj (tkS μ s l q 0 t c u1 u2 u3 c1 c2 c3) 0 18 ((1 <<< ((nI c).toInt64 &&& 63)) ||| oe))
                              refine z_rcs0 hc hH 1 (pc' := 158) (lv' := [(4, .long ((1 <<< ((nI c).toInt64 &&& 63)) ||| oe)), (3, .ref (20 + 8 * s)), (0, .ref 0), (1, .int (nI s)), (2, .int (nI l))]) (st' := [.int 1]) (by rfl) ?_
                              exact hr 0 158 _ _ _ (some (.int 1)) (by decide +kernel) (z_rx_ok hH (by rfl)) (⟨(by first | with_reducible rfl | (simp only [h1, h2, h3, h4, h5, h7, h9, h11, h14, h16, cond_true, cond_false]; done) | rfl), (by simp only [h1, h2, h3, h4, h5, h7, h9, h11, h14, h16, cond_true, cond_false])⟩)
                            · have h16 : (ko) = false := nB_z.mp (cn_ne.mp h16)
                              refine z_rcs hc hH 1 (pc' := 143) (lv' := [(4, .long ((1 <<< ((nI c).toInt64 &&& 63)) ||| oe)), (3, .ref (20 + 8 * s)), (0, .ref 0), (1, .int (nI s)), (2, .int (nI l))]) (st' := [.int 0]) (μ' := μ) (by rfl) ?_
                              exact hr 0 143 _ _ _ (some (.int 0)) (by decide +kernel) (z_rx_ok hH (by rfl)) (⟨(by first | with_reducible rfl | (simp only [h1, h2, h3, h4, h5, h7, h9, h11, h14, h16, cond_true, cond_false]; done) | rfl), (by simp only [h1, h2, h3, h4, h5, h7, h9, h11, h14, h16, cond_true, cond_false])⟩)
                          · have h15 : (decide ((nI (l + 2)) < (nI (l + 3)))) = false := decide_eq_false (cn_gt.mp h15)
                            exact absurd (Eq.trans (Eq.symm (kn_ln (by omega) (by omega) (by omega))) h15) (by decide)
                        · have h14 : (decide ((μ.1 (20 + 8 * s) (l + 2)) = 0)) = true := decide_eq_true (cn_ne.mp h14)
                          refine z_rcs hc hH 1 (pc' := 89) (lv' := [(4, .int (nI (l + 2))), (3, .ref (20 + 8 * s)), (0, .ref 0), (1, .int (nI s)), (2, .int (nI l))]) (st' := [.int 0]) (μ' := μ) (by rfl) ?_
                          exact hr 0 89 _ _ _ (some (.int 0)) (by decide +kernel) (z_rx_ok hH (by rfl)) (⟨(by first | with_reducible rfl | (simp only [h1, h2, h3, h4, h5, h7, h9, h11, h14, cond_true, cond_false]; done) | rfl), (by simp only [h1, h2, h3, h4, h5, h7, h9, h11, h14, cond_true, cond_false])⟩)
                  · have h9 : (decide ((nI (l + 1)) = (nI c))) = false := decide_eq_false (cn_eq.mp h9)
                    refine z_rcs hc hH 2 (pc' := 84) (lv' := [(4, .int (nI (l + 1))), (3, .ref (20 + 8 * s)), (0, .ref 0), (1, .int (nI s)), (2, .int (nI l))]) (st' := [.int (nI (l + 1)), .ref (20 + 8 * s)]) (μ' := μ) (by rfl) ?_
                    refine zq_iald hc hH (by rfl) 34 (oka_i (sj (P := fun i => oka 79 1 34 (20 + 8 * i)) hs4 (by decide +kernel))) (vp_in_nI (by omega) (by decide)) ?_
                    rw [nI_clamp (by omega)]
                    refine zq_if hc hH (by rfl) (tg := 90) (by rfl) (fun h17 => ?_) (fun h17 => ?_)
                    · have h17 : (decide ((μ.1 (20 + 8 * s) (l + 1)) = 0)) = false := decide_eq_false (cm_ne.mp h17)
                      refine z_rcs hc hH 3 (pc' := 66) (lv' := [(4, .int ((nI (l + 1)) + 1)), (3, .ref (20 + 8 * s)), (0, .ref 0), (1, .int (nI s)), (2, .int (nI l))]) (st' := [.int ((nI (l + 1)) + 1)]) (μ' := μ) (by rfl) ?_
                      rw [show nI (l + 1) + 1 = nI (l + 2) from nI_s1 _]
                      refine z_rcs hc hH 3 (pc' := 69) (lv' := [(4, .int (nI (l + 2))), (3, .ref (20 + 8 * s)), (0, .ref 0), (1, .int (nI s)), (2, .int (nI l))]) (st' := [.int ((nI l) + 2), .int (nI (l + 2))]) (μ' := μ) (by rfl) ?_
                      rw [show nI l + 2 = nI (l + 2) from by rw [show (2 : Int32) = nI 2 from rfl, nI_add]]
                      refine zq_ic hc hH (by rfl) (tg := 96) (by rfl) (fun h18 => ?_) (fun h18 => ?_)
                      · have h18 : (decide ((nI (l + 2)) < (nI (l + 2)))) = true := decide_eq_true (cm_gt.mp h18)
                        exact absurd (Eq.trans (Eq.symm (kn_nn (by omega) (by omega) (by omega))) h18) (by decide)
                      · have h18 : (decide ((nI (l + 2)) < (nI (l + 2)))) = false := decide_eq_false (cn_gt.mp h18)
                        refine z_rcs hc hH 2 (pc' := 75) (lv' := [(4, .int (nI (l + 2))), (3, .ref (20 + 8 * s)), (0, .ref 0), (1, .int (nI s)), (2, .int (nI l))]) (st' := [.ref 0, .int (nI (l + 2))]) (μ' := μ) (by rfl) ?_
                        refine zq_gfi hc hH (by rfl) (ci := 5) (f := 15) (by rfl) (by decide +kernel) (by rfl) ?_
                        rw [hc15]
                        refine zq_ic hc hH (by rfl) (tg := 90) (by rfl) (fun h19 => ?_) (fun h19 => ?_)
                        · have h19 : (decide ((nI (l + 2)) = (nI c))) = true := decide_eq_true (cm_eq9.mp h19)
                          refine z_rcs hc hH 3 (pc' := 66) (lv' := [(4, .int ((nI (l + 2)) + 1)), (3, .ref (20 + 8 * s)), (0, .ref 0), (1, .int (nI s)), (2, .int (nI l))]) (st' := [.int ((nI (l + 2)) + 1)]) (μ' := μ) (by rfl) ?_
                          rw [show nI (l + 2) + 1 = nI (l + 3) from nI_s1 _]
                          refine z_rcs hc hH 3 (pc' := 69) (lv' := [(4, .int (nI (l + 3))), (3, .ref (20 + 8 * s)), (0, .ref 0), (1, .int (nI s)), (2, .int (nI l))]) (st' := [.int ((nI l) + 2), .int (nI (l + 3))]) (μ' := μ) (by rfl) ?_
                          rw [show nI l + 2 = nI (l + 2) from by rw [show (2 : Int32) = nI 2 from rfl, nI_add]]
                          refine zq_ic hc hH (by rfl) (tg := 96) (by rfl) (fun h20 => ?_) (fun h20 => ?_)
                          · have h20 : (decide ((nI (l + 2)) < (nI (l + 3)))) = true := decide_eq_true (cm_gt.mp h20)
                            refine z_rcs hc hH 2 (pc' := 98) (lv' := [(4, .int (nI (l + 3))), (3, .ref (20 + 8 * s)), (0, .ref 0), (1, .int (nI s)), (2, .int (nI l))]) (st' := [.ref 0, .long 1]) (μ' := μ) (by rfl) ?_
                            refine zq_gfi hc hH (by rfl) (ci := 5) (f := 15) (by rfl) (by decide +kernel) (by rfl) ?_
                            rw [hc15]
                            refine z_rcs hc hH 3 (pc' := 104) (lv' := [(4, .int (nI (l + 3))), (3, .ref (20 + 8 * s)), (0, .ref 0), (1, .int (nI s)), (2, .int (nI l))]) (st' := [.int (nI l), .ref 0, .long (1 <<< ((nI c).toInt64 &&& 63))]) (μ' := μ) (by rfl) ?_
                            refine zq_call hc (z_cx_ok hH (by rfl)) (hoe d' (by omega)) (by decide +kernel) (fun r9 μ9 hq => ?_)
                            obtain ⟨hμ9, rfl⟩ := hq
                            rw [hμ9]
                            clear hμ9 μ9
                            show Z 0 107 [(4, .int (nI (l + 3))), (3, .ref (20 + 8 * s)), (0, .ref 0), (1, .int (nI s)), (2, .int (nI l))] [.long oe, .long (1 <<< ((nI c).toInt64 &&& 63))] μ
                            refine z_rcs hc hH 4 (pc' := 112) (lv' := [(4, .long ((1 <<< ((nI c).toInt64 &&& 63)) ||| oe)), (3, .ref (20 + 8 * s)), (0, .ref 0), (1, .int (nI s)), (2, .int (nI l))]) (st' := [.int (nI s), .ref 0]) (μ' := μ) (by rfl) ?_
                            refine zq_call hc (z_cx_ok hH (by rfl)) (gc_at4 d' (by omega) μ s hs4) (by decide +kernel) (fun r9 μ9 hq => ?_)
                            obtain ⟨hμ9, rfl⟩ := hq
                            rw [hμ9]
                            clear hμ9 μ9
                            show Z 0 115 [(4, .long ((1 <<< ((nI c).toInt64 &&& 63)) ||| oe)), (3, .ref (20 + 8 * s)), (0, .ref 0), (1, .int (nI s)), (2, .int (nI l))] [.ref (18 + 8 * s)] μ
                            refine zq_gfr hc hH (by rfl) (ci := 1) (f := 0) (q := 19 + 8 * s) (by rfl) (sj (P := fun i => okf 79 1 0 (18 + 8 * i)) hs4 (by decide +kernel)) (by rfl) (sj (P := fun i => Nat.beq (z_gr (18 + 8 * i) 0) (19 + 8 * i)) hs4 (by decide +kernel)) ?_
                            refine z_rcs hc hH 5 (pc' := 125) (lv' := [(4, .long ((1 <<< ((nI c).toInt64 &&& 63)) ||| oe)), (3, .ref (20 + 8 * s)), (0, .ref 0), (1, .int (nI s)), (2, .int (nI l))]) (st' := [.ref 0, .long 1, .long (7 <<< ((nI l).toInt64 &&& 63)), .ref (19 + 8 * s)]) (μ' := μ) (by rfl) ?_
                            refine zq_gfi hc hH (by rfl) (ci := 5) (f := 15) (by rfl) (by decide +kernel) (by rfl) ?_
                            rw [hc15]
                            refine z_rcs hc hH 5 (pc' := 136) (lv' := [(4, .long ((1 <<< ((nI c).toInt64 &&& 63)) ||| oe)), (3, .ref (20 + 8 * s)), (0, .ref 0), (1, .int (nI s)), (2, .int (nI l))]) (st' := [.long ((1 <<< ((nI c).toInt64 &&& 63)) ||| oe), .long ((7 <<< ((nI l).toInt64 &&& 63)) &&& ((1 <<< ((nI c).toInt64 &&& 63)) ^^^ (-1))), .ref (19 + 8 * s)]) (μ' := μ) (by rfl) ?_
                            refine zq_call hc (z_cx_ok hH (by rfl)) (hko d' (by omega)) (by decide +kernel) (fun r9 μ9 hq => ?_)
                            obtain ⟨hμ9, rfl⟩ := hq
                            rw [hμ9]
                            clear hμ9 μ9
                            show Z 0 139 [(4, .long ((1 <<< ((nI c).toInt64 &&& 63)) ||| oe)), (3, .ref (20 + 8 * s)), (0, .ref 0), (1, .int (nI s)), (2, .int (nI l))] [.int (nB ko)] μ
                            refine zq_if hc hH (by rfl) (tg := 144) (by rfl) (fun h21 => ?_) (fun h21 => ?_)
                            · have h21 : (ko) = true := nB_n.mp (cm_ne.mp h21)
                              refine z_rcs hc hH 4 (pc' := 148) (lv' := [(4, .long ((1 <<< ((nI c).toInt64 &&& 63)) ||| oe)), (3, .ref (20 + 8 * s)), (0, .ref 0), (1, .int (nI s)), (2, .int (nI l))]) (st' := [.int (nI l), .int 0, .int (nI s), .ref 0]) (μ' := μ) (by rfl) ?_
                              refine zq_call hc (z_cx_ok hH (by rfl)) (gc_takeSet d' (by omega) μ s l q 0 hs4 ham hq3 e4 t c u1 u2 u3 c1 c2 c3 ht4 ht hc34 hc15 hu1 hu14 hw1 hu2 hu24 hw2 hu3 hu34 hw3) (by decide +kernel) (fun r9 μ9 hq => ?_)
                              obtain ⟨rfl, rfl⟩ := hq
                              show Z 0 151 [(4, .long ((1 <<< ((nI c).toInt64 &&& 63)) ||| oe)), (3, .ref (20 + 8 * s)), (0, .ref 0), (1, .int (nI s)), (2, .int (nI l))] [] (tkS μ s l q 0 t c u1 u2 u3 c1 c2 c3)
                              refine z_rcs0 hc hH 2 (pc' := 154) (lv' := [(4, .long ((1 <<< ((nI c).toInt64 &&& 63)) ||| oe)), (3, .ref (20 + 8 * s)), (0, .ref 0), (1, .int (nI s)), (2, .int (nI l))]) (st' := [.long ((1 <<< ((nI c).toInt64 &&& 63)) ||| oe), .ref 0]) (by rfl) ?_
                              refine zq_pfl hc hH (by rfl) (ci := 5) (f := 18) (by rfl) (by decide +kernel) (by rfl) ?_
                              show Z 0 157 [(4, .long ((1 <<< ((nI c).toInt64 &&& 63)) ||| oe)), (3, .ref (20 + 8 * s)), (0, .ref 0), (1, .int (nI s)), (2, .int (nI l))] [] (z_uj (tkS μ s l q 0 t c u1 u2 u3 c1 c2 c3) 0 18 ((1 <<< ((nI c).toInt64 &&& 63)) ||| oe))
                              refine z_rcs0 hc hH 1 (pc' := 158) (lv' := [(4, .long ((1 <<< ((nI c).toInt64 &&& 63)) ||| oe)), (3, .ref (20 + 8 * s)), (0, .ref 0), (1, .int (nI s)), (2, .int (nI l))]) (st' := [.int 1]) (by rfl) ?_
                              exact hr 0 158 _ _ _ (some (.int 1)) (by decide +kernel) (z_rx_ok hH (by rfl)) (⟨(by first | with_reducible rfl | (simp only [h1, h2, h3, h4, h5, h7, h9, h17, h19, h21, cond_true, cond_false]; done) | rfl), (by simp only [h1, h2, h3, h4, h5, h7, h9, h17, h19, h21, cond_true, cond_false])⟩)
                            · have h21 : (ko) = false := nB_z.mp (cn_ne.mp h21)
                              refine z_rcs hc hH 1 (pc' := 143) (lv' := [(4, .long ((1 <<< ((nI c).toInt64 &&& 63)) ||| oe)), (3, .ref (20 + 8 * s)), (0, .ref 0), (1, .int (nI s)), (2, .int (nI l))]) (st' := [.int 0]) (μ' := μ) (by rfl) ?_
                              exact hr 0 143 _ _ _ (some (.int 0)) (by decide +kernel) (z_rx_ok hH (by rfl)) (⟨(by first | with_reducible rfl | (simp only [h1, h2, h3, h4, h5, h7, h9, h17, h19, h21, cond_true, cond_false]; done) | rfl), (by simp only [h1, h2, h3, h4, h5, h7, h9, h17, h19, h21, cond_true, cond_false])⟩)
                          · have h20 : (decide ((nI (l + 2)) < (nI (l + 3)))) = false := decide_eq_false (cn_gt.mp h20)
                            exact absurd (Eq.trans (Eq.symm (kn_ln (by omega) (by omega) (by omega))) h20) (by decide)
                        · have h19 : (decide ((nI (l + 2)) = (nI c))) = false := decide_eq_false (cn_eq.mp h19)
                          refine z_rcs hc hH 2 (pc' := 84) (lv' := [(4, .int (nI (l + 2))), (3, .ref (20 + 8 * s)), (0, .ref 0), (1, .int (nI s)), (2, .int (nI l))]) (st' := [.int (nI (l + 2)), .ref (20 + 8 * s)]) (μ' := μ) (by rfl) ?_
                          refine zq_iald hc hH (by rfl) 34 (oka_i (sj (P := fun i => oka 79 1 34 (20 + 8 * i)) hs4 (by decide +kernel))) (vp_in_nI (by omega) (by decide)) ?_
                          rw [nI_clamp (by omega)]
                          refine zq_if hc hH (by rfl) (tg := 90) (by rfl) (fun h22 => ?_) (fun h22 => ?_)
                          · have h22 : (decide ((μ.1 (20 + 8 * s) (l + 2)) = 0)) = false := decide_eq_false (cm_ne.mp h22)
                            refine z_rcs hc hH 3 (pc' := 66) (lv' := [(4, .int ((nI (l + 2)) + 1)), (3, .ref (20 + 8 * s)), (0, .ref 0), (1, .int (nI s)), (2, .int (nI l))]) (st' := [.int ((nI (l + 2)) + 1)]) (μ' := μ) (by rfl) ?_
                            rw [show nI (l + 2) + 1 = nI (l + 3) from nI_s1 _]
                            refine z_rcs hc hH 3 (pc' := 69) (lv' := [(4, .int (nI (l + 3))), (3, .ref (20 + 8 * s)), (0, .ref 0), (1, .int (nI s)), (2, .int (nI l))]) (st' := [.int ((nI l) + 2), .int (nI (l + 3))]) (μ' := μ) (by rfl) ?_
                            rw [show nI l + 2 = nI (l + 2) from by rw [show (2 : Int32) = nI 2 from rfl, nI_add]]
                            refine zq_ic hc hH (by rfl) (tg := 96) (by rfl) (fun h23 => ?_) (fun h23 => ?_)
                            · have h23 : (decide ((nI (l + 2)) < (nI (l + 3)))) = true := decide_eq_true (cm_gt.mp h23)
                              refine z_rcs hc hH 2 (pc' := 98) (lv' := [(4, .int (nI (l + 3))), (3, .ref (20 + 8 * s)), (0, .ref 0), (1, .int (nI s)), (2, .int (nI l))]) (st' := [.ref 0, .long 1]) (μ' := μ) (by rfl) ?_
                              refine zq_gfi hc hH (by rfl) (ci := 5) (f := 15) (by rfl) (by decide +kernel) (by rfl) ?_
                              rw [hc15]
                              refine z_rcs hc hH 3 (pc' := 104) (lv' := [(4, .int (nI (l + 3))), (3, .ref (20 + 8 * s)), (0, .ref 0), (1, .int (nI s)), (2, .int (nI l))]) (st' := [.int (nI l), .ref 0, .long (1 <<< ((nI c).toInt64 &&& 63))]) (μ' := μ) (by rfl) ?_
                              refine zq_call hc (z_cx_ok hH (by rfl)) (hoe d' (by omega)) (by decide +kernel) (fun r9 μ9 hq => ?_)
                              obtain ⟨hμ9, rfl⟩ := hq
                              rw [hμ9]
                              clear hμ9 μ9
                              show Z 0 107 [(4, .int (nI (l + 3))), (3, .ref (20 + 8 * s)), (0, .ref 0), (1, .int (nI s)), (2, .int (nI l))] [.long oe, .long (1 <<< ((nI c).toInt64 &&& 63))] μ
                              refine z_rcs hc hH 4 (pc' := 112) (lv' := [(4, .long ((1 <<< ((nI c).toInt64 &&& 63)) ||| oe)), (3, .ref (20 + 8 * s)), (0, .ref 0), (1, .int (nI s)), (2, .int (nI l))]) (st' := [.int (nI s), .ref 0]) (μ' := μ) (by rfl) ?_
                              refine zq_call hc (z_cx_ok hH (by rfl)) (gc_at4 d' (by omega) μ s hs4) (by decide +kernel) (fun r9 μ9 hq => ?_)
                              obtain ⟨hμ9, rfl⟩ := hq
                              rw [hμ9]
                              clear hμ9 μ9
                              show Z 0 115 [(4, .long ((1 <<< ((nI c).toInt64 &&& 63)) ||| oe)), (3, .ref (20 + 8 * s)), (0, .ref 0), (1, .int (nI s)), (2, .int (nI l))] [.ref (18 + 8 * s)] μ
                              refine zq_gfr hc hH (by rfl) (ci := 1) (f := 0) (q := 19 + 8 * s) (by rfl) (sj (P := fun i => okf 79 1 0 (18 + 8 * i)) hs4 (by decide +kernel)) (by rfl) (sj (P := fun i => Nat.beq (z_gr (18 + 8 * i) 0) (19 + 8 * i)) hs4 (by decide +kernel)) ?_
                              refine z_rcs hc hH 5 (pc' := 125) (lv' := [(4, .long ((1 <<< ((nI c).toInt64 &&& 63)) ||| oe)), (3, .ref (20 + 8 * s)), (0, .ref 0), (1, .int (nI s)), (2, .int (nI l))]) (st' := [.ref 0, .long 1, .long (7 <<< ((nI l).toInt64 &&& 63)), .ref (19 + 8 * s)]) (μ' := μ) (by rfl) ?_
                              refine zq_gfi hc hH (by rfl) (ci := 5) (f := 15) (by rfl) (by decide +kernel) (by rfl) ?_
                              rw [hc15]
                              refine z_rcs hc hH 5 (pc' := 136) (lv' := [(4, .long ((1 <<< ((nI c).toInt64 &&& 63)) ||| oe)), (3, .ref (20 + 8 * s)), (0, .ref 0), (1, .int (nI s)), (2, .int (nI l))]) (st' := [.long ((1 <<< ((nI c).toInt64 &&& 63)) ||| oe), .long ((7 <<< ((nI l).toInt64 &&& 63)) &&& ((1 <<< ((nI c).toInt64 &&& 63)) ^^^ (-1))), .ref (19 + 8 * s)]) (μ' := μ) (by rfl) ?_
                              refine zq_call hc (z_cx_ok hH (by rfl)) (hko d' (by omega)) (by decide +kernel) (fun r9 μ9 hq => ?_)
                              obtain ⟨hμ9, rfl⟩ := hq
                              rw [hμ9]
                              clear hμ9 μ9
                              show Z 0 139 [(4, .long ((1 <<< ((nI c).toInt64 &&& 63)) ||| oe)), (3, .ref (20 + 8 * s)), (0, .ref 0), (1, .int (nI s)), (2, .int (nI l))] [.int (nB ko)] μ
                              refine zq_if hc hH (by rfl) (tg := 144) (by rfl) (fun h24 => ?_) (fun h24 => ?_)
                              · have h24 : (ko) = true := nB_n.mp (cm_ne.mp h24)
                                refine z_rcs hc hH 4 (pc' := 148) (lv' := [(4, .long ((1 <<< ((nI c).toInt64 &&& 63)) ||| oe)), (3, .ref (20 + 8 * s)), (0, .ref 0), (1, .int (nI s)), (2, .int (nI l))]) (st' := [.int (nI l), .int 0, .int (nI s), .ref 0]) (μ' := μ) (by rfl) ?_
                                refine zq_call hc (z_cx_ok hH (by rfl)) (gc_takeSet d' (by omega) μ s l q 0 hs4 ham hq3 e4 t c u1 u2 u3 c1 c2 c3 ht4 ht hc34 hc15 hu1 hu14 hw1 hu2 hu24 hw2 hu3 hu34 hw3) (by decide +kernel) (fun r9 μ9 hq => ?_)
                                obtain ⟨rfl, rfl⟩ := hq
                                show Z 0 151 [(4, .long ((1 <<< ((nI c).toInt64 &&& 63)) ||| oe)), (3, .ref (20 + 8 * s)), (0, .ref 0), (1, .int (nI s)), (2, .int (nI l))] [] (tkS μ s l q 0 t c u1 u2 u3 c1 c2 c3)
                                refine z_rcs0 hc hH 2 (pc' := 154) (lv' := [(4, .long ((1 <<< ((nI c).toInt64 &&& 63)) ||| oe)), (3, .ref (20 + 8 * s)), (0, .ref 0), (1, .int (nI s)), (2, .int (nI l))]) (st' := [.long ((1 <<< ((nI c).toInt64 &&& 63)) ||| oe), .ref 0]) (by rfl) ?_
                                refine zq_pfl hc hH (by rfl) (ci := 5) (f := 18) (by rfl) (by decide +kernel) (by rfl) ?_
                                show Z 0 157 [(4, .long ((1 <<< ((nI c).toInt64 &&& 63)) ||| oe)), (3, .ref (20 + 8 * s)), (0, .ref 0), (1, .int (nI s)), (2, .int (nI l))] [] (z_uj (tkS μ s l q 0 t c u1 u2 u3 c1 c2 c3) 0 18 ((1 <<< ((nI c).toInt64 &&& 63)) ||| oe))
                                refine z_rcs0 hc hH 1 (pc' := 158) (lv' := [(4, .long ((1 <<< ((nI c).toInt64 &&& 63)) ||| oe)), (3, .ref (20 + 8 * s)), (0, .ref 0), (1, .int (nI s)), (2, .int (nI l))]) (st' := [.int 1]) (by rfl) ?_
                                exact hr 0 158 _ _ _ (some (.int 1)) (by decide +kernel) (z_rx_ok hH (by rfl)) (⟨(by first | with_reducible rfl | (simp only [h1, h2, h3, h4, h5, h7, h9, h17, h19, h22, h24, cond_true, cond_false]; done) | rfl), (by simp only [h1, h2, h3, h4, h5, h7, h9, h17, h19, h22, h24, cond_true, cond_false])⟩)
                              · have h24 : (ko) = false := nB_z.mp (cn_ne.mp h24)
                                refine z_rcs hc hH 1 (pc' := 143) (lv' := [(4, .long ((1 <<< ((nI c).toInt64 &&& 63)) ||| oe)), (3, .ref (20 + 8 * s)), (0, .ref 0), (1, .int (nI s)), (2, .int (nI l))]) (st' := [.int 0]) (μ' := μ) (by rfl) ?_
                                exact hr 0 143 _ _ _ (some (.int 0)) (by decide +kernel) (z_rx_ok hH (by rfl)) (⟨(by first | with_reducible rfl | (simp only [h1, h2, h3, h4, h5, h7, h9, h17, h19, h22, h24, cond_true, cond_false]; done) | rfl), (by simp only [h1, h2, h3, h4, h5, h7, h9, h17, h19, h22, h24, cond_true, cond_false])⟩)
                            · have h23 : (decide ((nI (l + 2)) < (nI (l + 3)))) = false := decide_eq_false (cn_gt.mp h23)
                              exact absurd (Eq.trans (Eq.symm (kn_ln (by omega) (by omega) (by omega))) h23) (by decide)
                          · have h22 : (decide ((μ.1 (20 + 8 * s) (l + 2)) = 0)) = true := decide_eq_true (cn_ne.mp h22)
                            refine z_rcs hc hH 1 (pc' := 89) (lv' := [(4, .int (nI (l + 2))), (3, .ref (20 + 8 * s)), (0, .ref 0), (1, .int (nI s)), (2, .int (nI l))]) (st' := [.int 0]) (μ' := μ) (by rfl) ?_
                            exact hr 0 89 _ _ _ (some (.int 0)) (by decide +kernel) (z_rx_ok hH (by rfl)) (⟨(by first | with_reducible rfl | (simp only [h1, h2, h3, h4, h5, h7, h9, h17, h19, h22, cond_true, cond_false]; done) | rfl), (by simp only [h1, h2, h3, h4, h5, h7, h9, h17, h19, h22, cond_true, cond_false])⟩)
                    · have h17 : (decide ((μ.1 (20 + 8 * s) (l + 1)) = 0)) = true := decide_eq_true (cn_ne.mp h17)
                      refine z_rcs hc hH 1 (pc' := 89) (lv' := [(4, .int (nI (l + 1))), (3, .ref (20 + 8 * s)), (0, .ref 0), (1, .int (nI s)), (2, .int (nI l))]) (st' := [.int 0]) (μ' := μ) (by rfl) ?_
                      exact hr 0 89 _ _ _ (some (.int 0)) (by decide +kernel) (z_rx_ok hH (by rfl)) (⟨(by first | with_reducible rfl | (simp only [h1, h2, h3, h4, h5, h7, h9, h17, cond_true, cond_false]; done) | rfl), (by simp only [h1, h2, h3, h4, h5, h7, h9, h17, cond_true, cond_false])⟩)
              · have h7 : (decide ((nI l) = (nI c))) = false := decide_eq_false (cn_eq.mp h7)
                refine z_rcs hc hH 2 (pc' := 84) (lv' := [(4, .int (nI l)), (3, .ref (20 + 8 * s)), (0, .ref 0), (1, .int (nI s)), (2, .int (nI l))]) (st' := [.int (nI l), .ref (20 + 8 * s)]) (μ' := μ) (by rfl) ?_
                refine zq_iald hc hH (by rfl) 34 (oka_i (sj (P := fun i => oka 79 1 34 (20 + 8 * i)) hs4 (by decide +kernel))) (vp_in_nI (by omega) (by decide)) ?_
                rw [nI_clamp (by omega)]
                refine zq_if hc hH (by rfl) (tg := 90) (by rfl) (fun h25 => ?_) (fun h25 => ?_)
                · have h25 : (decide ((μ.1 (20 + 8 * s) l) = 0)) = false := decide_eq_false (cm_ne.mp h25)
                  refine z_rcs hc hH 3 (pc' := 66) (lv' := [(4, .int ((nI l) + 1)), (3, .ref (20 + 8 * s)), (0, .ref 0), (1, .int (nI s)), (2, .int (nI l))]) (st' := [.int ((nI l) + 1)]) (μ' := μ) (by rfl) ?_
                  rw [show nI l + 1 = nI (l + 1) from by rw [show (1 : Int32) = nI 1 from rfl, nI_add]]
                  refine z_rcs hc hH 3 (pc' := 69) (lv' := [(4, .int (nI (l + 1))), (3, .ref (20 + 8 * s)), (0, .ref 0), (1, .int (nI s)), (2, .int (nI l))]) (st' := [.int ((nI l) + 2), .int (nI (l + 1))]) (μ' := μ) (by rfl) ?_
                  rw [show nI l + 2 = nI (l + 2) from by rw [show (2 : Int32) = nI 2 from rfl, nI_add]]
                  refine zq_ic hc hH (by rfl) (tg := 96) (by rfl) (fun h26 => ?_) (fun h26 => ?_)
                  · have h26 : (decide ((nI (l + 2)) < (nI (l + 1)))) = true := decide_eq_true (cm_gt.mp h26)
                    exact absurd (Eq.trans (Eq.symm (kn_nn (by omega) (by omega) (by omega))) h26) (by decide)
                  · have h26 : (decide ((nI (l + 2)) < (nI (l + 1)))) = false := decide_eq_false (cn_gt.mp h26)
                    refine z_rcs hc hH 2 (pc' := 75) (lv' := [(4, .int (nI (l + 1))), (3, .ref (20 + 8 * s)), (0, .ref 0), (1, .int (nI s)), (2, .int (nI l))]) (st' := [.ref 0, .int (nI (l + 1))]) (μ' := μ) (by rfl) ?_
                    refine zq_gfi hc hH (by rfl) (ci := 5) (f := 15) (by rfl) (by decide +kernel) (by rfl) ?_
                    rw [hc15]
                    refine zq_ic hc hH (by rfl) (tg := 90) (by rfl) (fun h27 => ?_) (fun h27 => ?_)
                    · have h27 : (decide ((nI (l + 1)) = (nI c))) = true := decide_eq_true (cm_eq9.mp h27)
                      refine z_rcs hc hH 3 (pc' := 66) (lv' := [(4, .int ((nI (l + 1)) + 1)), (3, .ref (20 + 8 * s)), (0, .ref 0), (1, .int (nI s)), (2, .int (nI l))]) (st' := [.int ((nI (l + 1)) + 1)]) (μ' := μ) (by rfl) ?_
                      rw [show nI (l + 1) + 1 = nI (l + 2) from nI_s1 _]
                      refine z_rcs hc hH 3 (pc' := 69) (lv' := [(4, .int (nI (l + 2))), (3, .ref (20 + 8 * s)), (0, .ref 0), (1, .int (nI s)), (2, .int (nI l))]) (st' := [.int ((nI l) + 2), .int (nI (l + 2))]) (μ' := μ) (by rfl) ?_
                      rw [show nI l + 2 = nI (l + 2) from by rw [show (2 : Int32) = nI 2 from rfl, nI_add]]
                      refine zq_ic hc hH (by rfl) (tg := 96) (by rfl) (fun h28 => ?_) (fun h28 => ?_)
                      · have h28 : (decide ((nI (l + 2)) < (nI (l + 2)))) = true := decide_eq_true (cm_gt.mp h28)
                        exact absurd (Eq.trans (Eq.symm (kn_nn (by omega) (by omega) (by omega))) h28) (by decide)
                      · have h28 : (decide ((nI (l + 2)) < (nI (l + 2)))) = false := decide_eq_false (cn_gt.mp h28)
                        refine z_rcs hc hH 2 (pc' := 75) (lv' := [(4, .int (nI (l + 2))), (3, .ref (20 + 8 * s)), (0, .ref 0), (1, .int (nI s)), (2, .int (nI l))]) (st' := [.ref 0, .int (nI (l + 2))]) (μ' := μ) (by rfl) ?_
                        refine zq_gfi hc hH (by rfl) (ci := 5) (f := 15) (by rfl) (by decide +kernel) (by rfl) ?_
                        rw [hc15]
                        refine zq_ic hc hH (by rfl) (tg := 90) (by rfl) (fun h29 => ?_) (fun h29 => ?_)
                        · have h29 : (decide ((nI (l + 2)) = (nI c))) = true := decide_eq_true (cm_eq9.mp h29)
                          refine z_rcs hc hH 3 (pc' := 66) (lv' := [(4, .int ((nI (l + 2)) + 1)), (3, .ref (20 + 8 * s)), (0, .ref 0), (1, .int (nI s)), (2, .int (nI l))]) (st' := [.int ((nI (l + 2)) + 1)]) (μ' := μ) (by rfl) ?_
                          rw [show nI (l + 2) + 1 = nI (l + 3) from nI_s1 _]
                          refine z_rcs hc hH 3 (pc' := 69) (lv' := [(4, .int (nI (l + 3))), (3, .ref (20 + 8 * s)), (0, .ref 0), (1, .int (nI s)), (2, .int (nI l))]) (st' := [.int ((nI l) + 2), .int (nI (l + 3))]) (μ' := μ) (by rfl) ?_
                          rw [show nI l + 2 = nI (l + 2) from by rw [show (2 : Int32) = nI 2 from rfl, nI_add]]
                          refine zq_ic hc hH (by rfl) (tg := 96) (by rfl) (fun h30 => ?_) (fun h30 => ?_)
                          · have h30 : (decide ((nI (l + 2)) < (nI (l + 3)))) = true := decide_eq_true (cm_gt.mp h30)
                            refine z_rcs hc hH 2 (pc' := 98) (lv' := [(4, .int (nI (l + 3))), (3, .ref (20 + 8 * s)), (0, .ref 0), (1, .int (nI s)), (2, .int (nI l))]) (st' := [.ref 0, .long 1]) (μ' := μ) (by rfl) ?_
                            refine zq_gfi hc hH (by rfl) (ci := 5) (f := 15) (by rfl) (by decide +kernel) (by rfl) ?_
                            rw [hc15]
                            refine z_rcs hc hH 3 (pc' := 104) (lv' := [(4, .int (nI (l + 3))), (3, .ref (20 + 8 * s)), (0, .ref 0), (1, .int (nI s)), (2, .int (nI l))]) (st' := [.int (nI l), .ref 0, .long (1 <<< ((nI c).toInt64 &&& 63))]) (μ' := μ) (by rfl) ?_
                            refine zq_call hc (z_cx_ok hH (by rfl)) (hoe d' (by omega)) (by decide +kernel) (fun r9 μ9 hq => ?_)
                            obtain ⟨hμ9, rfl⟩ := hq
                            rw [hμ9]
                            clear hμ9 μ9
                            show Z 0 107 [(4, .int (nI (l + 3))), (3, .ref (20 + 8 * s)), (0, .ref 0), (1, .int (nI s)), (2, .int (nI l))] [.long oe, .long (1 <<< ((nI c).toInt64 &&& 63))] μ
                            refine z_rcs hc hH 4 (pc' := 112) (lv' := [(4, .long ((1 <<< ((nI c).toInt64 &&& 63)) ||| oe)), (3, .ref (20 + 8 * s)), (0, .ref 0), (1, .int (nI s)), (2, .int (nI l))]) (st' := [.int (nI s), .ref 0]) (μ' := μ) (by rfl) ?_
                            refine zq_call hc (z_cx_ok hH (by rfl)) (gc_at4 d' (by omega) μ s hs4) (by decide +kernel) (fun r9 μ9 hq => ?_)
                            obtain ⟨hμ9, rfl⟩ := hq
                            rw [hμ9]
                            clear hμ9 μ9
                            show Z 0 115 [(4, .long ((1 <<< ((nI c).toInt64 &&& 63)) ||| oe)), (3, .ref (20 + 8 * s)), (0, .ref 0), (1, .int (nI s)), (2, .int (nI l))] [.ref (18 + 8 * s)] μ
                            refine zq_gfr hc hH (by rfl) (ci := 1) (f := 0) (q := 19 + 8 * s) (by rfl) (sj (P := fun i => okf 79 1 0 (18 + 8 * i)) hs4 (by decide +kernel)) (by rfl) (sj (P := fun i => Nat.beq (z_gr (18 + 8 * i) 0) (19 + 8 * i)) hs4 (by decide +kernel)) ?_
                            refine z_rcs hc hH 5 (pc' := 125) (lv' := [(4, .long ((1 <<< ((nI c).toInt64 &&& 63)) ||| oe)), (3, .ref (20 + 8 * s)), (0, .ref 0), (1, .int (nI s)), (2, .int (nI l))]) (st' := [.ref 0, .long 1, .long (7 <<< ((nI l).toInt64 &&& 63)), .ref (19 + 8 * s)]) (μ' := μ) (by rfl) ?_
                            refine zq_gfi hc hH (by rfl) (ci := 5) (f := 15) (by rfl) (by decide +kernel) (by rfl) ?_
                            rw [hc15]
                            refine z_rcs hc hH 5 (pc' := 136) (lv' := [(4, .long ((1 <<< ((nI c).toInt64 &&& 63)) ||| oe)), (3, .ref (20 + 8 * s)), (0, .ref 0), (1, .int (nI s)), (2, .int (nI l))]) (st' := [.long ((1 <<< ((nI c).toInt64 &&& 63)) ||| oe), .long ((7 <<< ((nI l).toInt64 &&& 63)) &&& ((1 <<< ((nI c).toInt64 &&& 63)) ^^^ (-1))), .ref (19 + 8 * s)]) (μ' := μ) (by rfl) ?_
                            refine zq_call hc (z_cx_ok hH (by rfl)) (hko d' (by omega)) (by decide +kernel) (fun r9 μ9 hq => ?_)
                            obtain ⟨hμ9, rfl⟩ := hq
                            rw [hμ9]
                            clear hμ9 μ9
                            show Z 0 139 [(4, .long ((1 <<< ((nI c).toInt64 &&& 63)) ||| oe)), (3, .ref (20 + 8 * s)), (0, .ref 0), (1, .int (nI s)), (2, .int (nI l))] [.int (nB ko)] μ
                            refine zq_if hc hH (by rfl) (tg := 144) (by rfl) (fun h31 => ?_) (fun h31 => ?_)
                            · have h31 : (ko) = true := nB_n.mp (cm_ne.mp h31)
                              refine z_rcs hc hH 4 (pc' := 148) (lv' := [(4, .long ((1 <<< ((nI c).toInt64 &&& 63)) ||| oe)), (3, .ref (20 + 8 * s)), (0, .ref 0), (1, .int (nI s)), (2, .int (nI l))]) (st' := [.int (nI l), .int 0, .int (nI s), .ref 0]) (μ' := μ) (by rfl) ?_
                              refine zq_call hc (z_cx_ok hH (by rfl)) (gc_takeSet d' (by omega) μ s l q 0 hs4 ham hq3 e4 t c u1 u2 u3 c1 c2 c3 ht4 ht hc34 hc15 hu1 hu14 hw1 hu2 hu24 hw2 hu3 hu34 hw3) (by decide +kernel) (fun r9 μ9 hq => ?_)
                              obtain ⟨rfl, rfl⟩ := hq
                              show Z 0 151 [(4, .long ((1 <<< ((nI c).toInt64 &&& 63)) ||| oe)), (3, .ref (20 + 8 * s)), (0, .ref 0), (1, .int (nI s)), (2, .int (nI l))] [] (tkS μ s l q 0 t c u1 u2 u3 c1 c2 c3)
                              refine z_rcs0 hc hH 2 (pc' := 154) (lv' := [(4, .long ((1 <<< ((nI c).toInt64 &&& 63)) ||| oe)), (3, .ref (20 + 8 * s)), (0, .ref 0), (1, .int (nI s)), (2, .int (nI l))]) (st' := [.long ((1 <<< ((nI c).toInt64 &&& 63)) ||| oe), .ref 0]) (by rfl) ?_
                              refine zq_pfl hc hH (by rfl) (ci := 5) (f := 18) (by rfl) (by decide +kernel) (by rfl) ?_
                              show Z 0 157 [(4, .long ((1 <<< ((nI c).toInt64 &&& 63)) ||| oe)), (3, .ref (20 + 8 * s)), (0, .ref 0), (1, .int (nI s)), (2, .int (nI l))] [] (z_uj (tkS μ s l q 0 t c u1 u2 u3 c1 c2 c3) 0 18 ((1 <<< ((nI c).toInt64 &&& 63)) ||| oe))
                              refine z_rcs0 hc hH 1 (pc' := 158) (lv' := [(4, .long ((1 <<< ((nI c).toInt64 &&& 63)) ||| oe)), (3, .ref (20 + 8 * s)), (0, .ref 0), (1, .int (nI s)), (2, .int (nI l))]) (st' := [.int 1]) (by rfl) ?_
                              exact hr 0 158 _ _ _ (some (.int 1)) (by decide +kernel) (z_rx_ok hH (by rfl)) (⟨(by first | with_reducible rfl | (simp only [h1, h2, h3, h4, h5, h7, h25, h27, h29, h31, cond_true, cond_false]; done) | rfl), (by simp only [h1, h2, h3, h4, h5, h7, h25, h27, h29, h31, cond_true, cond_false])⟩)
                            · have h31 : (ko) = false := nB_z.mp (cn_ne.mp h31)
                              refine z_rcs hc hH 1 (pc' := 143) (lv' := [(4, .long ((1 <<< ((nI c).toInt64 &&& 63)) ||| oe)), (3, .ref (20 + 8 * s)), (0, .ref 0), (1, .int (nI s)), (2, .int (nI l))]) (st' := [.int 0]) (μ' := μ) (by rfl) ?_
                              exact hr 0 143 _ _ _ (some (.int 0)) (by decide +kernel) (z_rx_ok hH (by rfl)) (⟨(by first | with_reducible rfl | (simp only [h1, h2, h3, h4, h5, h7, h25, h27, h29, h31, cond_true, cond_false]; done) | rfl), (by simp only [h1, h2, h3, h4, h5, h7, h25, h27, h29, h31, cond_true, cond_false])⟩)
                          · have h30 : (decide ((nI (l + 2)) < (nI (l + 3)))) = false := decide_eq_false (cn_gt.mp h30)
                            exact absurd (Eq.trans (Eq.symm (kn_ln (by omega) (by omega) (by omega))) h30) (by decide)
                        · have h29 : (decide ((nI (l + 2)) = (nI c))) = false := decide_eq_false (cn_eq.mp h29)
                          refine z_rcs hc hH 2 (pc' := 84) (lv' := [(4, .int (nI (l + 2))), (3, .ref (20 + 8 * s)), (0, .ref 0), (1, .int (nI s)), (2, .int (nI l))]) (st' := [.int (nI (l + 2)), .ref (20 + 8 * s)]) (μ' := μ) (by rfl) ?_
                          refine zq_iald hc hH (by rfl) 34 (oka_i (sj (P := fun i => oka 79 1 34 (20 + 8 * i)) hs4 (by decide +kernel))) (vp_in_nI (by omega) (by decide)) ?_
                          rw [nI_clamp (by omega)]
                          refine zq_if hc hH (by rfl) (tg := 90) (by rfl) (fun h32 => ?_) (fun h32 => ?_)
                          · have h32 : (decide ((μ.1 (20 + 8 * s) (l + 2)) = 0)) = false := decide_eq_false (cm_ne.mp h32)
                            refine z_rcs hc hH 3 (pc' := 66) (lv' := [(4, .int ((nI (l + 2)) + 1)), (3, .ref (20 + 8 * s)), (0, .ref 0), (1, .int (nI s)), (2, .int (nI l))]) (st' := [.int ((nI (l + 2)) + 1)]) (μ' := μ) (by rfl) ?_
                            rw [show nI (l + 2) + 1 = nI (l + 3) from nI_s1 _]
                            refine z_rcs hc hH 3 (pc' := 69) (lv' := [(4, .int (nI (l + 3))), (3, .ref (20 + 8 * s)), (0, .ref 0), (1, .int (nI s)), (2, .int (nI l))]) (st' := [.int ((nI l) + 2), .int (nI (l + 3))]) (μ' := μ) (by rfl) ?_
                            rw [show nI l + 2 = nI (l + 2) from by rw [show (2 : Int32) = nI 2 from rfl, nI_add]]
                            refine zq_ic hc hH (by rfl) (tg := 96) (by rfl) (fun h33 => ?_) (fun h33 => ?_)
                            · have h33 : (decide ((nI (l + 2)) < (nI (l + 3)))) = true := decide_eq_true (cm_gt.mp h33)
                              refine z_rcs hc hH 2 (pc' := 98) (lv' := [(4, .int (nI (l + 3))), (3, .ref (20 + 8 * s)), (0, .ref 0), (1, .int (nI s)), (2, .int (nI l))]) (st' := [.ref 0, .long 1]) (μ' := μ) (by rfl) ?_
                              refine zq_gfi hc hH (by rfl) (ci := 5) (f := 15) (by rfl) (by decide +kernel) (by rfl) ?_
                              rw [hc15]
                              refine z_rcs hc hH 3 (pc' := 104) (lv' := [(4, .int (nI (l + 3))), (3, .ref (20 + 8 * s)), (0, .ref 0), (1, .int (nI s)), (2, .int (nI l))]) (st' := [.int (nI l), .ref 0, .long (1 <<< ((nI c).toInt64 &&& 63))]) (μ' := μ) (by rfl) ?_
                              refine zq_call hc (z_cx_ok hH (by rfl)) (hoe d' (by omega)) (by decide +kernel) (fun r9 μ9 hq => ?_)
                              obtain ⟨hμ9, rfl⟩ := hq
                              rw [hμ9]
                              clear hμ9 μ9
                              show Z 0 107 [(4, .int (nI (l + 3))), (3, .ref (20 + 8 * s)), (0, .ref 0), (1, .int (nI s)), (2, .int (nI l))] [.long oe, .long (1 <<< ((nI c).toInt64 &&& 63))] μ
                              refine z_rcs hc hH 4 (pc' := 112) (lv' := [(4, .long ((1 <<< ((nI c).toInt64 &&& 63)) ||| oe)), (3, .ref (20 + 8 * s)), (0, .ref 0), (1, .int (nI s)), (2, .int (nI l))]) (st' := [.int (nI s), .ref 0]) (μ' := μ) (by rfl) ?_
                              refine zq_call hc (z_cx_ok hH (by rfl)) (gc_at4 d' (by omega) μ s hs4) (by decide +kernel) (fun r9 μ9 hq => ?_)
                              obtain ⟨hμ9, rfl⟩ := hq
                              rw [hμ9]
                              clear hμ9 μ9
                              show Z 0 115 [(4, .long ((1 <<< ((nI c).toInt64 &&& 63)) ||| oe)), (3, .ref (20 + 8 * s)), (0, .ref 0), (1, .int (nI s)), (2, .int (nI l))] [.ref (18 + 8 * s)] μ
                              refine zq_gfr hc hH (by rfl) (ci := 1) (f := 0) (q := 19 + 8 * s) (by rfl) (sj (P := fun i => okf 79 1 0 (18 + 8 * i)) hs4 (by decide +kernel)) (by rfl) (sj (P := fun i => Nat.beq (z_gr (18 + 8 * i) 0) (19 + 8 * i)) hs4 (by decide +kernel)) ?_
                              refine z_rcs hc hH 5 (pc' := 125) (lv' := [(4, .long ((1 <<< ((nI c).toInt64 &&& 63)) ||| oe)), (3, .ref (20 + 8 * s)), (0, .ref 0), (1, .int (nI s)), (2, .int (nI l))]) (st' := [.ref 0, .long 1, .long (7 <<< ((nI l).toInt64 &&& 63)), .ref (19 + 8 * s)]) (μ' := μ) (by rfl) ?_
                              refine zq_gfi hc hH (by rfl) (ci := 5) (f := 15) (by rfl) (by decide +kernel) (by rfl) ?_
                              rw [hc15]
                              refine z_rcs hc hH 5 (pc' := 136) (lv' := [(4, .long ((1 <<< ((nI c).toInt64 &&& 63)) ||| oe)), (3, .ref (20 + 8 * s)), (0, .ref 0), (1, .int (nI s)), (2, .int (nI l))]) (st' := [.long ((1 <<< ((nI c).toInt64 &&& 63)) ||| oe), .long ((7 <<< ((nI l).toInt64 &&& 63)) &&& ((1 <<< ((nI c).toInt64 &&& 63)) ^^^ (-1))), .ref (19 + 8 * s)]) (μ' := μ) (by rfl) ?_
                              refine zq_call hc (z_cx_ok hH (by rfl)) (hko d' (by omega)) (by decide +kernel) (fun r9 μ9 hq => ?_)
                              obtain ⟨hμ9, rfl⟩ := hq
                              rw [hμ9]
                              clear hμ9 μ9
                              show Z 0 139 [(4, .long ((1 <<< ((nI c).toInt64 &&& 63)) ||| oe)), (3, .ref (20 + 8 * s)), (0, .ref 0), (1, .int (nI s)), (2, .int (nI l))] [.int (nB ko)] μ
                              refine zq_if hc hH (by rfl) (tg := 144) (by rfl) (fun h34 => ?_) (fun h34 => ?_)
                              · have h34 : (ko) = true := nB_n.mp (cm_ne.mp h34)
                                refine z_rcs hc hH 4 (pc' := 148) (lv' := [(4, .long ((1 <<< ((nI c).toInt64 &&& 63)) ||| oe)), (3, .ref (20 + 8 * s)), (0, .ref 0), (1, .int (nI s)), (2, .int (nI l))]) (st' := [.int (nI l), .int 0, .int (nI s), .ref 0]) (μ' := μ) (by rfl) ?_
                                refine zq_call hc (z_cx_ok hH (by rfl)) (gc_takeSet d' (by omega) μ s l q 0 hs4 ham hq3 e4 t c u1 u2 u3 c1 c2 c3 ht4 ht hc34 hc15 hu1 hu14 hw1 hu2 hu24 hw2 hu3 hu34 hw3) (by decide +kernel) (fun r9 μ9 hq => ?_)
                                obtain ⟨rfl, rfl⟩ := hq
                                show Z 0 151 [(4, .long ((1 <<< ((nI c).toInt64 &&& 63)) ||| oe)), (3, .ref (20 + 8 * s)), (0, .ref 0), (1, .int (nI s)), (2, .int (nI l))] [] (tkS μ s l q 0 t c u1 u2 u3 c1 c2 c3)
                                refine z_rcs0 hc hH 2 (pc' := 154) (lv' := [(4, .long ((1 <<< ((nI c).toInt64 &&& 63)) ||| oe)), (3, .ref (20 + 8 * s)), (0, .ref 0), (1, .int (nI s)), (2, .int (nI l))]) (st' := [.long ((1 <<< ((nI c).toInt64 &&& 63)) ||| oe), .ref 0]) (by rfl) ?_
                                refine zq_pfl hc hH (by rfl) (ci := 5) (f := 18) (by rfl) (by decide +kernel) (by rfl) ?_
                                show Z 0 157 [(4, .long ((1 <<< ((nI c).toInt64 &&& 63)) ||| oe)), (3, .ref (20 + 8 * s)), (0, .ref 0), (1, .int (nI s)), (2, .int (nI l))] [] (z_uj (tkS μ s l q 0 t c u1 u2 u3 c1 c2 c3) 0 18 ((1 <<< ((nI c).toInt64 &&& 63)) ||| oe))
                                refine z_rcs0 hc hH 1 (pc' := 158) (lv' := [(4, .long ((1 <<< ((nI c).toInt64 &&& 63)) ||| oe)), (3, .ref (20 + 8 * s)), (0, .ref 0), (1, .int (nI s)), (2, .int (nI l))]) (st' := [.int 1]) (by rfl) ?_
                                exact hr 0 158 _ _ _ (some (.int 1)) (by decide +kernel) (z_rx_ok hH (by rfl)) (⟨(by first | with_reducible rfl | (simp only [h1, h2, h3, h4, h5, h7, h25, h27, h29, h32, h34, cond_true, cond_false]; done) | rfl), (by simp only [h1, h2, h3, h4, h5, h7, h25, h27, h29, h32, h34, cond_true, cond_false])⟩)
                              · have h34 : (ko) = false := nB_z.mp (cn_ne.mp h34)
                                refine z_rcs hc hH 1 (pc' := 143) (lv' := [(4, .long ((1 <<< ((nI c).toInt64 &&& 63)) ||| oe)), (3, .ref (20 + 8 * s)), (0, .ref 0), (1, .int (nI s)), (2, .int (nI l))]) (st' := [.int 0]) (μ' := μ) (by rfl) ?_
                                exact hr 0 143 _ _ _ (some (.int 0)) (by decide +kernel) (z_rx_ok hH (by rfl)) (⟨(by first | with_reducible rfl | (simp only [h1, h2, h3, h4, h5, h7, h25, h27, h29, h32, h34, cond_true, cond_false]; done) | rfl), (by simp only [h1, h2, h3, h4, h5, h7, h25, h27, h29, h32, h34, cond_true, cond_false])⟩)
                            · have h33 : (decide ((nI (l + 2)) < (nI (l + 3)))) = false := decide_eq_false (cn_gt.mp h33)
                              exact absurd (Eq.trans (Eq.symm (kn_ln (by omega) (by omega) (by omega))) h33) (by decide)
                          · have h32 : (decide ((μ.1 (20 + 8 * s) (l + 2)) = 0)) = true := decide_eq_true (cn_ne.mp h32)
                            refine z_rcs hc hH 1 (pc' := 89) (lv' := [(4, .int (nI (l + 2))), (3, .ref (20 + 8 * s)), (0, .ref 0), (1, .int (nI s)), (2, .int (nI l))]) (st' := [.int 0]) (μ' := μ) (by rfl) ?_
                            exact hr 0 89 _ _ _ (some (.int 0)) (by decide +kernel) (z_rx_ok hH (by rfl)) (⟨(by first | with_reducible rfl | (simp only [h1, h2, h3, h4, h5, h7, h25, h27, h29, h32, cond_true, cond_false]; done) | rfl), (by simp only [h1, h2, h3, h4, h5, h7, h25, h27, h29, h32, cond_true, cond_false])⟩)
                    · have h27 : (decide ((nI (l + 1)) = (nI c))) = false := decide_eq_false (cn_eq.mp h27)
                      refine z_rcs hc hH 2 (pc' := 84) (lv' := [(4, .int (nI (l + 1))), (3, .ref (20 + 8 * s)), (0, .ref 0), (1, .int (nI s)), (2, .int (nI l))]) (st' := [.int (nI (l + 1)), .ref (20 + 8 * s)]) (μ' := μ) (by rfl) ?_
                      refine zq_iald hc hH (by rfl) 34 (oka_i (sj (P := fun i => oka 79 1 34 (20 + 8 * i)) hs4 (by decide +kernel))) (vp_in_nI (by omega) (by decide)) ?_
                      rw [nI_clamp (by omega)]
                      refine zq_if hc hH (by rfl) (tg := 90) (by rfl) (fun h35 => ?_) (fun h35 => ?_)
                      · have h35 : (decide ((μ.1 (20 + 8 * s) (l + 1)) = 0)) = false := decide_eq_false (cm_ne.mp h35)
                        refine z_rcs hc hH 3 (pc' := 66) (lv' := [(4, .int ((nI (l + 1)) + 1)), (3, .ref (20 + 8 * s)), (0, .ref 0), (1, .int (nI s)), (2, .int (nI l))]) (st' := [.int ((nI (l + 1)) + 1)]) (μ' := μ) (by rfl) ?_
                        rw [show nI (l + 1) + 1 = nI (l + 2) from nI_s1 _]
                        refine z_rcs hc hH 3 (pc' := 69) (lv' := [(4, .int (nI (l + 2))), (3, .ref (20 + 8 * s)), (0, .ref 0), (1, .int (nI s)), (2, .int (nI l))]) (st' := [.int ((nI l) + 2), .int (nI (l + 2))]) (μ' := μ) (by rfl) ?_
                        rw [show nI l + 2 = nI (l + 2) from by rw [show (2 : Int32) = nI 2 from rfl, nI_add]]
                        refine zq_ic hc hH (by rfl) (tg := 96) (by rfl) (fun h36 => ?_) (fun h36 => ?_)
                        · have h36 : (decide ((nI (l + 2)) < (nI (l + 2)))) = true := decide_eq_true (cm_gt.mp h36)
                          exact absurd (Eq.trans (Eq.symm (kn_nn (by omega) (by omega) (by omega))) h36) (by decide)
                        · have h36 : (decide ((nI (l + 2)) < (nI (l + 2)))) = false := decide_eq_false (cn_gt.mp h36)
                          refine z_rcs hc hH 2 (pc' := 75) (lv' := [(4, .int (nI (l + 2))), (3, .ref (20 + 8 * s)), (0, .ref 0), (1, .int (nI s)), (2, .int (nI l))]) (st' := [.ref 0, .int (nI (l + 2))]) (μ' := μ) (by rfl) ?_
                          refine zq_gfi hc hH (by rfl) (ci := 5) (f := 15) (by rfl) (by decide +kernel) (by rfl) ?_
                          rw [hc15]
                          refine zq_ic hc hH (by rfl) (tg := 90) (by rfl) (fun h37 => ?_) (fun h37 => ?_)
                          · have h37 : (decide ((nI (l + 2)) = (nI c))) = true := decide_eq_true (cm_eq9.mp h37)
                            refine z_rcs hc hH 3 (pc' := 66) (lv' := [(4, .int ((nI (l + 2)) + 1)), (3, .ref (20 + 8 * s)), (0, .ref 0), (1, .int (nI s)), (2, .int (nI l))]) (st' := [.int ((nI (l + 2)) + 1)]) (μ' := μ) (by rfl) ?_
                            rw [show nI (l + 2) + 1 = nI (l + 3) from nI_s1 _]
                            refine z_rcs hc hH 3 (pc' := 69) (lv' := [(4, .int (nI (l + 3))), (3, .ref (20 + 8 * s)), (0, .ref 0), (1, .int (nI s)), (2, .int (nI l))]) (st' := [.int ((nI l) + 2), .int (nI (l + 3))]) (μ' := μ) (by rfl) ?_
                            rw [show nI l + 2 = nI (l + 2) from by rw [show (2 : Int32) = nI 2 from rfl, nI_add]]
                            refine zq_ic hc hH (by rfl) (tg := 96) (by rfl) (fun h38 => ?_) (fun h38 => ?_)
                            · have h38 : (decide ((nI (l + 2)) < (nI (l + 3)))) = true := decide_eq_true (cm_gt.mp h38)
                              refine z_rcs hc hH 2 (pc' := 98) (lv' := [(4, .int (nI (l + 3))), (3, .ref (20 + 8 * s)), (0, .ref 0), (1, .int (nI s)), (2, .int (nI l))]) (st' := [.ref 0, .long 1]) (μ' := μ) (by rfl) ?_
                              refine zq_gfi hc hH (by rfl) (ci := 5) (f := 15) (by rfl) (by decide +kernel) (by rfl) ?_
                              rw [hc15]
                              refine z_rcs hc hH 3 (pc' := 104) (lv' := [(4, .int (nI (l + 3))), (3, .ref (20 + 8 * s)), (0, .ref 0), (1, .int (nI s)), (2, .int (nI l))]) (st' := [.int (nI l), .ref 0, .long (1 <<< ((nI c).toInt64 &&& 63))]) (μ' := μ) (by rfl) ?_
                              refine zq_call hc (z_cx_ok hH (by rfl)) (hoe d' (by omega)) (by decide +kernel) (fun r9 μ9 hq => ?_)
                              obtain ⟨hμ9, rfl⟩ := hq
                              rw [hμ9]
                              clear hμ9 μ9
                              show Z 0 107 [(4, .int (nI (l + 3))), (3, .ref (20 + 8 * s)), (0, .ref 0), (1, .int (nI s)), (2, .int (nI l))] [.long oe, .long (1 <<< ((nI c).toInt64 &&& 63))] μ
                              refine z_rcs hc hH 4 (pc' := 112) (lv' := [(4, .long ((1 <<< ((nI c).toInt64 &&& 63)) ||| oe)), (3, .ref (20 + 8 * s)), (0, .ref 0), (1, .int (nI s)), (2, .int (nI l))]) (st' := [.int (nI s), .ref 0]) (μ' := μ) (by rfl) ?_
                              refine zq_call hc (z_cx_ok hH (by rfl)) (gc_at4 d' (by omega) μ s hs4) (by decide +kernel) (fun r9 μ9 hq => ?_)
                              obtain ⟨hμ9, rfl⟩ := hq
                              rw [hμ9]
                              clear hμ9 μ9
                              show Z 0 115 [(4, .long ((1 <<< ((nI c).toInt64 &&& 63)) ||| oe)), (3, .ref (20 + 8 * s)), (0, .ref 0), (1, .int (nI s)), (2, .int (nI l))] [.ref (18 + 8 * s)] μ
                              refine zq_gfr hc hH (by rfl) (ci := 1) (f := 0) (q := 19 + 8 * s) (by rfl) (sj (P := fun i => okf 79 1 0 (18 + 8 * i)) hs4 (by decide +kernel)) (by rfl) (sj (P := fun i => Nat.beq (z_gr (18 + 8 * i) 0) (19 + 8 * i)) hs4 (by decide +kernel)) ?_
                              refine z_rcs hc hH 5 (pc' := 125) (lv' := [(4, .long ((1 <<< ((nI c).toInt64 &&& 63)) ||| oe)), (3, .ref (20 + 8 * s)), (0, .ref 0), (1, .int (nI s)), (2, .int (nI l))]) (st' := [.ref 0, .long 1, .long (7 <<< ((nI l).toInt64 &&& 63)), .ref (19 + 8 * s)]) (μ' := μ) (by rfl) ?_
                              refine zq_gfi hc hH (by rfl) (ci := 5) (f := 15) (by rfl) (by decide +kernel) (by rfl) ?_
                              rw [hc15]
                              refine z_rcs hc hH 5 (pc' := 136) (lv' := [(4, .long ((1 <<< ((nI c).toInt64 &&& 63)) ||| oe)), (3, .ref (20 + 8 * s)), (0, .ref 0), (1, .int (nI s)), (2, .int (nI l))]) (st' := [.long ((1 <<< ((nI c).toInt64 &&& 63)) ||| oe), .long ((7 <<< ((nI l).toInt64 &&& 63)) &&& ((1 <<< ((nI c).toInt64 &&& 63)) ^^^ (-1))), .ref (19 + 8 * s)]) (μ' := μ) (by rfl) ?_
                              refine zq_call hc (z_cx_ok hH (by rfl)) (hko d' (by omega)) (by decide +kernel) (fun r9 μ9 hq => ?_)
                              obtain ⟨hμ9, rfl⟩ := hq
                              rw [hμ9]
                              clear hμ9 μ9
                              show Z 0 139 [(4, .long ((1 <<< ((nI c).toInt64 &&& 63)) ||| oe)), (3, .ref (20 + 8 * s)), (0, .ref 0), (1, .int (nI s)), (2, .int (nI l))] [.int (nB ko)] μ
                              refine zq_if hc hH (by rfl) (tg := 144) (by rfl) (fun h39 => ?_) (fun h39 => ?_)
                              · have h39 : (ko) = true := nB_n.mp (cm_ne.mp h39)
                                refine z_rcs hc hH 4 (pc' := 148) (lv' := [(4, .long ((1 <<< ((nI c).toInt64 &&& 63)) ||| oe)), (3, .ref (20 + 8 * s)), (0, .ref 0), (1, .int (nI s)), (2, .int (nI l))]) (st' := [.int (nI l), .int 0, .int (nI s), .ref 0]) (μ' := μ) (by rfl) ?_
                                refine zq_call hc (z_cx_ok hH (by rfl)) (gc_takeSet d' (by omega) μ s l q 0 hs4 ham hq3 e4 t c u1 u2 u3 c1 c2 c3 ht4 ht hc34 hc15 hu1 hu14 hw1 hu2 hu24 hw2 hu3 hu34 hw3) (by decide +kernel) (fun r9 μ9 hq => ?_)
                                obtain ⟨rfl, rfl⟩ := hq
                                show Z 0 151 [(4, .long ((1 <<< ((nI c).toInt64 &&& 63)) ||| oe)), (3, .ref (20 + 8 * s)), (0, .ref 0), (1, .int (nI s)), (2, .int (nI l))] [] (tkS μ s l q 0 t c u1 u2 u3 c1 c2 c3)
                                refine z_rcs0 hc hH 2 (pc' := 154) (lv' := [(4, .long ((1 <<< ((nI c).toInt64 &&& 63)) ||| oe)), (3, .ref (20 + 8 * s)), (0, .ref 0), (1, .int (nI s)), (2, .int (nI l))]) (st' := [.long ((1 <<< ((nI c).toInt64 &&& 63)) ||| oe), .ref 0]) (by rfl) ?_
                                refine zq_pfl hc hH (by rfl) (ci := 5) (f := 18) (by rfl) (by decide +kernel) (by rfl) ?_
                                show Z 0 157 [(4, .long ((1 <<< ((nI c).toInt64 &&& 63)) ||| oe)), (3, .ref (20 + 8 * s)), (0, .ref 0), (1, .int (nI s)), (2, .int (nI l))] [] (z_uj (tkS μ s l q 0 t c u1 u2 u3 c1 c2 c3) 0 18 ((1 <<< ((nI c).toInt64 &&& 63)) ||| oe))
                                refine z_rcs0 hc hH 1 (pc' := 158) (lv' := [(4, .long ((1 <<< ((nI c).toInt64 &&& 63)) ||| oe)), (3, .ref (20 + 8 * s)), (0, .ref 0), (1, .int (nI s)), (2, .int (nI l))]) (st' := [.int 1]) (by rfl) ?_
                                exact hr 0 158 _ _ _ (some (.int 1)) (by decide +kernel) (z_rx_ok hH (by rfl)) (⟨(by first | with_reducible rfl | (simp only [h1, h2, h3, h4, h5, h7, h25, h27, h35, h37, h39, cond_true, cond_false]; done) | rfl), (by simp only [h1, h2, h3, h4, h5, h7, h25, h27, h35, h37, h39, cond_true, cond_false])⟩)
                              · have h39 : (ko) = false := nB_z.mp (cn_ne.mp h39)
                                refine z_rcs hc hH 1 (pc' := 143) (lv' := [(4, .long ((1 <<< ((nI c).toInt64 &&& 63)) ||| oe)), (3, .ref (20 + 8 * s)), (0, .ref 0), (1, .int (nI s)), (2, .int (nI l))]) (st' := [.int 0]) (μ' := μ) (by rfl) ?_
                                exact hr 0 143 _ _ _ (some (.int 0)) (by decide +kernel) (z_rx_ok hH (by rfl)) (⟨(by first | with_reducible rfl | (simp only [h1, h2, h3, h4, h5, h7, h25, h27, h35, h37, h39, cond_true, cond_false]; done) | rfl), (by simp only [h1, h2, h3, h4, h5, h7, h25, h27, h35, h37, h39, cond_true, cond_false])⟩)
                            · have h38 : (decide ((nI (l + 2)) < (nI (l + 3)))) = false := decide_eq_false (cn_gt.mp h38)
                              exact absurd (Eq.trans (Eq.symm (kn_ln (by omega) (by omega) (by omega))) h38) (by decide)
                          · have h37 : (decide ((nI (l + 2)) = (nI c))) = false := decide_eq_false (cn_eq.mp h37)
                            refine z_rcs hc hH 2 (pc' := 84) (lv' := [(4, .int (nI (l + 2))), (3, .ref (20 + 8 * s)), (0, .ref 0), (1, .int (nI s)), (2, .int (nI l))]) (st' := [.int (nI (l + 2)), .ref (20 + 8 * s)]) (μ' := μ) (by rfl) ?_
                            refine zq_iald hc hH (by rfl) 34 (oka_i (sj (P := fun i => oka 79 1 34 (20 + 8 * i)) hs4 (by decide +kernel))) (vp_in_nI (by omega) (by decide)) ?_
                            rw [nI_clamp (by omega)]
                            refine zq_if hc hH (by rfl) (tg := 90) (by rfl) (fun h40 => ?_) (fun h40 => ?_)
                            · have h40 : (decide ((μ.1 (20 + 8 * s) (l + 2)) = 0)) = false := decide_eq_false (cm_ne.mp h40)
                              refine z_rcs hc hH 3 (pc' := 66) (lv' := [(4, .int ((nI (l + 2)) + 1)), (3, .ref (20 + 8 * s)), (0, .ref 0), (1, .int (nI s)), (2, .int (nI l))]) (st' := [.int ((nI (l + 2)) + 1)]) (μ' := μ) (by rfl) ?_
                              rw [show nI (l + 2) + 1 = nI (l + 3) from nI_s1 _]
                              refine z_rcs hc hH 3 (pc' := 69) (lv' := [(4, .int (nI (l + 3))), (3, .ref (20 + 8 * s)), (0, .ref 0), (1, .int (nI s)), (2, .int (nI l))]) (st' := [.int ((nI l) + 2), .int (nI (l + 3))]) (μ' := μ) (by rfl) ?_
                              rw [show nI l + 2 = nI (l + 2) from by rw [show (2 : Int32) = nI 2 from rfl, nI_add]]
                              refine zq_ic hc hH (by rfl) (tg := 96) (by rfl) (fun h41 => ?_) (fun h41 => ?_)
                              · have h41 : (decide ((nI (l + 2)) < (nI (l + 3)))) = true := decide_eq_true (cm_gt.mp h41)
                                refine z_rcs hc hH 2 (pc' := 98) (lv' := [(4, .int (nI (l + 3))), (3, .ref (20 + 8 * s)), (0, .ref 0), (1, .int (nI s)), (2, .int (nI l))]) (st' := [.ref 0, .long 1]) (μ' := μ) (by rfl) ?_
                                refine zq_gfi hc hH (by rfl) (ci := 5) (f := 15) (by rfl) (by decide +kernel) (by rfl) ?_
                                rw [hc15]
                                refine z_rcs hc hH 3 (pc' := 104) (lv' := [(4, .int (nI (l + 3))), (3, .ref (20 + 8 * s)), (0, .ref 0), (1, .int (nI s)), (2, .int (nI l))]) (st' := [.int (nI l), .ref 0, .long (1 <<< ((nI c).toInt64 &&& 63))]) (μ' := μ) (by rfl) ?_
                                refine zq_call hc (z_cx_ok hH (by rfl)) (hoe d' (by omega)) (by decide +kernel) (fun r9 μ9 hq => ?_)
                                obtain ⟨hμ9, rfl⟩ := hq
                                rw [hμ9]
                                clear hμ9 μ9
                                show Z 0 107 [(4, .int (nI (l + 3))), (3, .ref (20 + 8 * s)), (0, .ref 0), (1, .int (nI s)), (2, .int (nI l))] [.long oe, .long (1 <<< ((nI c).toInt64 &&& 63))] μ
                                refine z_rcs hc hH 4 (pc' := 112) (lv' := [(4, .long ((1 <<< ((nI c).toInt64 &&& 63)) ||| oe)), (3, .ref (20 + 8 * s)), (0, .ref 0), (1, .int (nI s)), (2, .int (nI l))]) (st' := [.int (nI s), .ref 0]) (μ' := μ) (by rfl) ?_
                                refine zq_call hc (z_cx_ok hH (by rfl)) (gc_at4 d' (by omega) μ s hs4) (by decide +kernel) (fun r9 μ9 hq => ?_)
                                obtain ⟨hμ9, rfl⟩ := hq
                                rw [hμ9]
                                clear hμ9 μ9
                                show Z 0 115 [(4, .long ((1 <<< ((nI c).toInt64 &&& 63)) ||| oe)), (3, .ref (20 + 8 * s)), (0, .ref 0), (1, .int (nI s)), (2, .int (nI l))] [.ref (18 + 8 * s)] μ
                                refine zq_gfr hc hH (by rfl) (ci := 1) (f := 0) (q := 19 + 8 * s) (by rfl) (sj (P := fun i => okf 79 1 0 (18 + 8 * i)) hs4 (by decide +kernel)) (by rfl) (sj (P := fun i => Nat.beq (z_gr (18 + 8 * i) 0) (19 + 8 * i)) hs4 (by decide +kernel)) ?_
                                refine z_rcs hc hH 5 (pc' := 125) (lv' := [(4, .long ((1 <<< ((nI c).toInt64 &&& 63)) ||| oe)), (3, .ref (20 + 8 * s)), (0, .ref 0), (1, .int (nI s)), (2, .int (nI l))]) (st' := [.ref 0, .long 1, .long (7 <<< ((nI l).toInt64 &&& 63)), .ref (19 + 8 * s)]) (μ' := μ) (by rfl) ?_
                                refine zq_gfi hc hH (by rfl) (ci := 5) (f := 15) (by rfl) (by decide +kernel) (by rfl) ?_
                                rw [hc15]
                                refine z_rcs hc hH 5 (pc' := 136) (lv' := [(4, .long ((1 <<< ((nI c).toInt64 &&& 63)) ||| oe)), (3, .ref (20 + 8 * s)), (0, .ref 0), (1, .int (nI s)), (2, .int (nI l))]) (st' := [.long ((1 <<< ((nI c).toInt64 &&& 63)) ||| oe), .long ((7 <<< ((nI l).toInt64 &&& 63)) &&& ((1 <<< ((nI c).toInt64 &&& 63)) ^^^ (-1))), .ref (19 + 8 * s)]) (μ' := μ) (by rfl) ?_
                                refine zq_call hc (z_cx_ok hH (by rfl)) (hko d' (by omega)) (by decide +kernel) (fun r9 μ9 hq => ?_)
                                obtain ⟨hμ9, rfl⟩ := hq
                                rw [hμ9]
                                clear hμ9 μ9
                                show Z 0 139 [(4, .long ((1 <<< ((nI c).toInt64 &&& 63)) ||| oe)), (3, .ref (20 + 8 * s)), (0, .ref 0), (1, .int (nI s)), (2, .int (nI l))] [.int (nB ko)] μ
                                refine zq_if hc hH (by rfl) (tg := 144) (by rfl) (fun h42 => ?_) (fun h42 => ?_)
                                · have h42 : (ko) = true := nB_n.mp (cm_ne.mp h42)
                                  refine z_rcs hc hH 4 (pc' := 148) (lv' := [(4, .long ((1 <<< ((nI c).toInt64 &&& 63)) ||| oe)), (3, .ref (20 + 8 * s)), (0, .ref 0), (1, .int (nI s)), (2, .int (nI l))]) (st' := [.int (nI l), .int 0, .int (nI s), .ref 0]) (μ' := μ) (by rfl) ?_
                                  refine zq_call hc (z_cx_ok hH (by rfl)) (gc_takeSet d' (by omega) μ s l q 0 hs4 ham hq3 e4 t c u1 u2 u3 c1 c2 c3 ht4 ht hc34 hc15 hu1 hu14 hw1 hu2 hu24 hw2 hu3 hu34 hw3) (by decide +kernel) (fun r9 μ9 hq => ?_)
                                  obtain ⟨rfl, rfl⟩ := hq
                                  show Z 0 151 [(4, .long ((1 <<< ((nI c).toInt64 &&& 63)) ||| oe)), (3, .ref (20 + 8 * s)), (0, .ref 0), (1, .int (nI s)), (2, .int (nI l))] [] (tkS μ s l q 0 t c u1 u2 u3 c1 c2 c3)
                                  refine z_rcs0 hc hH 2 (pc' := 154) (lv' := [(4, .long ((1 <<< ((nI c).toInt64 &&& 63)) ||| oe)), (3, .ref (20 + 8 * s)), (0, .ref 0), (1, .int (nI s)), (2, .int (nI l))]) (st' := [.long ((1 <<< ((nI c).toInt64 &&& 63)) ||| oe), .ref 0]) (by rfl) ?_
                                  refine zq_pfl hc hH (by rfl) (ci := 5) (f := 18) (by rfl) (by decide +kernel) (by rfl) ?_
                                  show Z 0 157 [(4, .long ((1 <<< ((nI c).toInt64 &&& 63)) ||| oe)), (3, .ref (20 + 8 * s)), (0, .ref 0), (1, .int (nI s)), (2, .int (nI l))] [] (z_uj (tkS μ s l q 0 t c u1 u2 u3 c1 c2 c3) 0 18 ((1 <<< ((nI c).toInt64 &&& 63)) ||| oe))
                                  refine z_rcs0 hc hH 1 (pc' := 158) (lv' := [(4, .long ((1 <<< ((nI c).toInt64 &&& 63)) ||| oe)), (3, .ref (20 + 8 * s)), (0, .ref 0), (1, .int (nI s)), (2, .int (nI l))]) (st' := [.int 1]) (by rfl) ?_
                                  exact hr 0 158 _ _ _ (some (.int 1)) (by decide +kernel) (z_rx_ok hH (by rfl)) (⟨(by first | with_reducible rfl | (simp only [h1, h2, h3, h4, h5, h7, h25, h27, h35, h37, h40, h42, cond_true, cond_false]; done) | rfl), (by simp only [h1, h2, h3, h4, h5, h7, h25, h27, h35, h37, h40, h42, cond_true, cond_false])⟩)
                                · have h42 : (ko) = false := nB_z.mp (cn_ne.mp h42)
                                  refine z_rcs hc hH 1 (pc' := 143) (lv' := [(4, .long ((1 <<< ((nI c).toInt64 &&& 63)) ||| oe)), (3, .ref (20 + 8 * s)), (0, .ref 0), (1, .int (nI s)), (2, .int (nI l))]) (st' := [.int 0]) (μ' := μ) (by rfl) ?_
                                  exact hr 0 143 _ _ _ (some (.int 0)) (by decide +kernel) (z_rx_ok hH (by rfl)) (⟨(by first | with_reducible rfl | (simp only [h1, h2, h3, h4, h5, h7, h25, h27, h35, h37, h40, h42, cond_true, cond_false]; done) | rfl), (by simp only [h1, h2, h3, h4, h5, h7, h25, h27, h35, h37, h40, h42, cond_true, cond_false])⟩)
                              · have h41 : (decide ((nI (l + 2)) < (nI (l + 3)))) = false := decide_eq_false (cn_gt.mp h41)
                                exact absurd (Eq.trans (Eq.symm (kn_ln (by omega) (by omega) (by omega))) h41) (by decide)
                            · have h40 : (decide ((μ.1 (20 + 8 * s) (l + 2)) = 0)) = true := decide_eq_true (cn_ne.mp h40)
                              refine z_rcs hc hH 1 (pc' := 89) (lv' := [(4, .int (nI (l + 2))), (3, .ref (20 + 8 * s)), (0, .ref 0), (1, .int (nI s)), (2, .int (nI l))]) (st' := [.int 0]) (μ' := μ) (by rfl) ?_
                              exact hr 0 89 _ _ _ (some (.int 0)) (by decide +kernel) (z_rx_ok hH (by rfl)) (⟨(by first | with_reducible rfl | (simp only [h1, h2, h3, h4, h5, h7, h25, h27, h35, h37, h40, cond_true, cond_false]; done) | rfl), (by simp only [h1, h2, h3, h4, h5, h7, h25, h27, h35, h37, h40, cond_true, cond_false])⟩)
                      · have h35 : (decide ((μ.1 (20 + 8 * s) (l + 1)) = 0)) = true := decide_eq_true (cn_ne.mp h35)
                        refine z_rcs hc hH 1 (pc' := 89) (lv' := [(4, .int (nI (l + 1))), (3, .ref (20 + 8 * s)), (0, .ref 0), (1, .int (nI s)), (2, .int (nI l))]) (st' := [.int 0]) (μ' := μ) (by rfl) ?_
                        exact hr 0 89 _ _ _ (some (.int 0)) (by decide +kernel) (z_rx_ok hH (by rfl)) (⟨(by first | with_reducible rfl | (simp only [h1, h2, h3, h4, h5, h7, h25, h27, h35, cond_true, cond_false]; done) | rfl), (by simp only [h1, h2, h3, h4, h5, h7, h25, h27, h35, cond_true, cond_false])⟩)
                · have h25 : (decide ((μ.1 (20 + 8 * s) l) = 0)) = true := decide_eq_true (cn_ne.mp h25)
                  refine z_rcs hc hH 1 (pc' := 89) (lv' := [(4, .int (nI l)), (3, .ref (20 + 8 * s)), (0, .ref 0), (1, .int (nI s)), (2, .int (nI l))]) (st' := [.int 0]) (μ' := μ) (by rfl) ?_
                  exact hr 0 89 _ _ _ (some (.int 0)) (by decide +kernel) (z_rx_ok hH (by rfl)) (⟨(by first | with_reducible rfl | (simp only [h1, h2, h3, h4, h5, h7, h25, cond_true, cond_false]; done) | rfl), (by simp only [h1, h2, h3, h4, h5, h7, h25, cond_true, cond_false])⟩)
          · have h5 : (decide ((nI c) ≤ (nI (l + 2)))) = false := decide_eq_false (cn_le.mp h5)
            refine z_rcs hc hH 1 (pc' := 48) (lv' := [(0, .ref 0), (1, .int (nI s)), (2, .int (nI l))]) (st' := [.int 0]) (μ' := μ) (by rfl) ?_
            exact hr 0 48 _ _ _ (some (.int 0)) (by decide +kernel) (z_rx_ok hH (by rfl)) (⟨(by first | with_reducible rfl | (simp only [h1, h2, h3, h4, h5, cond_true, cond_false]; done) | rfl), (by simp only [h1, h2, h3, h4, h5, cond_true, cond_false])⟩)
      · have h3 : (sr) = false := nB_z.mp (cn_ne.mp h3)
        refine z_rcs hc hH 1 (pc' := 28) (lv' := [(0, .ref 0), (1, .int (nI s)), (2, .int (nI l))]) (st' := [.int 0]) (μ' := μ) (by rfl) ?_
        exact hr 0 28 _ _ _ (some (.int 0)) (by decide +kernel) (z_rx_ok hH (by rfl)) (⟨(by first | with_reducible rfl | (simp only [h1, h2, h3, cond_true, cond_false]; done) | rfl), (by simp only [h1, h2, h3, cond_true, cond_false])⟩)
/-! the game: questions of the class that a script asks -/
set_option maxRecDepth 8000
theorem zq_tsd {xs : Nat × (Nat → Int32)} {j : Nat} {C : Nat → List Value → zM → zQ → Prop} {Z : zK} {code : zT} {np oc nL : Nat} {b pc : Nat} {lv : zL} {μ : zM} (h : z_clo xs j C Z) (hH : zH j code np oc nL) {dflt lo hi : Int} {offs : Array Int} (hi1 : z_tk code.2.1 pc = some (.tableswitch dflt lo hi offs)) {x : Int32} {t : List Value} {tg : Nat} (ht : z_to pc dflt = some tg) (hx : (decide (x.toInt < lo) || decide (hi < x.toInt)) = true) (k : Z b tg lv t μ) : Z b pc lv (.int x :: t) μ := by
  refine zq_st h hH hi1 ?_ k
  show (match z_jp (.tableswitch dflt lo hi offs) pc (.int x :: t) with | some (pc', st') => some (pc', lv, st', μ) | none => _) = _
  unfold z_jp
  simp only [hx, cond_true, ht, Option.map_some]
theorem inOf3 {x m : Int32} {n : Nat} (hm : m.toInt = (n : Int)) (h1 : decide (x < 0) = false) (h2 : decide (x < m) = true) : vp_in x n := in_of hm (of_decide_eq_false h1) (fun e => by have := of_decide_eq_true h2; rw [Int32.lt_iff_toInt_lt] at this; rw [Int32.le_iff_toInt_le] at e; omega)
theorem gq_hand (d : Nat) (hd : 4 ≤ d) (μ : zM) (s : Nat) (hs4 : s < 4) (x : Int32) : z_C d mi_X6_hand [.ref 0, .int (nI s), .int x] μ (fun r μ' => r = some (.int (fr μ (20 + 8 * s) x)) ∧ μ' = μ) := by
  refine z_C_in (by decide) (by omega) (fun d' Z ed hc hr => ?_)
  have hH : zH mi_X6_hand zt_X6_hand 79 6 3 := hh_X6_hand
  refine z_rcs hc hH 1 (pc' := 1) (lv' := [(0, .ref 0), (1, .int (nI s)), (2, .int x)]) (st' := [.int (nI s)]) (μ' := μ) (by rfl) ?_
  refine zq_call hc (z_cx_ok hH (by rfl)) (gc_isSeat d' (by omega) μ (nI s)) (by decide +kernel) (fun r9 μ9 hq => ?_)
  obtain ⟨hμ9, rfl⟩ := hq
  rw [hμ9]
  clear hμ9 μ9
  show Z 0 4 [(0, .ref 0), (1, .int (nI s)), (2, .int x)] [.int (nB (sI (nI s)))] μ
  refine zq_if hc hH (by rfl) (tg := 22) (by rfl) (fun h1 => ?_) (fun h1 => ?_)
  · have h1 : (sI (nI s)) = false := nB_z.mp (cm_eq9.mp h1)
    exact absurd (Eq.trans (Eq.symm (sI_n hs4)) h1) (by decide)
  · have h1 : (sI (nI s)) = true := nB_n.mp (cn_eq.mp h1)
    refine z_rcs hc hH 2 (pc' := 9) (lv' := [(0, .ref 0), (1, .int (nI s)), (2, .int x)]) (st' := [.int (nI s), .ref 0]) (μ' := μ) (by rfl) ?_
    refine zq_call hc (z_cx_ok hH (by rfl)) (gc_at4 d' (by omega) μ s hs4) (by decide +kernel) (fun r9 μ9 hq => ?_)
    obtain ⟨hμ9, rfl⟩ := hq
    rw [hμ9]
    clear hμ9 μ9
    show Z 0 12 [(0, .ref 0), (1, .int (nI s)), (2, .int x)] [.ref (18 + 8 * s)] μ
    refine zq_gfr hc hH (by rfl) (ci := 1) (f := 0) (q := 19 + 8 * s) (by rfl) (sj (P := fun i => okf 79 1 0 (18 + 8 * i)) hs4 (by decide +kernel)) (by rfl) (sj (P := fun i => Nat.beq (z_gr (18 + 8 * i) 0) (19 + 8 * i)) hs4 (by decide +kernel)) ?_
    refine z_rcs hc hH 1 (pc' := 16) (lv' := [(0, .ref 0), (1, .int (nI s)), (2, .int x)]) (st' := [.int x, .ref (19 + 8 * s)]) (μ' := μ) (by rfl) ?_
    refine zq_call hc (z_clv9 hH (by rfl) (by rfl) (by rfl) (by rfl) (sj (P := fun i => okr 79 2 (19 + 8 * i)) hs4 (by decide +kernel)) (by rfl) (by rfl)) (gc_free d' (by omega) μ s hs4 x) (by decide +kernel) (fun r9 μ9 hq => ?_)
    obtain ⟨hμ9, rfl⟩ := hq
    rw [hμ9]
    clear hμ9 μ9
    show Z 0 19 [(0, .ref 0), (1, .int (nI s)), (2, .int x)] [.int (fr μ (20 + 8 * s) x)] μ
    refine z_rcs hc hH 1 (pc' := 23) (lv' := [(0, .ref 0), (1, .int (nI s)), (2, .int x)]) (st' := [.int (fr μ (20 + 8 * s) x)]) (μ' := μ) (by rfl) ?_
    exact hr 0 23 _ _ _ (some (.int (fr μ (20 + 8 * s) x))) (by decide +kernel) (z_rx_ok hH (by rfl)) (⟨rfl, rfl⟩)
theorem gq_hand0 (d : Nat) (hd : 4 ≤ d) (μ : zM) (x y : Int32) (hy : sI y = false) : z_C d mi_X6_hand [.ref 0, .int y, .int x] μ (fun r μ' => r = some (.int 0) ∧ μ' = μ) := by
  refine z_C_in (by decide) (by omega) (fun d' Z ed hc hr => ?_)
  have hH : zH mi_X6_hand zt_X6_hand 79 6 3 := hh_X6_hand
  refine z_rcs hc hH 1 (pc' := 1) (lv' := [(0, .ref 0), (1, .int y), (2, .int x)]) (st' := [.int y]) (μ' := μ) (by rfl) ?_
  refine zq_call hc (z_cx_ok hH (by rfl)) (gc_isSeat d' (by omega) μ y) (by decide +kernel) (fun r9 μ9 hq => ?_)
  obtain ⟨hμ9, rfl⟩ := hq
  rw [hμ9]
  clear hμ9 μ9
  show Z 0 4 [(0, .ref 0), (1, .int y), (2, .int x)] [.int (nB (sI y))] μ
  refine zq_if hc hH (by rfl) (tg := 22) (by rfl) (fun h1 => ?_) (fun h1 => ?_)
  · have h1 : (sI y) = false := nB_z.mp (cm_eq9.mp h1)
    refine z_rcs hc hH 1 (pc' := 23) (lv' := [(0, .ref 0), (1, .int y), (2, .int x)]) (st' := [.int 0]) (μ' := μ) (by rfl) ?_
    exact hr 0 23 _ _ _ (some (.int 0)) (by decide +kernel) (z_rx_ok hH (by rfl)) (⟨rfl, rfl⟩)
  · have h1 : (sI y) = true := nB_n.mp (cn_eq.mp h1)
    exact absurd (Eq.trans (Eq.symm (hy)) h1) (by decide)
theorem gq_laid (d : Nat) (hd : 4 ≤ d) (μ : zM) (s : Nat) (hs4 : s < 4) (x wh : Int32) : z_C d mi_X6_laid [.ref 0, .int (nI s), .int x, .int wh] μ (fun r μ' => r = some ((bif decide (x < 0) then .int (-1) else (bif decide ((μ.1 (19 + 8 * s) 4) ≤ x) then .int (-1) else (bif decide (x < 4) then (bif decide (wh = 0) then .int (μ.1 (22 + 8 * s) x.toNatClampNeg) else (bif decide (wh = 1) then .int (μ.1 (23 + 8 * s) x.toNatClampNeg) else .int (-1))) else .int (-1))))) ∧ μ' = μ) := by
  refine z_C_in (by decide) (by omega) (fun d' Z ed hc hr => ?_)
  have hH : zH mi_X6_laid zt_X6_laid 79 6 5 := hh_X6_laid
  refine z_rcs hc hH 1 (pc' := 1) (lv' := [(0, .ref 0), (1, .int (nI s)), (2, .int x), (3, .int wh)]) (st' := [.int (nI s)]) (μ' := μ) (by rfl) ?_
  refine zq_call hc (z_cx_ok hH (by rfl)) (gc_isSeat d' (by omega) μ (nI s)) (by decide +kernel) (fun r9 μ9 hq => ?_)
  obtain ⟨hμ9, rfl⟩ := hq
  rw [hμ9]
  clear hμ9 μ9
  show Z 0 4 [(0, .ref 0), (1, .int (nI s)), (2, .int x), (3, .int wh)] [.int (nB (sI (nI s)))] μ
  refine zq_if hc hH (by rfl) (tg := 9) (by rfl) (fun h1 => ?_) (fun h1 => ?_)
  · have h1 : (sI (nI s)) = true := nB_n.mp (cm_ne.mp h1)
    refine z_rcs hc hH 2 (pc' := 11) (lv' := [(0, .ref 0), (1, .int (nI s)), (2, .int x), (3, .int wh)]) (st' := [.int (nI s), .ref 0]) (μ' := μ) (by rfl) ?_
    refine zq_call hc (z_cx_ok hH (by rfl)) (gc_at4 d' (by omega) μ s hs4) (by decide +kernel) (fun r9 μ9 hq => ?_)
    obtain ⟨hμ9, rfl⟩ := hq
    rw [hμ9]
    clear hμ9 μ9
    show Z 0 14 [(0, .ref 0), (1, .int (nI s)), (2, .int x), (3, .int wh)] [.ref (18 + 8 * s)] μ
    refine zq_gfr hc hH (by rfl) (ci := 1) (f := 0) (q := 19 + 8 * s) (by rfl) (sj (P := fun i => okf 79 1 0 (18 + 8 * i)) hs4 (by decide +kernel)) (by rfl) (sj (P := fun i => Nat.beq (z_gr (18 + 8 * i) 0) (19 + 8 * i)) hs4 (by decide +kernel)) ?_
    refine z_rcs hc hH 2 (pc' := 20) (lv' := [(4, .ref (19 + 8 * s)), (0, .ref 0), (1, .int (nI s)), (2, .int x), (3, .int wh)]) (st' := [.int x]) (μ' := μ) (by rfl) ?_
    refine zq_if hc hH (by rfl) (tg := 37) (by rfl) (fun h2 => ?_) (fun h2 => ?_)
    · have h2 : (decide (x < 0)) = true := decide_eq_true (cm_lt.mp h2)
      refine z_rcs hc hH 1 (pc' := 38) (lv' := [(4, .ref (19 + 8 * s)), (0, .ref 0), (1, .int (nI s)), (2, .int x), (3, .int wh)]) (st' := [.int (-1)]) (μ' := μ) (by rfl) ?_
      exact hr 0 38 _ _ _ (some (.int (-1))) (by decide +kernel) (z_rx_ok hH (by rfl)) (⟨(by first | with_reducible rfl | (simp only [h2, cond_true, cond_false]; done) | rfl), (by simp only [h2, cond_true, cond_false])⟩)
    · have h2 : (decide (x < 0)) = false := decide_eq_false (cn_lt.mp h2)
      refine z_rcs hc hH 2 (pc' := 26) (lv' := [(4, .ref (19 + 8 * s)), (0, .ref 0), (1, .int (nI s)), (2, .int x), (3, .int wh)]) (st' := [.ref (19 + 8 * s), .int x]) (μ' := μ) (by rfl) ?_
      refine zq_gfi hc hH (by rfl) (ci := 2) (f := 4) (by rfl) (sj (P := fun i => okf 79 2 4 (19 + 8 * i)) hs4 (by decide +kernel)) (by rfl) ?_
      refine zq_ic hc hH (by rfl) (tg := 37) (by rfl) (fun h3 => ?_) (fun h3 => ?_)
      · have h3 : (decide ((μ.1 (19 + 8 * s) 4) ≤ x)) = true := decide_eq_true (cm_ge.mp h3)
        refine z_rcs hc hH 1 (pc' := 38) (lv' := [(4, .ref (19 + 8 * s)), (0, .ref 0), (1, .int (nI s)), (2, .int x), (3, .int wh)]) (st' := [.int (-1)]) (μ' := μ) (by rfl) ?_
        exact hr 0 38 _ _ _ (some (.int (-1))) (by decide +kernel) (z_rx_ok hH (by rfl)) (⟨(by first | with_reducible rfl | (simp only [h2, h3, cond_true, cond_false]; done) | rfl), (by simp only [h2, h3, cond_true, cond_false])⟩)
      · have h3 : (decide ((μ.1 (19 + 8 * s) 4) ≤ x)) = false := decide_eq_false (cn_ge.mp h3)
        refine z_rcs hc hH 2 (pc' := 34) (lv' := [(4, .ref (19 + 8 * s)), (0, .ref 0), (1, .int (nI s)), (2, .int x), (3, .int wh)]) (st' := [.int 4, .int x]) (μ' := μ) (by rfl) ?_
        refine zq_ic hc hH (by rfl) (tg := 39) (by rfl) (fun h4 => ?_) (fun h4 => ?_)
        · have h4 : (decide (x < 4)) = true := decide_eq_true (cm_lt.mp h4)
          refine z_rcs hc hH 1 (pc' := 40) (lv' := [(4, .ref (19 + 8 * s)), (0, .ref 0), (1, .int (nI s)), (2, .int x), (3, .int wh)]) (st' := [.int wh]) (μ' := μ) (by rfl) ?_
          refine zq_if hc hH (by rfl) (tg := 51) (by rfl) (fun h5 => ?_) (fun h5 => ?_)
          · have h5 : (decide (wh = 0)) = false := decide_eq_false (cm_ne.mp h5)
            refine z_rcs hc hH 2 (pc' := 53) (lv' := [(4, .ref (19 + 8 * s)), (0, .ref 0), (1, .int (nI s)), (2, .int x), (3, .int wh)]) (st' := [.int 1, .int wh]) (μ' := μ) (by rfl) ?_
            refine zq_ic hc hH (by rfl) (tg := 66) (by rfl) (fun h6 => ?_) (fun h6 => ?_)
            · have h6 : (decide (wh = 1)) = false := decide_eq_false (cm_ne.mp h6)
              refine z_rcs hc hH 1 (pc' := 67) (lv' := [(4, .ref (19 + 8 * s)), (0, .ref 0), (1, .int (nI s)), (2, .int x), (3, .int wh)]) (st' := [.int (-1)]) (μ' := μ) (by rfl) ?_
              exact hr 0 67 _ _ _ (some (.int (-1))) (by decide +kernel) (z_rx_ok hH (by rfl)) (⟨(by first | with_reducible rfl | (simp only [h2, h3, h4, h5, h6, cond_true, cond_false]; done) | rfl), (by simp only [h2, h3, h4, h5, h6, cond_true, cond_false])⟩)
            · have h6 : (decide (wh = 1)) = true := decide_eq_true (cn_ne.mp h6)
              refine z_rcs hc hH 1 (pc' := 58) (lv' := [(4, .ref (19 + 8 * s)), (0, .ref 0), (1, .int (nI s)), (2, .int x), (3, .int wh)]) (st' := [.ref (19 + 8 * s)]) (μ' := μ) (by rfl) ?_
              refine zq_gfr hc hH (by rfl) (ci := 2) (f := 3) (q := 23 + 8 * s) (by rfl) (sj (P := fun i => okf 79 2 3 (19 + 8 * i)) hs4 (by decide +kernel)) (by rfl) (sj (P := fun i => Nat.beq (z_gr (19 + 8 * i) 3) (23 + 8 * i)) hs4 (by decide +kernel)) ?_
              refine z_rcs hc hH 1 (pc' := 62) (lv' := [(4, .ref (19 + 8 * s)), (0, .ref 0), (1, .int (nI s)), (2, .int x), (3, .int wh)]) (st' := [.int x, .ref (23 + 8 * s)]) (μ' := μ) (by rfl) ?_
              refine zq_iald hc hH (by rfl) 4 (oka_i (sj (P := fun i => oka 79 1 4 (23 + 8 * i)) hs4 (by decide +kernel))) (inOf3 (n := 4) rfl h2 h4) ?_
              refine z_rcs hc hH 1 (pc' := 67) (lv' := [(4, .ref (19 + 8 * s)), (0, .ref 0), (1, .int (nI s)), (2, .int x), (3, .int wh)]) (st' := [.int (μ.1 (23 + 8 * s) x.toNatClampNeg)]) (μ' := μ) (by rfl) ?_
              exact hr 0 67 _ _ _ (some (.int (μ.1 (23 + 8 * s) x.toNatClampNeg))) (by decide +kernel) (z_rx_ok hH (by rfl)) (⟨(by first | with_reducible rfl | (simp only [h2, h3, h4, h5, h6, cond_true, cond_false]; done) | rfl), (by simp only [h2, h3, h4, h5, h6, cond_true, cond_false])⟩)
          · have h5 : (decide (wh = 0)) = true := decide_eq_true (cn_ne.mp h5)
            refine z_rcs hc hH 1 (pc' := 45) (lv' := [(4, .ref (19 + 8 * s)), (0, .ref 0), (1, .int (nI s)), (2, .int x), (3, .int wh)]) (st' := [.ref (19 + 8 * s)]) (μ' := μ) (by rfl) ?_
            refine zq_gfr hc hH (by rfl) (ci := 2) (f := 2) (q := 22 + 8 * s) (by rfl) (sj (P := fun i => okf 79 2 2 (19 + 8 * i)) hs4 (by decide +kernel)) (by rfl) (sj (P := fun i => Nat.beq (z_gr (19 + 8 * i) 2) (22 + 8 * i)) hs4 (by decide +kernel)) ?_
            refine z_rcs hc hH 1 (pc' := 49) (lv' := [(4, .ref (19 + 8 * s)), (0, .ref 0), (1, .int (nI s)), (2, .int x), (3, .int wh)]) (st' := [.int x, .ref (22 + 8 * s)]) (μ' := μ) (by rfl) ?_
            refine zq_iald hc hH (by rfl) 4 (oka_i (sj (P := fun i => oka 79 1 4 (22 + 8 * i)) hs4 (by decide +kernel))) (inOf3 (n := 4) rfl h2 h4) ?_
            exact hr 0 50 _ _ _ (some (.int (μ.1 (22 + 8 * s) x.toNatClampNeg))) (by decide +kernel) (z_rx_ok hH (by rfl)) (⟨(by first | with_reducible rfl | (simp only [h2, h3, h4, h5, cond_true, cond_false]; done) | rfl), (by simp only [h2, h3, h4, h5, cond_true, cond_false])⟩)
        · have h4 : (decide (x < 4)) = false := decide_eq_false (cn_lt.mp h4)
          refine z_rcs hc hH 1 (pc' := 38) (lv' := [(4, .ref (19 + 8 * s)), (0, .ref 0), (1, .int (nI s)), (2, .int x), (3, .int wh)]) (st' := [.int (-1)]) (μ' := μ) (by rfl) ?_
          exact hr 0 38 _ _ _ (some (.int (-1))) (by decide +kernel) (z_rx_ok hH (by rfl)) (⟨(by first | with_reducible rfl | (simp only [h2, h3, h4, cond_true, cond_false]; done) | rfl), (by simp only [h2, h3, h4, cond_true, cond_false])⟩)
  · have h1 : (sI (nI s)) = false := nB_z.mp (cn_ne.mp h1)
    exact absurd (Eq.trans (Eq.symm (sI_n hs4)) h1) (by decide)
theorem gq_laid0 (d : Nat) (hd : 4 ≤ d) (μ : zM) (y x wh : Int32) (hy : sI y = false) : z_C d mi_X6_laid [.ref 0, .int y, .int x, .int wh] μ (fun r μ' => r = some (.int (-1)) ∧ μ' = μ) := by
  refine z_C_in (by decide) (by omega) (fun d' Z ed hc hr => ?_)
  have hH : zH mi_X6_laid zt_X6_laid 79 6 5 := hh_X6_laid
  refine z_rcs hc hH 1 (pc' := 1) (lv' := [(0, .ref 0), (1, .int y), (2, .int x), (3, .int wh)]) (st' := [.int y]) (μ' := μ) (by rfl) ?_
  refine zq_call hc (z_cx_ok hH (by rfl)) (gc_isSeat d' (by omega) μ y) (by decide +kernel) (fun r9 μ9 hq => ?_)
  obtain ⟨hμ9, rfl⟩ := hq
  rw [hμ9]
  clear hμ9 μ9
  show Z 0 4 [(0, .ref 0), (1, .int y), (2, .int x), (3, .int wh)] [.int (nB (sI y))] μ
  refine zq_if hc hH (by rfl) (tg := 9) (by rfl) (fun h1 => ?_) (fun h1 => ?_)
  · have h1 : (sI y) = true := nB_n.mp (cm_ne.mp h1)
    exact absurd (Eq.trans (Eq.symm (hy)) h1) (by decide)
  · have h1 : (sI y) = false := nB_z.mp (cn_ne.mp h1)
    refine z_rcs hc hH 1 (pc' := 8) (lv' := [(0, .ref 0), (1, .int y), (2, .int x), (3, .int wh)]) (st' := [.int (-1)]) (μ' := μ) (by rfl) ?_
    exact hr 0 8 _ _ _ (some (.int (-1))) (by decide +kernel) (z_rx_ok hH (by rfl)) (⟨rfl, rfl⟩)
theorem gq_seat0 (d : Nat) (hd : 4 ≤ d) (μ : zM) (s : Nat) (hs4 : s < 4) : z_C d mi_X6_seat [.ref 0, .int (nI s), .int 0] μ (fun r μ' => r = some (.int (μ.1 (18 + 8 * s) 4)) ∧ μ' = μ) := by
  refine z_C_in (by decide) (by omega) (fun d' Z ed hc hr => ?_)
  have hH : zH mi_X6_seat zt_X6_seat 79 6 4 := hh_X6_seat
  refine z_rcs hc hH 1 (pc' := 1) (lv' := [(0, .ref 0), (1, .int (nI s)), (2, .int 0)]) (st' := [.int (nI s)]) (μ' := μ) (by rfl) ?_
  refine zq_call hc (z_cx_ok hH (by rfl)) (gc_isSeat d' (by omega) μ (nI s)) (by decide +kernel) (fun r9 μ9 hq => ?_)
  obtain ⟨hμ9, rfl⟩ := hq
  rw [hμ9]
  clear hμ9 μ9
  show Z 0 4 [(0, .ref 0), (1, .int (nI s)), (2, .int 0)] [.int (nB (sI (nI s)))] μ
  refine zq_if hc hH (by rfl) (tg := 9) (by rfl) (fun h1 => ?_) (fun h1 => ?_)
  · have h1 : (sI (nI s)) = true := nB_n.mp (cm_ne.mp h1)
    refine z_rcs hc hH 2 (pc' := 11) (lv' := [(0, .ref 0), (1, .int (nI s)), (2, .int 0)]) (st' := [.int (nI s), .ref 0]) (μ' := μ) (by rfl) ?_
    refine zq_call hc (z_cx_ok hH (by rfl)) (gc_at4 d' (by omega) μ s hs4) (by decide +kernel) (fun r9 μ9 hq => ?_)
    obtain ⟨hμ9, rfl⟩ := hq
    rw [hμ9]
    clear hμ9 μ9
    show Z 0 14 [(0, .ref 0), (1, .int (nI s)), (2, .int 0)] [.ref (18 + 8 * s)] μ
    refine z_rcs hc hH 4 (pc' := 65) (lv' := [(3, .ref (18 + 8 * s)), (0, .ref 0), (1, .int (nI s)), (2, .int 0)]) (st' := [.ref (18 + 8 * s)]) (μ' := μ) (by rfl) ?_
    refine zq_gfi hc hH (by rfl) (ci := 1) (f := 4) (by rfl) (sj (P := fun i => okf 79 1 4 (18 + 8 * i)) hs4 (by decide +kernel)) (by rfl) ?_
    exact hr 0 68 _ _ _ (some (.int (μ.1 (18 + 8 * s) 4))) (by decide +kernel) (z_rx_ok hH (by rfl)) (⟨rfl, rfl⟩)
  · have h1 : (sI (nI s)) = false := nB_z.mp (cn_ne.mp h1)
    exact absurd (Eq.trans (Eq.symm (sI_n hs4)) h1) (by decide)
theorem gq_seat1 (d : Nat) (hd : 4 ≤ d) (μ : zM) (s : Nat) (hs4 : s < 4) : z_C d mi_X6_seat [.ref 0, .int (nI s), .int 1] μ (fun r μ' => r = some (.int (μ.1 (18 + 8 * s) 5)) ∧ μ' = μ) := by
  refine z_C_in (by decide) (by omega) (fun d' Z ed hc hr => ?_)
  have hH : zH mi_X6_seat zt_X6_seat 79 6 4 := hh_X6_seat
  refine z_rcs hc hH 1 (pc' := 1) (lv' := [(0, .ref 0), (1, .int (nI s)), (2, .int 1)]) (st' := [.int (nI s)]) (μ' := μ) (by rfl) ?_
  refine zq_call hc (z_cx_ok hH (by rfl)) (gc_isSeat d' (by omega) μ (nI s)) (by decide +kernel) (fun r9 μ9 hq => ?_)
  obtain ⟨hμ9, rfl⟩ := hq
  rw [hμ9]
  clear hμ9 μ9
  show Z 0 4 [(0, .ref 0), (1, .int (nI s)), (2, .int 1)] [.int (nB (sI (nI s)))] μ
  refine zq_if hc hH (by rfl) (tg := 9) (by rfl) (fun h1 => ?_) (fun h1 => ?_)
  · have h1 : (sI (nI s)) = true := nB_n.mp (cm_ne.mp h1)
    refine z_rcs hc hH 2 (pc' := 11) (lv' := [(0, .ref 0), (1, .int (nI s)), (2, .int 1)]) (st' := [.int (nI s), .ref 0]) (μ' := μ) (by rfl) ?_
    refine zq_call hc (z_cx_ok hH (by rfl)) (gc_at4 d' (by omega) μ s hs4) (by decide +kernel) (fun r9 μ9 hq => ?_)
    obtain ⟨hμ9, rfl⟩ := hq
    rw [hμ9]
    clear hμ9 μ9
    show Z 0 14 [(0, .ref 0), (1, .int (nI s)), (2, .int 1)] [.ref (18 + 8 * s)] μ
    refine z_rcs hc hH 4 (pc' := 70) (lv' := [(3, .ref (18 + 8 * s)), (0, .ref 0), (1, .int (nI s)), (2, .int 1)]) (st' := [.ref (18 + 8 * s)]) (μ' := μ) (by rfl) ?_
    refine zq_gfi hc hH (by rfl) (ci := 1) (f := 5) (by rfl) (sj (P := fun i => okf 79 1 5 (18 + 8 * i)) hs4 (by decide +kernel)) (by rfl) ?_
    exact hr 0 73 _ _ _ (some (.int (μ.1 (18 + 8 * s) 5))) (by decide +kernel) (z_rx_ok hH (by rfl)) (⟨rfl, rfl⟩)
  · have h1 : (sI (nI s)) = false := nB_z.mp (cn_ne.mp h1)
    exact absurd (Eq.trans (Eq.symm (sI_n hs4)) h1) (by decide)
theorem gq_seat2 (d : Nat) (hd : 4 ≤ d) (μ : zM) (s : Nat) (hs4 : s < 4) : z_C d mi_X6_seat [.ref 0, .int (nI s), .int 2] μ (fun r μ' => r = some ((bif decide ((μ.1 (18 + 8 * s) 8) = 0) then .int 0 else .int 1)) ∧ μ' = μ) := by
  refine z_C_in (by decide) (by omega) (fun d' Z ed hc hr => ?_)
  have hH : zH mi_X6_seat zt_X6_seat 79 6 4 := hh_X6_seat
  refine z_rcs hc hH 1 (pc' := 1) (lv' := [(0, .ref 0), (1, .int (nI s)), (2, .int 2)]) (st' := [.int (nI s)]) (μ' := μ) (by rfl) ?_
  refine zq_call hc (z_cx_ok hH (by rfl)) (gc_isSeat d' (by omega) μ (nI s)) (by decide +kernel) (fun r9 μ9 hq => ?_)
  obtain ⟨hμ9, rfl⟩ := hq
  rw [hμ9]
  clear hμ9 μ9
  show Z 0 4 [(0, .ref 0), (1, .int (nI s)), (2, .int 2)] [.int (nB (sI (nI s)))] μ
  refine zq_if hc hH (by rfl) (tg := 9) (by rfl) (fun h1 => ?_) (fun h1 => ?_)
  · have h1 : (sI (nI s)) = true := nB_n.mp (cm_ne.mp h1)
    refine z_rcs hc hH 2 (pc' := 11) (lv' := [(0, .ref 0), (1, .int (nI s)), (2, .int 2)]) (st' := [.int (nI s), .ref 0]) (μ' := μ) (by rfl) ?_
    refine zq_call hc (z_cx_ok hH (by rfl)) (gc_at4 d' (by omega) μ s hs4) (by decide +kernel) (fun r9 μ9 hq => ?_)
    obtain ⟨hμ9, rfl⟩ := hq
    rw [hμ9]
    clear hμ9 μ9
    show Z 0 14 [(0, .ref 0), (1, .int (nI s)), (2, .int 2)] [.ref (18 + 8 * s)] μ
    refine z_rcs hc hH 4 (pc' := 75) (lv' := [(3, .ref (18 + 8 * s)), (0, .ref 0), (1, .int (nI s)), (2, .int 2)]) (st' := [.ref (18 + 8 * s)]) (μ' := μ) (by rfl) ?_
    refine zq_gfi hc hH (by rfl) (ci := 1) (f := 8) (by rfl) (sj (P := fun i => okf 79 1 8 (18 + 8 * i)) hs4 (by decide +kernel)) (by rfl) ?_
    refine zq_if hc hH (by rfl) (tg := 85) (by rfl) (fun h2 => ?_) (fun h2 => ?_)
    · have h2 : (decide ((μ.1 (18 + 8 * s) 8) = 0)) = true := decide_eq_true (cm_eq9.mp h2)
      refine z_rcs hc hH 1 (pc' := 86) (lv' := [(3, .ref (18 + 8 * s)), (0, .ref 0), (1, .int (nI s)), (2, .int 2)]) (st' := [.int 0]) (μ' := μ) (by rfl) ?_
      exact hr 0 86 _ _ _ (some (.int 0)) (by decide +kernel) (z_rx_ok hH (by rfl)) (⟨(by first | with_reducible rfl | (simp only [h2, cond_true, cond_false]; done) | rfl), (by simp only [h2, cond_true, cond_false])⟩)
    · have h2 : (decide ((μ.1 (18 + 8 * s) 8) = 0)) = false := decide_eq_false (cn_eq.mp h2)
      refine z_rcs hc hH 2 (pc' := 86) (lv' := [(3, .ref (18 + 8 * s)), (0, .ref 0), (1, .int (nI s)), (2, .int 2)]) (st' := [.int 1]) (μ' := μ) (by rfl) ?_
      exact hr 0 86 _ _ _ (some (.int 1)) (by decide +kernel) (z_rx_ok hH (by rfl)) (⟨(by first | with_reducible rfl | (simp only [h2, cond_true, cond_false]; done) | rfl), (by simp only [h2, cond_true, cond_false])⟩)
  · have h1 : (sI (nI s)) = false := nB_z.mp (cn_ne.mp h1)
    exact absurd (Eq.trans (Eq.symm (sI_n hs4)) h1) (by decide)
theorem gq_seat3 (d : Nat) (hd : 4 ≤ d) (μ : zM) (s : Nat) (hs4 : s < 4) : z_C d mi_X6_seat [.ref 0, .int (nI s), .int 3] μ (fun r μ' => r = some (.int (((nI s) - (μ.1 0 9)) &&& 3)) ∧ μ' = μ) := by
  refine z_C_in (by decide) (by omega) (fun d' Z ed hc hr => ?_)
  have hH : zH mi_X6_seat zt_X6_seat 79 6 4 := hh_X6_seat
  refine z_rcs hc hH 1 (pc' := 1) (lv' := [(0, .ref 0), (1, .int (nI s)), (2, .int 3)]) (st' := [.int (nI s)]) (μ' := μ) (by rfl) ?_
  refine zq_call hc (z_cx_ok hH (by rfl)) (gc_isSeat d' (by omega) μ (nI s)) (by decide +kernel) (fun r9 μ9 hq => ?_)
  obtain ⟨hμ9, rfl⟩ := hq
  rw [hμ9]
  clear hμ9 μ9
  show Z 0 4 [(0, .ref 0), (1, .int (nI s)), (2, .int 3)] [.int (nB (sI (nI s)))] μ
  refine zq_if hc hH (by rfl) (tg := 9) (by rfl) (fun h1 => ?_) (fun h1 => ?_)
  · have h1 : (sI (nI s)) = true := nB_n.mp (cm_ne.mp h1)
    refine z_rcs hc hH 2 (pc' := 11) (lv' := [(0, .ref 0), (1, .int (nI s)), (2, .int 3)]) (st' := [.int (nI s), .ref 0]) (μ' := μ) (by rfl) ?_
    refine zq_call hc (z_cx_ok hH (by rfl)) (gc_at4 d' (by omega) μ s hs4) (by decide +kernel) (fun r9 μ9 hq => ?_)
    obtain ⟨hμ9, rfl⟩ := hq
    rw [hμ9]
    clear hμ9 μ9
    show Z 0 14 [(0, .ref 0), (1, .int (nI s)), (2, .int 3)] [.ref (18 + 8 * s)] μ
    refine z_rcs hc hH 5 (pc' := 89) (lv' := [(3, .ref (18 + 8 * s)), (0, .ref 0), (1, .int (nI s)), (2, .int 3)]) (st' := [.int (nI s), .ref 0]) (μ' := μ) (by rfl) ?_
    refine zq_call hc (z_cx_ok hH (by rfl)) (gc_windOf d' (by omega) μ (nI s)) (by decide +kernel) (fun r9 μ9 hq => ?_)
    obtain ⟨hμ9, rfl⟩ := hq
    rw [hμ9]
    clear hμ9 μ9
    show Z 0 92 [(3, .ref (18 + 8 * s)), (0, .ref 0), (1, .int (nI s)), (2, .int 3)] [.int (((nI s) - (μ.1 0 9)) &&& 3)] μ
    exact hr 0 92 _ _ _ (some (.int (((nI s) - (μ.1 0 9)) &&& 3))) (by decide +kernel) (z_rx_ok hH (by rfl)) (⟨rfl, rfl⟩)
  · have h1 : (sI (nI s)) = false := nB_z.mp (cn_ne.mp h1)
    exact absurd (Eq.trans (Eq.symm (sI_n hs4)) h1) (by decide)
theorem gq_seat4 (d : Nat) (hd : 4 ≤ d) (μ : zM) (s : Nat) (hs4 : s < 4) : z_C d mi_X6_seat [.ref 0, .int (nI s), .int 4] μ (fun r μ' => r = some (.int (μ.1 (18 + 8 * s) 2)) ∧ μ' = μ) := by
  refine z_C_in (by decide) (by omega) (fun d' Z ed hc hr => ?_)
  have hH : zH mi_X6_seat zt_X6_seat 79 6 4 := hh_X6_seat
  refine z_rcs hc hH 1 (pc' := 1) (lv' := [(0, .ref 0), (1, .int (nI s)), (2, .int 4)]) (st' := [.int (nI s)]) (μ' := μ) (by rfl) ?_
  refine zq_call hc (z_cx_ok hH (by rfl)) (gc_isSeat d' (by omega) μ (nI s)) (by decide +kernel) (fun r9 μ9 hq => ?_)
  obtain ⟨hμ9, rfl⟩ := hq
  rw [hμ9]
  clear hμ9 μ9
  show Z 0 4 [(0, .ref 0), (1, .int (nI s)), (2, .int 4)] [.int (nB (sI (nI s)))] μ
  refine zq_if hc hH (by rfl) (tg := 9) (by rfl) (fun h1 => ?_) (fun h1 => ?_)
  · have h1 : (sI (nI s)) = true := nB_n.mp (cm_ne.mp h1)
    refine z_rcs hc hH 2 (pc' := 11) (lv' := [(0, .ref 0), (1, .int (nI s)), (2, .int 4)]) (st' := [.int (nI s), .ref 0]) (μ' := μ) (by rfl) ?_
    refine zq_call hc (z_cx_ok hH (by rfl)) (gc_at4 d' (by omega) μ s hs4) (by decide +kernel) (fun r9 μ9 hq => ?_)
    obtain ⟨hμ9, rfl⟩ := hq
    rw [hμ9]
    clear hμ9 μ9
    show Z 0 14 [(0, .ref 0), (1, .int (nI s)), (2, .int 4)] [.ref (18 + 8 * s)] μ
    refine z_rcs hc hH 4 (pc' := 94) (lv' := [(3, .ref (18 + 8 * s)), (0, .ref 0), (1, .int (nI s)), (2, .int 4)]) (st' := [.ref (18 + 8 * s)]) (μ' := μ) (by rfl) ?_
    refine zq_gfi hc hH (by rfl) (ci := 1) (f := 2) (by rfl) (sj (P := fun i => okf 79 1 2 (18 + 8 * i)) hs4 (by decide +kernel)) (by rfl) ?_
    exact hr 0 97 _ _ _ (some (.int (μ.1 (18 + 8 * s) 2))) (by decide +kernel) (z_rx_ok hH (by rfl)) (⟨rfl, rfl⟩)
  · have h1 : (sI (nI s)) = false := nB_z.mp (cn_ne.mp h1)
    exact absurd (Eq.trans (Eq.symm (sI_n hs4)) h1) (by decide)
theorem gq_seat5 (d : Nat) (hd : 4 ≤ d) (μ : zM) (s : Nat) (hs4 : s < 4) : z_C d mi_X6_seat [.ref 0, .int (nI s), .int 5] μ (fun r μ' => r = some (.int (μ.1 (19 + 8 * s) 4)) ∧ μ' = μ) := by
  refine z_C_in (by decide) (by omega) (fun d' Z ed hc hr => ?_)
  have hH : zH mi_X6_seat zt_X6_seat 79 6 4 := hh_X6_seat
  refine z_rcs hc hH 1 (pc' := 1) (lv' := [(0, .ref 0), (1, .int (nI s)), (2, .int 5)]) (st' := [.int (nI s)]) (μ' := μ) (by rfl) ?_
  refine zq_call hc (z_cx_ok hH (by rfl)) (gc_isSeat d' (by omega) μ (nI s)) (by decide +kernel) (fun r9 μ9 hq => ?_)
  obtain ⟨hμ9, rfl⟩ := hq
  rw [hμ9]
  clear hμ9 μ9
  show Z 0 4 [(0, .ref 0), (1, .int (nI s)), (2, .int 5)] [.int (nB (sI (nI s)))] μ
  refine zq_if hc hH (by rfl) (tg := 9) (by rfl) (fun h1 => ?_) (fun h1 => ?_)
  · have h1 : (sI (nI s)) = true := nB_n.mp (cm_ne.mp h1)
    refine z_rcs hc hH 2 (pc' := 11) (lv' := [(0, .ref 0), (1, .int (nI s)), (2, .int 5)]) (st' := [.int (nI s), .ref 0]) (μ' := μ) (by rfl) ?_
    refine zq_call hc (z_cx_ok hH (by rfl)) (gc_at4 d' (by omega) μ s hs4) (by decide +kernel) (fun r9 μ9 hq => ?_)
    obtain ⟨hμ9, rfl⟩ := hq
    rw [hμ9]
    clear hμ9 μ9
    show Z 0 14 [(0, .ref 0), (1, .int (nI s)), (2, .int 5)] [.ref (18 + 8 * s)] μ
    refine z_rcs hc hH 4 (pc' := 99) (lv' := [(3, .ref (18 + 8 * s)), (0, .ref 0), (1, .int (nI s)), (2, .int 5)]) (st' := [.ref (18 + 8 * s)]) (μ' := μ) (by rfl) ?_
    refine zq_gfr hc hH (by rfl) (ci := 1) (f := 0) (q := 19 + 8 * s) (by rfl) (sj (P := fun i => okf 79 1 0 (18 + 8 * i)) hs4 (by decide +kernel)) (by rfl) (sj (P := fun i => Nat.beq (z_gr (18 + 8 * i) 0) (19 + 8 * i)) hs4 (by decide +kernel)) ?_
    refine zq_gfi hc hH (by rfl) (ci := 2) (f := 4) (by rfl) (sj (P := fun i => okf 79 2 4 (19 + 8 * i)) hs4 (by decide +kernel)) (by rfl) ?_
    exact hr 0 105 _ _ _ (some (.int (μ.1 (19 + 8 * s) 4))) (by decide +kernel) (z_rx_ok hH (by rfl)) (⟨rfl, rfl⟩)
  · have h1 : (sI (nI s)) = false := nB_z.mp (cn_ne.mp h1)
    exact absurd (Eq.trans (Eq.symm (sI_n hs4)) h1) (by decide)
theorem gq_seat6 (d : Nat) (hd : 4 ≤ d) (μ : zM) (s : Nat) (hs4 : s < 4) (op : Bool) (hop : ∀ d, 1 ≤ d → z_C d mi_X3_isOpen [.ref (19 + 8 * s)] μ (zR μ (.int (nB op)))) : z_C d mi_X6_seat [.ref 0, .int (nI s), .int 6] μ (fun r μ' => r = some ((bif op then .int 1 else .int 0)) ∧ μ' = μ) := by
  refine z_C_in (by decide) (by omega) (fun d' Z ed hc hr => ?_)
  have hH : zH mi_X6_seat zt_X6_seat 79 6 4 := hh_X6_seat
  refine z_rcs hc hH 1 (pc' := 1) (lv' := [(0, .ref 0), (1, .int (nI s)), (2, .int 6)]) (st' := [.int (nI s)]) (μ' := μ) (by rfl) ?_
  refine zq_call hc (z_cx_ok hH (by rfl)) (gc_isSeat d' (by omega) μ (nI s)) (by decide +kernel) (fun r9 μ9 hq => ?_)
  obtain ⟨hμ9, rfl⟩ := hq
  rw [hμ9]
  clear hμ9 μ9
  show Z 0 4 [(0, .ref 0), (1, .int (nI s)), (2, .int 6)] [.int (nB (sI (nI s)))] μ
  refine zq_if hc hH (by rfl) (tg := 9) (by rfl) (fun h1 => ?_) (fun h1 => ?_)
  · have h1 : (sI (nI s)) = true := nB_n.mp (cm_ne.mp h1)
    refine z_rcs hc hH 2 (pc' := 11) (lv' := [(0, .ref 0), (1, .int (nI s)), (2, .int 6)]) (st' := [.int (nI s), .ref 0]) (μ' := μ) (by rfl) ?_
    refine zq_call hc (z_cx_ok hH (by rfl)) (gc_at4 d' (by omega) μ s hs4) (by decide +kernel) (fun r9 μ9 hq => ?_)
    obtain ⟨hμ9, rfl⟩ := hq
    rw [hμ9]
    clear hμ9 μ9
    show Z 0 14 [(0, .ref 0), (1, .int (nI s)), (2, .int 6)] [.ref (18 + 8 * s)] μ
    refine z_rcs hc hH 4 (pc' := 107) (lv' := [(3, .ref (18 + 8 * s)), (0, .ref 0), (1, .int (nI s)), (2, .int 6)]) (st' := [.ref (18 + 8 * s)]) (μ' := μ) (by rfl) ?_
    refine zq_gfr hc hH (by rfl) (ci := 1) (f := 0) (q := 19 + 8 * s) (by rfl) (sj (P := fun i => okf 79 1 0 (18 + 8 * i)) hs4 (by decide +kernel)) (by rfl) (sj (P := fun i => Nat.beq (z_gr (18 + 8 * i) 0) (19 + 8 * i)) hs4 (by decide +kernel)) ?_
    refine zq_call hc (z_clv9 hH (by rfl) (by rfl) (by rfl) (by rfl) (sj (P := fun i => okr 79 2 (19 + 8 * i)) hs4 (by decide +kernel)) (by rfl) (by rfl)) (hop d' (by omega)) (by decide +kernel) (fun r9 μ9 hq => ?_)
    obtain ⟨hμ9, rfl⟩ := hq
    rw [hμ9]
    clear hμ9 μ9
    show Z 0 113 [(3, .ref (18 + 8 * s)), (0, .ref 0), (1, .int (nI s)), (2, .int 6)] [.int (nB op)] μ
    refine zq_if hc hH (by rfl) (tg := 120) (by rfl) (fun h2 => ?_) (fun h2 => ?_)
    · have h2 : (op) = false := nB_z.mp (cm_eq9.mp h2)
      refine z_rcs hc hH 1 (pc' := 121) (lv' := [(3, .ref (18 + 8 * s)), (0, .ref 0), (1, .int (nI s)), (2, .int 6)]) (st' := [.int 0]) (μ' := μ) (by rfl) ?_
      exact hr 0 121 _ _ _ (some (.int 0)) (by decide +kernel) (z_rx_ok hH (by rfl)) (⟨(by first | with_reducible rfl | (simp only [h2, cond_true, cond_false]; done) | rfl), (by simp only [h2, cond_true, cond_false])⟩)
    · have h2 : (op) = true := nB_n.mp (cn_eq.mp h2)
      refine z_rcs hc hH 2 (pc' := 121) (lv' := [(3, .ref (18 + 8 * s)), (0, .ref 0), (1, .int (nI s)), (2, .int 6)]) (st' := [.int 1]) (μ' := μ) (by rfl) ?_
      exact hr 0 121 _ _ _ (some (.int 1)) (by decide +kernel) (z_rx_ok hH (by rfl)) (⟨(by first | with_reducible rfl | (simp only [h2, cond_true, cond_false]; done) | rfl), (by simp only [h2, cond_true, cond_false])⟩)
  · have h1 : (sI (nI s)) = false := nB_z.mp (cn_ne.mp h1)
    exact absurd (Eq.trans (Eq.symm (sI_n hs4)) h1) (by decide)
theorem gq_seat7 (d : Nat) (hd : 4 ≤ d) (μ : zM) (s : Nat) (hs4 : s < 4) : z_C d mi_X6_seat [.ref 0, .int (nI s), .int 7] μ (fun r μ' => r = some ((bif decide ((μ.1 (18 + 8 * s) 9) = 0) then .int 0 else .int 1)) ∧ μ' = μ) := by
  refine z_C_in (by decide) (by omega) (fun d' Z ed hc hr => ?_)
  have hH : zH mi_X6_seat zt_X6_seat 79 6 4 := hh_X6_seat
  refine z_rcs hc hH 1 (pc' := 1) (lv' := [(0, .ref 0), (1, .int (nI s)), (2, .int 7)]) (st' := [.int (nI s)]) (μ' := μ) (by rfl) ?_
  refine zq_call hc (z_cx_ok hH (by rfl)) (gc_isSeat d' (by omega) μ (nI s)) (by decide +kernel) (fun r9 μ9 hq => ?_)
  obtain ⟨hμ9, rfl⟩ := hq
  rw [hμ9]
  clear hμ9 μ9
  show Z 0 4 [(0, .ref 0), (1, .int (nI s)), (2, .int 7)] [.int (nB (sI (nI s)))] μ
  refine zq_if hc hH (by rfl) (tg := 9) (by rfl) (fun h1 => ?_) (fun h1 => ?_)
  · have h1 : (sI (nI s)) = true := nB_n.mp (cm_ne.mp h1)
    refine z_rcs hc hH 2 (pc' := 11) (lv' := [(0, .ref 0), (1, .int (nI s)), (2, .int 7)]) (st' := [.int (nI s), .ref 0]) (μ' := μ) (by rfl) ?_
    refine zq_call hc (z_cx_ok hH (by rfl)) (gc_at4 d' (by omega) μ s hs4) (by decide +kernel) (fun r9 μ9 hq => ?_)
    obtain ⟨hμ9, rfl⟩ := hq
    rw [hμ9]
    clear hμ9 μ9
    show Z 0 14 [(0, .ref 0), (1, .int (nI s)), (2, .int 7)] [.ref (18 + 8 * s)] μ
    refine z_rcs hc hH 4 (pc' := 123) (lv' := [(3, .ref (18 + 8 * s)), (0, .ref 0), (1, .int (nI s)), (2, .int 7)]) (st' := [.ref (18 + 8 * s)]) (μ' := μ) (by rfl) ?_
    refine zq_gfi hc hH (by rfl) (ci := 1) (f := 9) (by rfl) (sj (P := fun i => okf 79 1 9 (18 + 8 * i)) hs4 (by decide +kernel)) (by rfl) ?_
    refine zq_if hc hH (by rfl) (tg := 133) (by rfl) (fun h2 => ?_) (fun h2 => ?_)
    · have h2 : (decide ((μ.1 (18 + 8 * s) 9) = 0)) = true := decide_eq_true (cm_eq9.mp h2)
      refine z_rcs hc hH 1 (pc' := 134) (lv' := [(3, .ref (18 + 8 * s)), (0, .ref 0), (1, .int (nI s)), (2, .int 7)]) (st' := [.int 0]) (μ' := μ) (by rfl) ?_
      exact hr 0 134 _ _ _ (some (.int 0)) (by decide +kernel) (z_rx_ok hH (by rfl)) (⟨(by first | with_reducible rfl | (simp only [h2, cond_true, cond_false]; done) | rfl), (by simp only [h2, cond_true, cond_false])⟩)
    · have h2 : (decide ((μ.1 (18 + 8 * s) 9) = 0)) = false := decide_eq_false (cn_eq.mp h2)
      refine z_rcs hc hH 2 (pc' := 134) (lv' := [(3, .ref (18 + 8 * s)), (0, .ref 0), (1, .int (nI s)), (2, .int 7)]) (st' := [.int 1]) (μ' := μ) (by rfl) ?_
      exact hr 0 134 _ _ _ (some (.int 1)) (by decide +kernel) (z_rx_ok hH (by rfl)) (⟨(by first | with_reducible rfl | (simp only [h2, cond_true, cond_false]; done) | rfl), (by simp only [h2, cond_true, cond_false])⟩)
  · have h1 : (sI (nI s)) = false := nB_z.mp (cn_ne.mp h1)
    exact absurd (Eq.trans (Eq.symm (sI_n hs4)) h1) (by decide)
theorem gq_seatd (d : Nat) (hd : 4 ≤ d) (μ : zM) (s : Nat) (hs4 : s < 4) (x : Int32) (hx : (decide (x.toInt < 0) || decide (7 < x.toInt)) = true) : z_C d mi_X6_seat [.ref 0, .int (nI s), .int x] μ (fun r μ' => r = some (.int (-1)) ∧ μ' = μ) := by
  refine z_C_in (by decide) (by omega) (fun d' Z ed hc hr => ?_)
  have hH : zH mi_X6_seat zt_X6_seat 79 6 4 := hh_X6_seat
  refine z_rcs hc hH 1 (pc' := 1) (lv' := [(0, .ref 0), (1, .int (nI s)), (2, .int x)]) (st' := [.int (nI s)]) (μ' := μ) (by rfl) ?_
  refine zq_call hc (z_cx_ok hH (by rfl)) (gc_isSeat d' (by omega) μ (nI s)) (by decide +kernel) (fun r9 μ9 hq => ?_)
  obtain ⟨hμ9, rfl⟩ := hq
  rw [hμ9]
  clear hμ9 μ9
  show Z 0 4 [(0, .ref 0), (1, .int (nI s)), (2, .int x)] [.int (nB (sI (nI s)))] μ
  refine zq_if hc hH (by rfl) (tg := 9) (by rfl) (fun h1 => ?_) (fun h1 => ?_)
  · have h1 : (sI (nI s)) = true := nB_n.mp (cm_ne.mp h1)
    refine z_rcs hc hH 2 (pc' := 11) (lv' := [(0, .ref 0), (1, .int (nI s)), (2, .int x)]) (st' := [.int (nI s), .ref 0]) (μ' := μ) (by rfl) ?_
    refine zq_call hc (z_cx_ok hH (by rfl)) (gc_at4 d' (by omega) μ s hs4) (by decide +kernel) (fun r9 μ9 hq => ?_)
    obtain ⟨hμ9, rfl⟩ := hq
    rw [hμ9]
    clear hμ9 μ9
    show Z 0 14 [(0, .ref 0), (1, .int (nI s)), (2, .int x)] [.ref (18 + 8 * s)] μ
    refine z_rcs hc hH 2 (pc' := 16) (lv' := [(3, .ref (18 + 8 * s)), (0, .ref 0), (1, .int (nI s)), (2, .int x)]) (st' := [.int x]) (μ' := μ) (by rfl) ?_
    refine zq_tsd hc hH (by rfl) (tg := 135) (by rfl) hx ?_
    refine z_rcs hc hH 1 (pc' := 136) (lv' := [(3, .ref (18 + 8 * s)), (0, .ref 0), (1, .int (nI s)), (2, .int x)]) (st' := [.int (-1)]) (μ' := μ) (by rfl) ?_
    exact hr 0 136 _ _ _ (some (.int (-1))) (by decide +kernel) (z_rx_ok hH (by rfl)) (⟨rfl, rfl⟩)
  · have h1 : (sI (nI s)) = false := nB_z.mp (cn_ne.mp h1)
    exact absurd (Eq.trans (Eq.symm (sI_n hs4)) h1) (by decide)
theorem gq_seat0y (d : Nat) (hd : 4 ≤ d) (μ : zM) (y x : Int32) (hy : sI y = false) : z_C d mi_X6_seat [.ref 0, .int y, .int x] μ (fun r μ' => r = some (.int (-1)) ∧ μ' = μ) := by
  refine z_C_in (by decide) (by omega) (fun d' Z ed hc hr => ?_)
  have hH : zH mi_X6_seat zt_X6_seat 79 6 4 := hh_X6_seat
  refine z_rcs hc hH 1 (pc' := 1) (lv' := [(0, .ref 0), (1, .int y), (2, .int x)]) (st' := [.int y]) (μ' := μ) (by rfl) ?_
  refine zq_call hc (z_cx_ok hH (by rfl)) (gc_isSeat d' (by omega) μ y) (by decide +kernel) (fun r9 μ9 hq => ?_)
  obtain ⟨hμ9, rfl⟩ := hq
  rw [hμ9]
  clear hμ9 μ9
  show Z 0 4 [(0, .ref 0), (1, .int y), (2, .int x)] [.int (nB (sI y))] μ
  refine zq_if hc hH (by rfl) (tg := 9) (by rfl) (fun h1 => ?_) (fun h1 => ?_)
  · have h1 : (sI y) = true := nB_n.mp (cm_ne.mp h1)
    exact absurd (Eq.trans (Eq.symm (hy)) h1) (by decide)
  · have h1 : (sI y) = false := nB_z.mp (cn_ne.mp h1)
    refine z_rcs hc hH 1 (pc' := 8) (lv' := [(0, .ref 0), (1, .int y), (2, .int x)]) (st' := [.int (-1)]) (μ' := μ) (by rfl) ?_
    exact hr 0 8 _ _ _ (some (.int (-1))) (by decide +kernel) (z_rx_ok hH (by rfl)) (⟨rfl, rfl⟩)
theorem gq_count0 (d : Nat) (hd : 4 ≤ d) (μ : zM) : z_C d mi_X6_count [.ref 0, .int 0] μ (fun r μ' => r = some (.int (μ.1 0 7)) ∧ μ' = μ) := by
  refine z_C_in (by decide) (by omega) (fun d' Z ed hc hr => ?_)
  have hH : zH mi_X6_count zt_X6_count 79 6 2 := hh_X6_count
  refine z_rcs hc hH 3 (pc' := 69) (lv' := [(0, .ref 0), (1, .int 0)]) (st' := [.ref 0]) (μ' := μ) (by rfl) ?_
  refine zq_gfi hc hH (by rfl) (ci := 5) (f := 7) (by rfl) (by decide +kernel) (by rfl) ?_
  exact hr 0 72 _ _ _ (some (.int (μ.1 0 7))) (by decide +kernel) (z_rx_ok hH (by rfl)) (⟨rfl, rfl⟩)
theorem gq_count1 (d : Nat) (hd : 4 ≤ d) (μ : zM) : z_C d mi_X6_count [.ref 0, .int 1] μ (fun r μ' => r = some ((bif decide ((μ.1 0 7) = 0) then .int (-1) else .int (μ.1 0 8))) ∧ μ' = μ) := by
  refine z_C_in (by decide) (by omega) (fun d' Z ed hc hr => ?_)
  have hH : zH mi_X6_count zt_X6_count 79 6 2 := hh_X6_count
  refine z_rcs hc hH 3 (pc' := 74) (lv' := [(0, .ref 0), (1, .int 1)]) (st' := [.ref 0]) (μ' := μ) (by rfl) ?_
  refine zq_gfi hc hH (by rfl) (ci := 5) (f := 7) (by rfl) (by decide +kernel) (by rfl) ?_
  refine zq_if hc hH (by rfl) (tg := 84) (by rfl) (fun h1 => ?_) (fun h1 => ?_)
  · have h1 : (decide ((μ.1 0 7) = 0)) = false := decide_eq_false (cm_ne.mp h1)
    refine z_rcs hc hH 1 (pc' := 85) (lv' := [(0, .ref 0), (1, .int 1)]) (st' := [.ref 0]) (μ' := μ) (by rfl) ?_
    refine zq_gfi hc hH (by rfl) (ci := 5) (f := 8) (by rfl) (by decide +kernel) (by rfl) ?_
    exact hr 0 88 _ _ _ (some (.int (μ.1 0 8))) (by decide +kernel) (z_rx_ok hH (by rfl)) (⟨(by first | with_reducible rfl | (simp only [h1, cond_true, cond_false]; done) | rfl), (by simp only [h1, cond_true, cond_false])⟩)
  · have h1 : (decide ((μ.1 0 7) = 0)) = true := decide_eq_true (cn_ne.mp h1)
    refine z_rcs hc hH 2 (pc' := 88) (lv' := [(0, .ref 0), (1, .int 1)]) (st' := [.int (-1)]) (μ' := μ) (by rfl) ?_
    exact hr 0 88 _ _ _ (some (.int (-1))) (by decide +kernel) (z_rx_ok hH (by rfl)) (⟨(by first | with_reducible rfl | (simp only [h1, cond_true, cond_false]; done) | rfl), (by simp only [h1, cond_true, cond_false])⟩)
theorem gq_count2 (d : Nat) (hd : 4 ≤ d) (μ : zM) : z_C d mi_X6_count [.ref 0, .int 2] μ (fun r μ' => r = some (.int (μ.1 0 9)) ∧ μ' = μ) := by
  refine z_C_in (by decide) (by omega) (fun d' Z ed hc hr => ?_)
  have hH : zH mi_X6_count zt_X6_count 79 6 2 := hh_X6_count
  refine z_rcs hc hH 3 (pc' := 90) (lv' := [(0, .ref 0), (1, .int 2)]) (st' := [.ref 0]) (μ' := μ) (by rfl) ?_
  refine zq_gfi hc hH (by rfl) (ci := 5) (f := 9) (by rfl) (by decide +kernel) (by rfl) ?_
  exact hr 0 93 _ _ _ (some (.int (μ.1 0 9))) (by decide +kernel) (z_rx_ok hH (by rfl)) (⟨rfl, rfl⟩)
theorem gq_count3 (d : Nat) (hd : 4 ≤ d) (μ : zM) : z_C d mi_X6_count [.ref 0, .int 3] μ (fun r μ' => r = some (.int (μ.1 0 10)) ∧ μ' = μ) := by
  refine z_C_in (by decide) (by omega) (fun d' Z ed hc hr => ?_)
  have hH : zH mi_X6_count zt_X6_count 79 6 2 := hh_X6_count
  refine z_rcs hc hH 3 (pc' := 95) (lv' := [(0, .ref 0), (1, .int 3)]) (st' := [.ref 0]) (μ' := μ) (by rfl) ?_
  refine zq_gfi hc hH (by rfl) (ci := 5) (f := 10) (by rfl) (by decide +kernel) (by rfl) ?_
  exact hr 0 98 _ _ _ (some (.int (μ.1 0 10))) (by decide +kernel) (z_rx_ok hH (by rfl)) (⟨rfl, rfl⟩)
theorem gq_count4 (d : Nat) (hd : 4 ≤ d) (μ : zM) : z_C d mi_X6_count [.ref 0, .int 4] μ (fun r μ' => r = some (.int (μ.1 0 11)) ∧ μ' = μ) := by
  refine z_C_in (by decide) (by omega) (fun d' Z ed hc hr => ?_)
  have hH : zH mi_X6_count zt_X6_count 79 6 2 := hh_X6_count
  refine z_rcs hc hH 3 (pc' := 100) (lv' := [(0, .ref 0), (1, .int 4)]) (st' := [.ref 0]) (μ' := μ) (by rfl) ?_
  refine zq_gfi hc hH (by rfl) (ci := 5) (f := 11) (by rfl) (by decide +kernel) (by rfl) ?_
  exact hr 0 103 _ _ _ (some (.int (μ.1 0 11))) (by decide +kernel) (z_rx_ok hH (by rfl)) (⟨rfl, rfl⟩)
theorem gq_count5 (d : Nat) (hd : 4 ≤ d) (μ : zM) : z_C d mi_X6_count [.ref 0, .int 5] μ (fun r μ' => r = some (.int (μ.1 0 12)) ∧ μ' = μ) := by
  refine z_C_in (by decide) (by omega) (fun d' Z ed hc hr => ?_)
  have hH : zH mi_X6_count zt_X6_count 79 6 2 := hh_X6_count
  refine z_rcs hc hH 3 (pc' := 105) (lv' := [(0, .ref 0), (1, .int 5)]) (st' := [.ref 0]) (μ' := μ) (by rfl) ?_
  refine zq_gfi hc hH (by rfl) (ci := 5) (f := 12) (by rfl) (by decide +kernel) (by rfl) ?_
  exact hr 0 108 _ _ _ (some (.int (μ.1 0 12))) (by decide +kernel) (z_rx_ok hH (by rfl)) (⟨rfl, rfl⟩)
theorem gq_count6 (d : Nat) (hd : 4 ≤ d) (μ : zM) : z_C d mi_X6_count [.ref 0, .int 6] μ (fun r μ' => r = some (.int (xLf μ)) ∧ μ' = μ) := by
  refine z_C_in (by decide) (by omega) (fun d' Z ed hc hr => ?_)
  have hH : zH mi_X6_count zt_X6_count 79 6 2 := hh_X6_count
  refine z_rcs hc hH 3 (pc' := 110) (lv' := [(0, .ref 0), (1, .int 6)]) (st' := [.ref 0]) (μ' := μ) (by rfl) ?_
  refine zq_gfr hc hH (by rfl) (ci := 5) (f := 1) (q := 2) (by rfl) (by decide +kernel) (by rfl) (by decide +kernel) ?_
  refine zq_call hc (z_cx_ok hH (by rfl)) (gc_left d' (by omega) μ) (by decide +kernel) (fun r9 μ9 hq => ?_)
  obtain ⟨hμ9, rfl⟩ := hq
  rw [hμ9]
  clear hμ9 μ9
  show Z 0 116 [(0, .ref 0), (1, .int 6)] [.int (xLf μ)] μ
  exact hr 0 116 _ _ _ (some (.int (xLf μ))) (by decide +kernel) (z_rx_ok hH (by rfl)) (⟨rfl, rfl⟩)
theorem gq_count7 (d : Nat) (hd : 4 ≤ d) (μ : zM) : z_C d mi_X6_count [.ref 0, .int 7] μ (fun r μ' => r = some (.int (μ.1 2 3)) ∧ μ' = μ) := by
  refine z_C_in (by decide) (by omega) (fun d' Z ed hc hr => ?_)
  have hH : zH mi_X6_count zt_X6_count 79 6 2 := hh_X6_count
  refine z_rcs hc hH 3 (pc' := 118) (lv' := [(0, .ref 0), (1, .int 7)]) (st' := [.ref 0]) (μ' := μ) (by rfl) ?_
  refine zq_gfr hc hH (by rfl) (ci := 5) (f := 1) (q := 2) (by rfl) (by decide +kernel) (by rfl) (by decide +kernel) ?_
  refine zq_gfi hc hH (by rfl) (ci := 3) (f := 3) (by rfl) (by decide +kernel) (by rfl) ?_
  exact hr 0 124 _ _ _ (some (.int (μ.1 2 3))) (by decide +kernel) (z_rx_ok hH (by rfl)) (⟨rfl, rfl⟩)
theorem gq_count8 (d : Nat) (hd : 4 ≤ d) (μ : zM) : z_C d mi_X6_count [.ref 0, .int 8] μ (fun r μ' => r = some (.int (xSg μ)) ∧ μ' = μ) := by
  refine z_C_in (by decide) (by omega) (fun d' Z ed hc hr => ?_)
  have hH : zH mi_X6_count zt_X6_count 79 6 2 := hh_X6_count
  refine z_rcs hc hH 3 (pc' := 126) (lv' := [(0, .ref 0), (1, .int 8)]) (st' := [.ref 0]) (μ' := μ) (by rfl) ?_
  refine zq_gfr hc hH (by rfl) (ci := 5) (f := 1) (q := 2) (by rfl) (by decide +kernel) (by rfl) (by decide +kernel) ?_
  refine zq_call hc (z_cx_ok hH (by rfl)) (gc_signs d' (by omega) μ) (by decide +kernel) (fun r9 μ9 hq => ?_)
  obtain ⟨hμ9, rfl⟩ := hq
  rw [hμ9]
  clear hμ9 μ9
  show Z 0 132 [(0, .ref 0), (1, .int 8)] [.int (xSg μ)] μ
  exact hr 0 132 _ _ _ (some (.int (xSg μ))) (by decide +kernel) (z_rx_ok hH (by rfl)) (⟨rfl, rfl⟩)
theorem gq_count9 (d : Nat) (hd : 4 ≤ d) (μ : zM) : z_C d mi_X6_count [.ref 0, .int 9] μ (fun r μ' => r = some ((bif decide ((μ.1 0 13) = 0) then .int 0 else .int 1)) ∧ μ' = μ) := by
  refine z_C_in (by decide) (by omega) (fun d' Z ed hc hr => ?_)
  have hH : zH mi_X6_count zt_X6_count 79 6 2 := hh_X6_count
  refine z_rcs hc hH 3 (pc' := 134) (lv' := [(0, .ref 0), (1, .int 9)]) (st' := [.ref 0]) (μ' := μ) (by rfl) ?_
  refine zq_gfi hc hH (by rfl) (ci := 5) (f := 13) (by rfl) (by decide +kernel) (by rfl) ?_
  refine zq_if hc hH (by rfl) (tg := 144) (by rfl) (fun h1 => ?_) (fun h1 => ?_)
  · have h1 : (decide ((μ.1 0 13) = 0)) = true := decide_eq_true (cm_eq9.mp h1)
    refine z_rcs hc hH 1 (pc' := 145) (lv' := [(0, .ref 0), (1, .int 9)]) (st' := [.int 0]) (μ' := μ) (by rfl) ?_
    exact hr 0 145 _ _ _ (some (.int 0)) (by decide +kernel) (z_rx_ok hH (by rfl)) (⟨(by first | with_reducible rfl | (simp only [h1, cond_true, cond_false]; done) | rfl), (by simp only [h1, cond_true, cond_false])⟩)
  · have h1 : (decide ((μ.1 0 13) = 0)) = false := decide_eq_false (cn_eq.mp h1)
    refine z_rcs hc hH 2 (pc' := 145) (lv' := [(0, .ref 0), (1, .int 9)]) (st' := [.int 1]) (μ' := μ) (by rfl) ?_
    exact hr 0 145 _ _ _ (some (.int 1)) (by decide +kernel) (z_rx_ok hH (by rfl)) (⟨(by first | with_reducible rfl | (simp only [h1, cond_true, cond_false]; done) | rfl), (by simp only [h1, cond_true, cond_false])⟩)
theorem gq_count10 (d : Nat) (hd : 4 ≤ d) (μ : zM) : z_C d mi_X6_count [.ref 0, .int 10] μ (fun r μ' => r = some (.int (μ.1 0 14)) ∧ μ' = μ) := by
  refine z_C_in (by decide) (by omega) (fun d' Z ed hc hr => ?_)
  have hH : zH mi_X6_count zt_X6_count 79 6 2 := hh_X6_count
  refine z_rcs hc hH 3 (pc' := 147) (lv' := [(0, .ref 0), (1, .int 10)]) (st' := [.ref 0]) (μ' := μ) (by rfl) ?_
  refine zq_gfi hc hH (by rfl) (ci := 5) (f := 14) (by rfl) (by decide +kernel) (by rfl) ?_
  exact hr 0 150 _ _ _ (some (.int (μ.1 0 14))) (by decide +kernel) (z_rx_ok hH (by rfl)) (⟨rfl, rfl⟩)
theorem gq_count11 (d : Nat) (hd : 4 ≤ d) (μ : zM) : z_C d mi_X6_count [.ref 0, .int 11] μ (fun r μ' => r = some (.int (μ.1 0 6)) ∧ μ' = μ) := by
  refine z_C_in (by decide) (by omega) (fun d' Z ed hc hr => ?_)
  have hH : zH mi_X6_count zt_X6_count 79 6 2 := hh_X6_count
  refine z_rcs hc hH 3 (pc' := 152) (lv' := [(0, .ref 0), (1, .int 11)]) (st' := [.ref 0]) (μ' := μ) (by rfl) ?_
  refine zq_gfi hc hH (by rfl) (ci := 5) (f := 6) (by rfl) (by decide +kernel) (by rfl) ?_
  exact hr 0 155 _ _ _ (some (.int (μ.1 0 6))) (by decide +kernel) (z_rx_ok hH (by rfl)) (⟨rfl, rfl⟩)
theorem gq_count12 (d : Nat) (hd : 4 ≤ d) (μ : zM) : z_C d mi_X6_count [.ref 0, .int 12] μ (fun r μ' => r = some ((bif decide ((μ.1 0 7) = 0) then .int (-1) else .int (μ.1 0 15))) ∧ μ' = μ) := by
  refine z_C_in (by decide) (by omega) (fun d' Z ed hc hr => ?_)
  have hH : zH mi_X6_count zt_X6_count 79 6 2 := hh_X6_count
  refine z_rcs hc hH 3 (pc' := 157) (lv' := [(0, .ref 0), (1, .int 12)]) (st' := [.ref 0]) (μ' := μ) (by rfl) ?_
  refine zq_gfi hc hH (by rfl) (ci := 5) (f := 7) (by rfl) (by decide +kernel) (by rfl) ?_
  refine zq_if hc hH (by rfl) (tg := 167) (by rfl) (fun h1 => ?_) (fun h1 => ?_)
  · have h1 : (decide ((μ.1 0 7) = 0)) = false := decide_eq_false (cm_ne.mp h1)
    refine z_rcs hc hH 1 (pc' := 168) (lv' := [(0, .ref 0), (1, .int 12)]) (st' := [.ref 0]) (μ' := μ) (by rfl) ?_
    refine zq_gfi hc hH (by rfl) (ci := 5) (f := 15) (by rfl) (by decide +kernel) (by rfl) ?_
    exact hr 0 171 _ _ _ (some (.int (μ.1 0 15))) (by decide +kernel) (z_rx_ok hH (by rfl)) (⟨(by first | with_reducible rfl | (simp only [h1, cond_true, cond_false]; done) | rfl), (by simp only [h1, cond_true, cond_false])⟩)
  · have h1 : (decide ((μ.1 0 7) = 0)) = true := decide_eq_true (cn_ne.mp h1)
    refine z_rcs hc hH 2 (pc' := 171) (lv' := [(0, .ref 0), (1, .int 12)]) (st' := [.int (-1)]) (μ' := μ) (by rfl) ?_
    exact hr 0 171 _ _ _ (some (.int (-1))) (by decide +kernel) (z_rx_ok hH (by rfl)) (⟨(by first | with_reducible rfl | (simp only [h1, cond_true, cond_false]; done) | rfl), (by simp only [h1, cond_true, cond_false])⟩)
theorem gq_countd (d : Nat) (hd : 4 ≤ d) (μ : zM) (x : Int32) (hx : (decide (x.toInt < 0) || decide (12 < x.toInt)) = true) : z_C d mi_X6_count [.ref 0, .int x] μ (fun r μ' => r = some (.int (-1)) ∧ μ' = μ) := by
  refine z_C_in (by decide) (by omega) (fun d' Z ed hc hr => ?_)
  have hH : zH mi_X6_count zt_X6_count 79 6 2 := hh_X6_count
  refine z_rcs hc hH 1 (pc' := 1) (lv' := [(0, .ref 0), (1, .int x)]) (st' := [.int x]) (μ' := μ) (by rfl) ?_
  refine zq_tsd hc hH (by rfl) (tg := 172) (by rfl) hx ?_
  refine z_rcs hc hH 1 (pc' := 173) (lv' := [(0, .ref 0), (1, .int x)]) (st' := [.int (-1)]) (μ' := μ) (by rfl) ?_
  exact hr 0 173 _ _ _ (some (.int (-1))) (by decide +kernel) (z_rx_ok hH (by rfl)) (⟨rfl, rfl⟩)
theorem gq_part0 (d : Nat) (hd : 1 ≤ d) (μ : zM) (s : Nat) (hs4 : s < 4) : z_C d mi_X5_part [.ref (25 + 8 * s), .int 0] μ (fun r μ' => r = some (.int (μ.1 (25 + 8 * s) 0)) ∧ μ' = μ) := by
  refine z_C_in (by decide) (by omega) (fun d' Z ed hc hr => ?_)
  have hH : zH mi_X5_part zt_X5_part 79 5 2 := hh_X5_part
  refine z_rcs hc hH 3 (pc' := 45) (lv' := [(0, .ref (25 + 8 * s)), (1, .int 0)]) (st' := [.ref (25 + 8 * s)]) (μ' := μ) (by rfl) ?_
  refine zq_gfi hc hH (by rfl) (ci := 4) (f := 0) (by rfl) (sj (P := fun i => okf 79 4 0 (25 + 8 * i)) hs4 (by decide +kernel)) (by rfl) ?_
  exact hr 0 48 _ _ _ (some (.int (μ.1 (25 + 8 * s) 0))) (by decide +kernel) (z_rx_ok hH (by rfl)) (⟨rfl, rfl⟩)
theorem gq_part1 (d : Nat) (hd : 1 ≤ d) (μ : zM) (s : Nat) (hs4 : s < 4) : z_C d mi_X5_part [.ref (25 + 8 * s), .int 1] μ (fun r μ' => r = some (.int (μ.1 (25 + 8 * s) 1)) ∧ μ' = μ) := by
  refine z_C_in (by decide) (by omega) (fun d' Z ed hc hr => ?_)
  have hH : zH mi_X5_part zt_X5_part 79 5 2 := hh_X5_part
  refine z_rcs hc hH 3 (pc' := 50) (lv' := [(0, .ref (25 + 8 * s)), (1, .int 1)]) (st' := [.ref (25 + 8 * s)]) (μ' := μ) (by rfl) ?_
  refine zq_gfi hc hH (by rfl) (ci := 4) (f := 1) (by rfl) (sj (P := fun i => okf 79 4 1 (25 + 8 * i)) hs4 (by decide +kernel)) (by rfl) ?_
  exact hr 0 53 _ _ _ (some (.int (μ.1 (25 + 8 * s) 1))) (by decide +kernel) (z_rx_ok hH (by rfl)) (⟨rfl, rfl⟩)
theorem gq_part2 (d : Nat) (hd : 1 ≤ d) (μ : zM) (s : Nat) (hs4 : s < 4) : z_C d mi_X5_part [.ref (25 + 8 * s), .int 2] μ (fun r μ' => r = some (.int (μ.1 (25 + 8 * s) 2)) ∧ μ' = μ) := by
  refine z_C_in (by decide) (by omega) (fun d' Z ed hc hr => ?_)
  have hH : zH mi_X5_part zt_X5_part 79 5 2 := hh_X5_part
  refine z_rcs hc hH 3 (pc' := 55) (lv' := [(0, .ref (25 + 8 * s)), (1, .int 2)]) (st' := [.ref (25 + 8 * s)]) (μ' := μ) (by rfl) ?_
  refine zq_gfi hc hH (by rfl) (ci := 4) (f := 2) (by rfl) (sj (P := fun i => okf 79 4 2 (25 + 8 * i)) hs4 (by decide +kernel)) (by rfl) ?_
  exact hr 0 58 _ _ _ (some (.int (μ.1 (25 + 8 * s) 2))) (by decide +kernel) (z_rx_ok hH (by rfl)) (⟨rfl, rfl⟩)
theorem gq_part3 (d : Nat) (hd : 1 ≤ d) (μ : zM) (s : Nat) (hs4 : s < 4) : z_C d mi_X5_part [.ref (25 + 8 * s), .int 3] μ (fun r μ' => r = some (.int (μ.1 (25 + 8 * s) 3)) ∧ μ' = μ) := by
  refine z_C_in (by decide) (by omega) (fun d' Z ed hc hr => ?_)
  have hH : zH mi_X5_part zt_X5_part 79 5 2 := hh_X5_part
  refine z_rcs hc hH 3 (pc' := 60) (lv' := [(0, .ref (25 + 8 * s)), (1, .int 3)]) (st' := [.ref (25 + 8 * s)]) (μ' := μ) (by rfl) ?_
  refine zq_gfi hc hH (by rfl) (ci := 4) (f := 3) (by rfl) (sj (P := fun i => okf 79 4 3 (25 + 8 * i)) hs4 (by decide +kernel)) (by rfl) ?_
  exact hr 0 63 _ _ _ (some (.int (μ.1 (25 + 8 * s) 3))) (by decide +kernel) (z_rx_ok hH (by rfl)) (⟨rfl, rfl⟩)
theorem gq_part4 (d : Nat) (hd : 1 ≤ d) (μ : zM) (s : Nat) (hs4 : s < 4) : z_C d mi_X5_part [.ref (25 + 8 * s), .int 4] μ (fun r μ' => r = some (.int (μ.1 (25 + 8 * s) 4)) ∧ μ' = μ) := by
  refine z_C_in (by decide) (by omega) (fun d' Z ed hc hr => ?_)
  have hH : zH mi_X5_part zt_X5_part 79 5 2 := hh_X5_part
  refine z_rcs hc hH 3 (pc' := 65) (lv' := [(0, .ref (25 + 8 * s)), (1, .int 4)]) (st' := [.ref (25 + 8 * s)]) (μ' := μ) (by rfl) ?_
  refine zq_gfi hc hH (by rfl) (ci := 4) (f := 4) (by rfl) (sj (P := fun i => okf 79 4 4 (25 + 8 * i)) hs4 (by decide +kernel)) (by rfl) ?_
  exact hr 0 68 _ _ _ (some (.int (μ.1 (25 + 8 * s) 4))) (by decide +kernel) (z_rx_ok hH (by rfl)) (⟨rfl, rfl⟩)
theorem gq_part5 (d : Nat) (hd : 1 ≤ d) (μ : zM) (s : Nat) (hs4 : s < 4) : z_C d mi_X5_part [.ref (25 + 8 * s), .int 5] μ (fun r μ' => r = some (.int (μ.1 (25 + 8 * s) 5)) ∧ μ' = μ) := by
  refine z_C_in (by decide) (by omega) (fun d' Z ed hc hr => ?_)
  have hH : zH mi_X5_part zt_X5_part 79 5 2 := hh_X5_part
  refine z_rcs hc hH 3 (pc' := 70) (lv' := [(0, .ref (25 + 8 * s)), (1, .int 5)]) (st' := [.ref (25 + 8 * s)]) (μ' := μ) (by rfl) ?_
  refine zq_gfi hc hH (by rfl) (ci := 4) (f := 5) (by rfl) (sj (P := fun i => okf 79 4 5 (25 + 8 * i)) hs4 (by decide +kernel)) (by rfl) ?_
  exact hr 0 73 _ _ _ (some (.int (μ.1 (25 + 8 * s) 5))) (by decide +kernel) (z_rx_ok hH (by rfl)) (⟨rfl, rfl⟩)
theorem gq_part6 (d : Nat) (hd : 1 ≤ d) (μ : zM) (s : Nat) (hs4 : s < 4) : z_C d mi_X5_part [.ref (25 + 8 * s), .int 6] μ (fun r μ' => r = some (.int (μ.1 (25 + 8 * s) 6)) ∧ μ' = μ) := by
  refine z_C_in (by decide) (by omega) (fun d' Z ed hc hr => ?_)
  have hH : zH mi_X5_part zt_X5_part 79 5 2 := hh_X5_part
  refine z_rcs hc hH 3 (pc' := 75) (lv' := [(0, .ref (25 + 8 * s)), (1, .int 6)]) (st' := [.ref (25 + 8 * s)]) (μ' := μ) (by rfl) ?_
  refine zq_gfi hc hH (by rfl) (ci := 4) (f := 6) (by rfl) (sj (P := fun i => okf 79 4 6 (25 + 8 * i)) hs4 (by decide +kernel)) (by rfl) ?_
  exact hr 0 78 _ _ _ (some (.int (μ.1 (25 + 8 * s) 6))) (by decide +kernel) (z_rx_ok hH (by rfl)) (⟨rfl, rfl⟩)
theorem gq_partd (d : Nat) (hd : 1 ≤ d) (μ : zM) (s : Nat) (hs4 : s < 4) (x : Int32) (hx : (decide (x.toInt < 0) || decide (6 < x.toInt)) = true) : z_C d mi_X5_part [.ref (25 + 8 * s), .int x] μ (fun r μ' => r = some (.int (-1)) ∧ μ' = μ) := by
  refine z_C_in (by decide) (by omega) (fun d' Z ed hc hr => ?_)
  have hH : zH mi_X5_part zt_X5_part 79 5 2 := hh_X5_part
  refine z_rcs hc hH 1 (pc' := 1) (lv' := [(0, .ref (25 + 8 * s)), (1, .int x)]) (st' := [.int x]) (μ' := μ) (by rfl) ?_
  refine zq_tsd hc hH (by rfl) (tg := 79) (by rfl) hx ?_
  refine z_rcs hc hH 1 (pc' := 80) (lv' := [(0, .ref (25 + 8 * s)), (1, .int x)]) (st' := [.int (-1)]) (μ' := μ) (by rfl) ?_
  exact hr 0 80 _ _ _ (some (.int (-1))) (by decide +kernel) (z_rx_ok hH (by rfl)) (⟨rfl, rfl⟩)

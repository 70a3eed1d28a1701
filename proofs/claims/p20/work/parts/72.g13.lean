/-! the game: win of the class -/
set_option maxRecDepth 8000
theorem kn_eq {a b : Nat} (h : a = b) : decide (nI a = nI b) = true := decide_eq_true (by rw [h])
theorem kn_ne {a b : Nat} (ha : a < 2147483648) (hb : b < 2147483648) (h : a ≠ b) : decide (nI a = nI b) = false := decide_eq_false (fun e => h (by have e2 := congrArg Int32.toInt e; rw [nI_toInt ha, nI_toInt hb] at e2; omega))
theorem kn_m1 {a : Nat} (ha : a < 2147483648) : decide (nI a = -1) = false := decide_eq_false (fun e => by have e2 := congrArg Int32.toInt e; rw [nI_toInt ha, show (-1 : Int32).toInt = -1 from rfl] at e2; omega)
noncomputable abbrev hnd (x : Int32) : Int32 := ((x + 99) / 100) * 100
theorem rcW_o {μ : zM} {wc r k : Nat} {s pa go : Int32} (h : r ≠ 25 + 8 * wc ∧ (r ≠ 0 ∨ k ≠ 6)) : (rcW μ wc s pa go).1 r k = μ.1 r k := by
  have z : ∀ (μ : zM) (x : Int32), (z_ui μ 0 6 x).1 r k = μ.1 r k := fun μ x => by
    rcases h.2 with c | c
    · exact ui_o c
    · exact ui_k c
  unfold rcW
  rw [ui_o h.1, ui_o h.1, uj_i, ui_o h.1, ui_o h.1, ui_o h.1, ui_o h.1, ui_o h.1, z]
theorem rcW_j {μ : zM} {wc r k : Nat} {s pa go : Int32} (h : r ≠ 25 + 8 * wc) : (rcW μ wc s pa go).2.1 r k = μ.2.1 r k := by
  unfold rcW
  rw [ui_j, ui_j, uj_o h, ui_j, ui_j, ui_j, ui_j, ui_j, ui_j]
noncomputable def wn1 (μj : zM) (t dl e u1 u2 u3 : Nat) : zM := eH1 (rcW (z_ui (z_ui (z_ui (z_ui (z_ui μj 0 12 0) (18 + 8 * u1) 4 ((μj.1 (18 + 8 * u1) 4) - ((hnd ((μj.1 4 0) * 2)) + (100 * (μj.1 0 11))))) (18 + 8 * u2) 4 ((μj.1 (18 + 8 * u2) 4) - ((hnd ((μj.1 4 0) * 2)) + (100 * (μj.1 0 11))))) (18 + 8 * u3) 4 ((μj.1 (18 + 8 * u3) 4) - ((hnd ((μj.1 4 0) * 2)) + (100 * (μj.1 0 11))))) (18 + 8 * t) 4 ((μj.1 (18 + 8 * t) 4) + (((((μj.1 0 12) * 1000) + ((hnd ((μj.1 4 0) * 2)) + (100 * (μj.1 0 11)))) + ((hnd ((μj.1 4 0) * 2)) + (100 * (μj.1 0 11)))) + ((hnd ((μj.1 4 0) * 2)) + (100 * (μj.1 0 11)))))) 0 (nI t) (-1) (((((μj.1 0 12) * 1000) + ((hnd ((μj.1 4 0) * 2)) + (100 * (μj.1 0 11)))) + ((hnd ((μj.1 4 0) * 2)) + (100 * (μj.1 0 11)))) + ((hnd ((μj.1 4 0) * 2)) + (100 * (μj.1 0 11))))) false (xBk (rcW (z_ui (z_ui (z_ui (z_ui (z_ui μj 0 12 0) (18 + 8 * u1) 4 ((μj.1 (18 + 8 * u1) 4) - ((hnd ((μj.1 4 0) * 2)) + (100 * (μj.1 0 11))))) (18 + 8 * u2) 4 ((μj.1 (18 + 8 * u2) 4) - ((hnd ((μj.1 4 0) * 2)) + (100 * (μj.1 0 11))))) (18 + 8 * u3) 4 ((μj.1 (18 + 8 * u3) 4) - ((hnd ((μj.1 4 0) * 2)) + (100 * (μj.1 0 11))))) (18 + 8 * t) 4 ((μj.1 (18 + 8 * t) 4) + (((((μj.1 0 12) * 1000) + ((hnd ((μj.1 4 0) * 2)) + (100 * (μj.1 0 11)))) + ((hnd ((μj.1 4 0) * 2)) + (100 * (μj.1 0 11)))) + ((hnd ((μj.1 4 0) * 2)) + (100 * (μj.1 0 11)))))) 0 (nI t) (-1) (((((μj.1 0 12) * 1000) + ((hnd ((μj.1 4 0) * 2)) + (100 * (μj.1 0 11)))) + ((hnd ((μj.1 4 0) * 2)) + (100 * (μj.1 0 11)))) + ((hnd ((μj.1 4 0) * 2)) + (100 * (μj.1 0 11)))))) dl e (rcM (rcW (z_ui (z_ui (z_ui (z_ui (z_ui μj 0 12 0) (18 + 8 * u1) 4 ((μj.1 (18 + 8 * u1) 4) - ((hnd ((μj.1 4 0) * 2)) + (100 * (μj.1 0 11))))) (18 + 8 * u2) 4 ((μj.1 (18 + 8 * u2) 4) - ((hnd ((μj.1 4 0) * 2)) + (100 * (μj.1 0 11))))) (18 + 8 * u3) 4 ((μj.1 (18 + 8 * u3) 4) - ((hnd ((μj.1 4 0) * 2)) + (100 * (μj.1 0 11))))) (18 + 8 * t) 4 ((μj.1 (18 + 8 * t) 4) + (((((μj.1 0 12) * 1000) + ((hnd ((μj.1 4 0) * 2)) + (100 * (μj.1 0 11)))) + ((hnd ((μj.1 4 0) * 2)) + (100 * (μj.1 0 11)))) + ((hnd ((μj.1 4 0) * 2)) + (100 * (μj.1 0 11)))))) 0 (nI t) (-1) (((((μj.1 0 12) * 1000) + ((hnd ((μj.1 4 0) * 2)) + (100 * (μj.1 0 11)))) + ((hnd ((μj.1 4 0) * 2)) + (100 * (μj.1 0 11)))) + ((hnd ((μj.1 4 0) * 2)) + (100 * (μj.1 0 11))))))
theorem gc_win1 (d : Nat) (hd : 11 ≤ d) (μ : zM) (t dl e c u1 u2 u3 : Nat) (ht4 : t < 4) (ht : μ.1 0 8 = nI t) (hdl4 : dl < 4) (he : (dl + 1) % 4 = e) (hc34 : c < 34) (hc15 : μ.1 0 15 = nI c) (hu1 : (t + 1) % 4 = u1) (hu14 : u1 < 4) (hu2 : (t + 2) % 4 = u2) (hu24 : u2 < 4) (hu3 : (t + 3) % 4 = u3) (hu34 : u3 < 4) (heq : t = dl) (J : zM → Prop) (hJX : ∀ m, J m → m.1 0 8 = nI t ∧ m.1 0 9 = nI dl ∧ m.1 0 6 = nI 0) (hwg : ∀ d, 10 ≤ d → z_C d mi_X6_weighHand [.ref 0, .int (nI t), .int 1] μ (fun r μ' => ∃ μj, J μj ∧ μ' = μj ∧ r = some (.int (μj.1 4 0)))) : z_C d mi_X6_win [.ref 0] μ (fun r μ' => (decide (μ.1 0 7 = 1) = false ∧ r = some (.int 0) ∧ μ' = μ) ∨ (decide (μ.1 0 7 = 1) = true ∧ ∃ μj, J μj ∧ ((decide (μj.1 4 0 = 0) = true ∧ r = some (.int 0) ∧ μ' = μj) ∨ (decide (μj.1 4 0 = 0) = false ∧ r = some (.int 1) ∧ μ' = wn1 μj t dl e u1 u2 u3)))) := by
  refine z_C_in (by decide) (by omega) (fun d' Z ed hc hr => ?_)
  have hH : zH mi_X6_win zt_X6_win 79 6 6 := hh_X6_win
  refine z_rcs hc hH 1 (pc' := 1) (lv' := [(0, .ref 0)]) (st' := [.ref 0]) (μ' := μ) (by rfl) ?_
  refine zq_gfi hc hH (by rfl) (ci := 5) (f := 7) (by rfl) (by decide +kernel) (by rfl) ?_
  refine z_rcs hc hH 1 (pc' := 5) (lv' := [(0, .ref 0)]) (st' := [.int 1, .int (μ.1 0 7)]) (μ' := μ) (by rfl) ?_
  refine zq_ic hc hH (by rfl) (tg := 28) (by rfl) (fun h1 => ?_) (fun h1 => ?_)
  · have h1 : (decide ((μ.1 0 7) = 1)) = false := decide_eq_false (cm_ne.mp h1)
    refine z_rcs hc hH 1 (pc' := 29) (lv' := [(0, .ref 0)]) (st' := [.int 0]) (μ' := μ) (by rfl) ?_
    exact hr 0 29 _ _ _ (some (.int 0)) (by decide +kernel) (z_rx_ok hH (by rfl)) (Or.inl ⟨h1, rfl, rfl⟩)
  · have h1 : (decide ((μ.1 0 7) = 1)) = true := decide_eq_true (cn_ne.mp h1)
    refine z_rcs hc hH 1 (pc' := 9) (lv' := [(0, .ref 0)]) (st' := [.ref 0]) (μ' := μ) (by rfl) ?_
    refine zq_gfi hc hH (by rfl) (ci := 5) (f := 15) (by rfl) (by decide +kernel) (by rfl) ?_
    rw [hc15]
    refine z_rcs hc hH 1 (pc' := 13) (lv' := [(0, .ref 0)]) (st' := [.int (-1), .int (nI c)]) (μ' := μ) (by rfl) ?_
    refine zq_ic hc hH (by rfl) (tg := 28) (by rfl) (fun h2 => ?_) (fun h2 => ?_)
    · have h2 : (decide ((nI c) = (-1))) = true := decide_eq_true (cm_eq9.mp h2)
      exact absurd (Eq.trans (Eq.symm (kn_m1 (by omega))) h2) (by decide)
    · have h2 : (decide ((nI c) = (-1))) = false := decide_eq_false (cn_eq.mp h2)
      refine z_rcs hc hH 2 (pc' := 18) (lv' := [(0, .ref 0)]) (st' := [.ref 0, .ref 0]) (μ' := μ) (by rfl) ?_
      refine zq_gfi hc hH (by rfl) (ci := 5) (f := 8) (by rfl) (by decide +kernel) (by rfl) ?_
      rw [ht]
      refine z_rcs hc hH 1 (pc' := 22) (lv' := [(0, .ref 0)]) (st' := [.int 1, .int (nI t), .ref 0]) (μ' := μ) (by rfl) ?_
      refine zq_call hc (z_cx_ok hH (by rfl)) (hwg d' (by omega)) (by decide +kernel) (fun r9 μ9 hq => ?_)
      obtain ⟨μj, hJ, hm9, rfl⟩ := hq
      rw [hm9]
      clear hm9 μ9
      obtain ⟨hJ8, hJ9, hJ6⟩ := hJX _ hJ
      show Z 0 25 [(0, .ref 0)] [.int (μj.1 4 0)] μj
      refine zq_if hc hH (by rfl) (tg := 30) (by rfl) (fun h3 => ?_) (fun h3 => ?_)
      · have h3 : (decide ((μj.1 4 0) = 0)) = false := decide_eq_false (cm_ne.mp h3)
        refine z_rcs hc hH 1 (pc' := 31) (lv' := [(0, .ref 0)]) (st' := [.ref 0]) (μ' := μj) (by rfl) ?_
        refine zq_gfi hc hH (by rfl) (ci := 5) (f := 12) (by rfl) (by decide +kernel) (by rfl) ?_
        refine z_rcs hc hH 5 (pc' := 41) (lv' := [(1, .int ((μj.1 0 12) * 1000)), (0, .ref 0)]) (st' := [.int 0, .ref 0]) (μ' := μj) (by rfl) ?_
        refine zq_pfi hc hH (by rfl) (ci := 5) (f := 12) (by rfl) (by decide +kernel) (by rfl) ?_
        show Z 0 44 [(1, .int ((μj.1 0 12) * 1000)), (0, .ref 0)] [] (z_ui μj 0 12 0)
        refine z_rcs hc hH 6 (pc' := 52) (lv' := [(2, .int 1), (1, .int ((μj.1 0 12) * 1000)), (0, .ref 0)]) (st' := [.ref 0]) (μ' := z_ui μj 0 12 0) (by rfl) ?_
        refine zq_gfi hc hH (by rfl) (ci := 5) (f := 8) (by rfl) (by decide +kernel) (by rfl) ?_
        refine zV1 (Z := Z) (ui_k (by first | decide | omega)) ?_
        rw [hJ8]
        refine z_rcs hc hH 2 (pc' := 57) (lv' := [(2, .int 1), (1, .int ((μj.1 0 12) * 1000)), (0, .ref 0)]) (st' := [.int ((nI t) + 1)]) (μ' := z_ui μj 0 12 0) (by rfl) ?_
        rw [show nI t + 1 = nI (t + 1) from by rw [show (1 : Int32) = nI 1 from rfl, nI_add]]
        refine z_rcs hc hH 2 (pc' := 59) (lv' := [(2, .int 1), (1, .int ((μj.1 0 12) * 1000)), (0, .ref 0)]) (st' := [.int ((nI (t + 1)) &&& 3)]) (μ' := z_ui μj 0 12 0) (by rfl) ?_
        rw [show nI (t + 1) &&& 3 = nI u1 from by rw [and3 (by omega), hu1]]
        refine z_rcs hc hH 2 (pc' := 61) (lv' := [(3, .int (nI u1)), (2, .int 1), (1, .int ((μj.1 0 12) * 1000)), (0, .ref 0)]) (st' := [.ref 0]) (μ' := z_ui μj 0 12 0) (by rfl) ?_
        refine zq_gfi hc hH (by rfl) (ci := 5) (f := 8) (by rfl) (by decide +kernel) (by rfl) ?_
        refine zV1 (Z := Z) (ui_k (by first | decide | omega)) ?_
        rw [hJ8]
        refine z_rcs hc hH 1 (pc' := 65) (lv' := [(3, .int (nI u1)), (2, .int 1), (1, .int ((μj.1 0 12) * 1000)), (0, .ref 0)]) (st' := [.ref 0, .int (nI t)]) (μ' := z_ui μj 0 12 0) (by rfl) ?_
        refine zq_gfi hc hH (by rfl) (ci := 5) (f := 9) (by rfl) (by decide +kernel) (by rfl) ?_
        refine zV1 (Z := Z) (ui_k (by first | decide | omega)) ?_
        rw [hJ9]
        refine zq_ic hc hH (by rfl) (tg := 79) (by rfl) (fun h4 => ?_) (fun h4 => ?_)
        · have h4 : (decide ((nI t) = (nI dl))) = true := decide_eq_true (cm_eq9.mp h4)
          refine z_rcs hc hH 4 (pc' := 87) (lv' := [(4, .int 2), (3, .int (nI u1)), (2, .int 1), (1, .int ((μj.1 0 12) * 1000)), (0, .ref 0)]) (st' := [.ref 0]) (μ' := z_ui μj 0 12 0) (by rfl) ?_
          refine zq_gfr hc hH (by rfl) (ci := 5) (f := 2) (q := 4) (by rfl) (by decide +kernel) (by rfl) (by decide +kernel) ?_
          refine zq_gfi hc hH (by rfl) (ci := 0) (f := 0) (by rfl) (by decide +kernel) (by rfl) ?_
          refine zV1 (Z := Z) (ui_o (by first | decide | omega)) ?_
          refine z_rcs hc hH 2 (pc' := 96) (lv' := [(4, .int 2), (3, .int (nI u1)), (2, .int 1), (1, .int ((μj.1 0 12) * 1000)), (0, .ref 0)]) (st' := [.int ((μj.1 4 0) * 2)]) (μ' := z_ui μj 0 12 0) (by rfl) ?_
          refine zq_call hc (z_cx_ok hH (by rfl)) (gc_hundreds d' (by omega) (z_ui μj 0 12 0) ((μj.1 4 0) * 2)) (by decide +kernel) (fun r9 μ9 hq => ?_)
          obtain ⟨hμ9, rfl⟩ := hq
          rw [hμ9]
          clear hμ9 μ9
          show Z 0 99 [(4, .int 2), (3, .int (nI u1)), (2, .int 1), (1, .int ((μj.1 0 12) * 1000)), (0, .ref 0)] [.int (hnd ((μj.1 4 0) * 2))] (z_ui μj 0 12 0)
          refine z_rcs hc hH 2 (pc' := 102) (lv' := [(4, .int 2), (3, .int (nI u1)), (2, .int 1), (1, .int ((μj.1 0 12) * 1000)), (0, .ref 0)]) (st' := [.ref 0, .int 100, .int (hnd ((μj.1 4 0) * 2))]) (μ' := z_ui μj 0 12 0) (by rfl) ?_
          refine zq_gfi hc hH (by rfl) (ci := 5) (f := 11) (by rfl) (by decide +kernel) (by rfl) ?_
          refine zV1 (Z := Z) (ui_k (by first | decide | omega)) ?_
          refine z_rcs hc hH 5 (pc' := 111) (lv' := [(5, .int ((hnd ((μj.1 4 0) * 2)) + (100 * (μj.1 0 11)))), (4, .int 2), (3, .int (nI u1)), (2, .int 1), (1, .int ((μj.1 0 12) * 1000)), (0, .ref 0)]) (st' := [.int (nI u1), .ref 0]) (μ' := z_ui μj 0 12 0) (by rfl) ?_
          refine zq_call hc (z_cx_ok hH (by rfl)) (gc_at4 d' (by omega) (z_ui μj 0 12 0) u1 hu14) (by decide +kernel) (fun r9 μ9 hq => ?_)
          obtain ⟨hμ9, rfl⟩ := hq
          rw [hμ9]
          clear hμ9 μ9
          show Z 0 114 [(5, .int ((hnd ((μj.1 4 0) * 2)) + (100 * (μj.1 0 11)))), (4, .int 2), (3, .int (nI u1)), (2, .int 1), (1, .int ((μj.1 0 12) * 1000)), (0, .ref 0)] [.ref (18 + 8 * u1)] (z_ui μj 0 12 0)
          refine z_rcs hc hH 1 (pc' := 115) (lv' := [(5, .int ((hnd ((μj.1 4 0) * 2)) + (100 * (μj.1 0 11)))), (4, .int 2), (3, .int (nI u1)), (2, .int 1), (1, .int ((μj.1 0 12) * 1000)), (0, .ref 0)]) (st' := [.ref (18 + 8 * u1), .ref (18 + 8 * u1)]) (μ' := z_ui μj 0 12 0) (by rfl) ?_
          refine zq_gfi hc hH (by rfl) (ci := 1) (f := 4) (by rfl) (sj (P := fun i => okf 79 1 4 (18 + 8 * i)) hu14 (by decide +kernel)) (by rfl) ?_
          refine zV1 (Z := Z) (ui_o (by first | decide | omega)) ?_
          refine z_rcs hc hH 2 (pc' := 121) (lv' := [(5, .int ((hnd ((μj.1 4 0) * 2)) + (100 * (μj.1 0 11)))), (4, .int 2), (3, .int (nI u1)), (2, .int 1), (1, .int ((μj.1 0 12) * 1000)), (0, .ref 0)]) (st' := [.int ((μj.1 (18 + 8 * u1) 4) - ((hnd ((μj.1 4 0) * 2)) + (100 * (μj.1 0 11)))), .ref (18 + 8 * u1)]) (μ' := z_ui μj 0 12 0) (by rfl) ?_
          refine zq_pfi hc hH (by rfl) (ci := 1) (f := 4) (by rfl) (sj (P := fun i => okf 79 1 4 (18 + 8 * i)) hu14 (by decide +kernel)) (by rfl) ?_
          show Z 0 124 [(5, .int ((hnd ((μj.1 4 0) * 2)) + (100 * (μj.1 0 11)))), (4, .int 2), (3, .int (nI u1)), (2, .int 1), (1, .int ((μj.1 0 12) * 1000)), (0, .ref 0)] [] (z_ui (z_ui μj 0 12 0) (18 + 8 * u1) 4 ((μj.1 (18 + 8 * u1) 4) - ((hnd ((μj.1 4 0) * 2)) + (100 * (μj.1 0 11)))))
          refine z_rcs0 hc hH 10 (pc' := 52) (lv' := [(2, .int 2), (1, .int (((μj.1 0 12) * 1000) + ((hnd ((μj.1 4 0) * 2)) + (100 * (μj.1 0 11))))), (5, .int ((hnd ((μj.1 4 0) * 2)) + (100 * (μj.1 0 11)))), (4, .int 2), (3, .int (nI u1)), (0, .ref 0)]) (st' := [.ref 0]) (by rfl) ?_
          refine zq_gfi hc hH (by rfl) (ci := 5) (f := 8) (by rfl) (by decide +kernel) (by rfl) ?_
          refine zV1 (Z := Z) (Eq.trans (ui_o (by first | decide | omega)) (ui_k (by first | decide | omega))) ?_
          rw [hJ8]
          refine z_rcs0 hc hH 2 (pc' := 57) (lv' := [(2, .int 2), (1, .int (((μj.1 0 12) * 1000) + ((hnd ((μj.1 4 0) * 2)) + (100 * (μj.1 0 11))))), (5, .int ((hnd ((μj.1 4 0) * 2)) + (100 * (μj.1 0 11)))), (4, .int 2), (3, .int (nI u1)), (0, .ref 0)]) (st' := [.int ((nI t) + 2)]) (by rfl) ?_
          rw [show nI t + 2 = nI (t + 2) from by rw [show (2 : Int32) = nI 2 from rfl, nI_add]]
          refine z_rcs0 hc hH 2 (pc' := 59) (lv' := [(2, .int 2), (1, .int (((μj.1 0 12) * 1000) + ((hnd ((μj.1 4 0) * 2)) + (100 * (μj.1 0 11))))), (5, .int ((hnd ((μj.1 4 0) * 2)) + (100 * (μj.1 0 11)))), (4, .int 2), (3, .int (nI u1)), (0, .ref 0)]) (st' := [.int ((nI (t + 2)) &&& 3)]) (by rfl) ?_
          rw [show nI (t + 2) &&& 3 = nI u2 from by rw [and3 (by omega), hu2]]
          refine z_rcs0 hc hH 2 (pc' := 61) (lv' := [(3, .int (nI u2)), (2, .int 2), (1, .int (((μj.1 0 12) * 1000) + ((hnd ((μj.1 4 0) * 2)) + (100 * (μj.1 0 11))))), (5, .int ((hnd ((μj.1 4 0) * 2)) + (100 * (μj.1 0 11)))), (4, .int 2), (0, .ref 0)]) (st' := [.ref 0]) (by rfl) ?_
          refine zq_gfi hc hH (by rfl) (ci := 5) (f := 8) (by rfl) (by decide +kernel) (by rfl) ?_
          refine zV1 (Z := Z) (Eq.trans (ui_o (by first | decide | omega)) (ui_k (by first | decide | omega))) ?_
          rw [hJ8]
          refine z_rcs0 hc hH 1 (pc' := 65) (lv' := [(3, .int (nI u2)), (2, .int 2), (1, .int (((μj.1 0 12) * 1000) + ((hnd ((μj.1 4 0) * 2)) + (100 * (μj.1 0 11))))), (5, .int ((hnd ((μj.1 4 0) * 2)) + (100 * (μj.1 0 11)))), (4, .int 2), (0, .ref 0)]) (st' := [.ref 0, .int (nI t)]) (by rfl) ?_
          refine zq_gfi hc hH (by rfl) (ci := 5) (f := 9) (by rfl) (by decide +kernel) (by rfl) ?_
          refine zV1 (Z := Z) (Eq.trans (ui_o (by first | decide | omega)) (ui_k (by first | decide | omega))) ?_
          rw [hJ9]
          refine zq_ic hc hH (by rfl) (tg := 79) (by rfl) (fun h5 => ?_) (fun h5 => ?_)
          · have h5 : (decide ((nI t) = (nI dl))) = true := decide_eq_true (cm_eq9.mp h5)
            refine z_rcs0 hc hH 4 (pc' := 87) (lv' := [(4, .int 2), (3, .int (nI u2)), (2, .int 2), (1, .int (((μj.1 0 12) * 1000) + ((hnd ((μj.1 4 0) * 2)) + (100 * (μj.1 0 11))))), (5, .int ((hnd ((μj.1 4 0) * 2)) + (100 * (μj.1 0 11)))), (0, .ref 0)]) (st' := [.ref 0]) (by rfl) ?_
            refine zq_gfr hc hH (by rfl) (ci := 5) (f := 2) (q := 4) (by rfl) (by decide +kernel) (by rfl) (by decide +kernel) ?_
            refine zq_gfi hc hH (by rfl) (ci := 0) (f := 0) (by rfl) (by decide +kernel) (by rfl) ?_
            refine zV1 (Z := Z) (Eq.trans (ui_o (by first | decide | omega)) (ui_o (by first | decide | omega))) ?_
            refine z_rcs0 hc hH 2 (pc' := 96) (lv' := [(4, .int 2), (3, .int (nI u2)), (2, .int 2), (1, .int (((μj.1 0 12) * 1000) + ((hnd ((μj.1 4 0) * 2)) + (100 * (μj.1 0 11))))), (5, .int ((hnd ((μj.1 4 0) * 2)) + (100 * (μj.1 0 11)))), (0, .ref 0)]) (st' := [.int ((μj.1 4 0) * 2)]) (by rfl) ?_
            refine zq_call hc (z_cx_ok hH (by rfl)) (gc_hundreds d' (by omega) (z_ui (z_ui μj 0 12 0) (18 + 8 * u1) 4 ((μj.1 (18 + 8 * u1) 4) - ((hnd ((μj.1 4 0) * 2)) + (100 * (μj.1 0 11))))) ((μj.1 4 0) * 2)) (by decide +kernel) (fun r9 μ9 hq => ?_)
            obtain ⟨hμ9, rfl⟩ := hq
            rw [hμ9]
            clear hμ9 μ9
            show Z 0 99 [(4, .int 2), (3, .int (nI u2)), (2, .int 2), (1, .int (((μj.1 0 12) * 1000) + ((hnd ((μj.1 4 0) * 2)) + (100 * (μj.1 0 11))))), (5, .int ((hnd ((μj.1 4 0) * 2)) + (100 * (μj.1 0 11)))), (0, .ref 0)] [.int (hnd ((μj.1 4 0) * 2))] _
            refine z_rcs0 hc hH 2 (pc' := 102) (lv' := [(4, .int 2), (3, .int (nI u2)), (2, .int 2), (1, .int (((μj.1 0 12) * 1000) + ((hnd ((μj.1 4 0) * 2)) + (100 * (μj.1 0 11))))), (5, .int ((hnd ((μj.1 4 0) * 2)) + (100 * (μj.1 0 11)))), (0, .ref 0)]) (st' := [.ref 0, .int 100, .int (hnd ((μj.1 4 0) * 2))]) (by rfl) ?_
            refine zq_gfi hc hH (by rfl) (ci := 5) (f := 11) (by rfl) (by decide +kernel) (by rfl) ?_
            refine zV1 (Z := Z) (Eq.trans (ui_o (by first | decide | omega)) (ui_k (by first | decide | omega))) ?_
            refine z_rcs0 hc hH 5 (pc' := 111) (lv' := [(5, .int ((hnd ((μj.1 4 0) * 2)) + (100 * (μj.1 0 11)))), (4, .int 2), (3, .int (nI u2)), (2, .int 2), (1, .int (((μj.1 0 12) * 1000) + ((hnd ((μj.1 4 0) * 2)) + (100 * (μj.1 0 11))))), (0, .ref 0)]) (st' := [.int (nI u2), .ref 0]) (by rfl) ?_
            refine zq_call hc (z_cx_ok hH (by rfl)) (gc_at4 d' (by omega) (z_ui (z_ui μj 0 12 0) (18 + 8 * u1) 4 ((μj.1 (18 + 8 * u1) 4) - ((hnd ((μj.1 4 0) * 2)) + (100 * (μj.1 0 11))))) u2 hu24) (by decide +kernel) (fun r9 μ9 hq => ?_)
            obtain ⟨hμ9, rfl⟩ := hq
            rw [hμ9]
            clear hμ9 μ9
            show Z 0 114 [(5, .int ((hnd ((μj.1 4 0) * 2)) + (100 * (μj.1 0 11)))), (4, .int 2), (3, .int (nI u2)), (2, .int 2), (1, .int (((μj.1 0 12) * 1000) + ((hnd ((μj.1 4 0) * 2)) + (100 * (μj.1 0 11))))), (0, .ref 0)] [.ref (18 + 8 * u2)] _
            refine z_rcs0 hc hH 1 (pc' := 115) (lv' := [(5, .int ((hnd ((μj.1 4 0) * 2)) + (100 * (μj.1 0 11)))), (4, .int 2), (3, .int (nI u2)), (2, .int 2), (1, .int (((μj.1 0 12) * 1000) + ((hnd ((μj.1 4 0) * 2)) + (100 * (μj.1 0 11))))), (0, .ref 0)]) (st' := [.ref (18 + 8 * u2), .ref (18 + 8 * u2)]) (by rfl) ?_
            refine zq_gfi hc hH (by rfl) (ci := 1) (f := 4) (by rfl) (sj (P := fun i => okf 79 1 4 (18 + 8 * i)) hu24 (by decide +kernel)) (by rfl) ?_
            refine zV1 (Z := Z) (Eq.trans (ui_o (by first | decide | omega)) (ui_o (by first | decide | omega))) ?_
            refine z_rcs0 hc hH 2 (pc' := 121) (lv' := [(5, .int ((hnd ((μj.1 4 0) * 2)) + (100 * (μj.1 0 11)))), (4, .int 2), (3, .int (nI u2)), (2, .int 2), (1, .int (((μj.1 0 12) * 1000) + ((hnd ((μj.1 4 0) * 2)) + (100 * (μj.1 0 11))))), (0, .ref 0)]) (st' := [.int ((μj.1 (18 + 8 * u2) 4) - ((hnd ((μj.1 4 0) * 2)) + (100 * (μj.1 0 11)))), .ref (18 + 8 * u2)]) (by rfl) ?_
            refine zq_pfi hc hH (by rfl) (ci := 1) (f := 4) (by rfl) (sj (P := fun i => okf 79 1 4 (18 + 8 * i)) hu24 (by decide +kernel)) (by rfl) ?_
            show Z 0 124 [(5, .int ((hnd ((μj.1 4 0) * 2)) + (100 * (μj.1 0 11)))), (4, .int 2), (3, .int (nI u2)), (2, .int 2), (1, .int (((μj.1 0 12) * 1000) + ((hnd ((μj.1 4 0) * 2)) + (100 * (μj.1 0 11))))), (0, .ref 0)] [] (z_ui (z_ui (z_ui μj 0 12 0) (18 + 8 * u1) 4 ((μj.1 (18 + 8 * u1) 4) - ((hnd ((μj.1 4 0) * 2)) + (100 * (μj.1 0 11))))) (18 + 8 * u2) 4 ((μj.1 (18 + 8 * u2) 4) - ((hnd ((μj.1 4 0) * 2)) + (100 * (μj.1 0 11)))))
            refine z_rcs0 hc hH 10 (pc' := 52) (lv' := [(2, .int 3), (1, .int ((((μj.1 0 12) * 1000) + ((hnd ((μj.1 4 0) * 2)) + (100 * (μj.1 0 11)))) + ((hnd ((μj.1 4 0) * 2)) + (100 * (μj.1 0 11))))), (5, .int ((hnd ((μj.1 4 0) * 2)) + (100 * (μj.1 0 11)))), (4, .int 2), (3, .int (nI u2)), (0, .ref 0)]) (st' := [.ref 0]) (by rfl) ?_
            refine zq_gfi hc hH (by rfl) (ci := 5) (f := 8) (by rfl) (by decide +kernel) (by rfl) ?_
            refine zV1 (Z := Z) (Eq.trans (ui_o (by first | decide | omega)) (Eq.trans (ui_o (by first | decide | omega)) (ui_k (by first | decide | omega)))) ?_
            rw [hJ8]
            refine z_rcs0 hc hH 2 (pc' := 57) (lv' := [(2, .int 3), (1, .int ((((μj.1 0 12) * 1000) + ((hnd ((μj.1 4 0) * 2)) + (100 * (μj.1 0 11)))) + ((hnd ((μj.1 4 0) * 2)) + (100 * (μj.1 0 11))))), (5, .int ((hnd ((μj.1 4 0) * 2)) + (100 * (μj.1 0 11)))), (4, .int 2), (3, .int (nI u2)), (0, .ref 0)]) (st' := [.int ((nI t) + 3)]) (by rfl) ?_
            rw [show nI t + 3 = nI (t + 3) from by rw [show (3 : Int32) = nI 3 from rfl, nI_add]]
            refine z_rcs0 hc hH 2 (pc' := 59) (lv' := [(2, .int 3), (1, .int ((((μj.1 0 12) * 1000) + ((hnd ((μj.1 4 0) * 2)) + (100 * (μj.1 0 11)))) + ((hnd ((μj.1 4 0) * 2)) + (100 * (μj.1 0 11))))), (5, .int ((hnd ((μj.1 4 0) * 2)) + (100 * (μj.1 0 11)))), (4, .int 2), (3, .int (nI u2)), (0, .ref 0)]) (st' := [.int ((nI (t + 3)) &&& 3)]) (by rfl) ?_
            rw [show nI (t + 3) &&& 3 = nI u3 from by rw [and3 (by omega), hu3]]
            refine z_rcs0 hc hH 2 (pc' := 61) (lv' := [(3, .int (nI u3)), (2, .int 3), (1, .int ((((μj.1 0 12) * 1000) + ((hnd ((μj.1 4 0) * 2)) + (100 * (μj.1 0 11)))) + ((hnd ((μj.1 4 0) * 2)) + (100 * (μj.1 0 11))))), (5, .int ((hnd ((μj.1 4 0) * 2)) + (100 * (μj.1 0 11)))), (4, .int 2), (0, .ref 0)]) (st' := [.ref 0]) (by rfl) ?_
            refine zq_gfi hc hH (by rfl) (ci := 5) (f := 8) (by rfl) (by decide +kernel) (by rfl) ?_
            refine zV1 (Z := Z) (Eq.trans (ui_o (by first | decide | omega)) (Eq.trans (ui_o (by first | decide | omega)) (ui_k (by first | decide | omega)))) ?_
            rw [hJ8]
            refine z_rcs0 hc hH 1 (pc' := 65) (lv' := [(3, .int (nI u3)), (2, .int 3), (1, .int ((((μj.1 0 12) * 1000) + ((hnd ((μj.1 4 0) * 2)) + (100 * (μj.1 0 11)))) + ((hnd ((μj.1 4 0) * 2)) + (100 * (μj.1 0 11))))), (5, .int ((hnd ((μj.1 4 0) * 2)) + (100 * (μj.1 0 11)))), (4, .int 2), (0, .ref 0)]) (st' := [.ref 0, .int (nI t)]) (by rfl) ?_
            refine zq_gfi hc hH (by rfl) (ci := 5) (f := 9) (by rfl) (by decide +kernel) (by rfl) ?_
            refine zV1 (Z := Z) (Eq.trans (ui_o (by first | decide | omega)) (Eq.trans (ui_o (by first | decide | omega)) (ui_k (by first | decide | omega)))) ?_
            rw [hJ9]
            refine zq_ic hc hH (by rfl) (tg := 79) (by rfl) (fun h6 => ?_) (fun h6 => ?_)
            · have h6 : (decide ((nI t) = (nI dl))) = true := decide_eq_true (cm_eq9.mp h6)
              refine z_rcs0 hc hH 4 (pc' := 87) (lv' := [(4, .int 2), (3, .int (nI u3)), (2, .int 3), (1, .int ((((μj.1 0 12) * 1000) + ((hnd ((μj.1 4 0) * 2)) + (100 * (μj.1 0 11)))) + ((hnd ((μj.1 4 0) * 2)) + (100 * (μj.1 0 11))))), (5, .int ((hnd ((μj.1 4 0) * 2)) + (100 * (μj.1 0 11)))), (0, .ref 0)]) (st' := [.ref 0]) (by rfl) ?_
              refine zq_gfr hc hH (by rfl) (ci := 5) (f := 2) (q := 4) (by rfl) (by decide +kernel) (by rfl) (by decide +kernel) ?_
              refine zq_gfi hc hH (by rfl) (ci := 0) (f := 0) (by rfl) (by decide +kernel) (by rfl) ?_
              refine zV1 (Z := Z) (Eq.trans (ui_o (by first | decide | omega)) (Eq.trans (ui_o (by first | decide | omega)) (ui_o (by first | decide | omega)))) ?_
              refine z_rcs0 hc hH 2 (pc' := 96) (lv' := [(4, .int 2), (3, .int (nI u3)), (2, .int 3), (1, .int ((((μj.1 0 12) * 1000) + ((hnd ((μj.1 4 0) * 2)) + (100 * (μj.1 0 11)))) + ((hnd ((μj.1 4 0) * 2)) + (100 * (μj.1 0 11))))), (5, .int ((hnd ((μj.1 4 0) * 2)) + (100 * (μj.1 0 11)))), (0, .ref 0)]) (st' := [.int ((μj.1 4 0) * 2)]) (by rfl) ?_
              refine zq_call hc (z_cx_ok hH (by rfl)) (gc_hundreds d' (by omega) (z_ui (z_ui (z_ui μj 0 12 0) (18 + 8 * u1) 4 ((μj.1 (18 + 8 * u1) 4) - ((hnd ((μj.1 4 0) * 2)) + (100 * (μj.1 0 11))))) (18 + 8 * u2) 4 ((μj.1 (18 + 8 * u2) 4) - ((hnd ((μj.1 4 0) * 2)) + (100 * (μj.1 0 11))))) ((μj.1 4 0) * 2)) (by decide +kernel) (fun r9 μ9 hq => ?_)
              obtain ⟨hμ9, rfl⟩ := hq
              rw [hμ9]
              clear hμ9 μ9
              show Z 0 99 [(4, .int 2), (3, .int (nI u3)), (2, .int 3), (1, .int ((((μj.1 0 12) * 1000) + ((hnd ((μj.1 4 0) * 2)) + (100 * (μj.1 0 11)))) + ((hnd ((μj.1 4 0) * 2)) + (100 * (μj.1 0 11))))), (5, .int ((hnd ((μj.1 4 0) * 2)) + (100 * (μj.1 0 11)))), (0, .ref 0)] [.int (hnd ((μj.1 4 0) * 2))] _
              refine z_rcs0 hc hH 2 (pc' := 102) (lv' := [(4, .int 2), (3, .int (nI u3)), (2, .int 3), (1, .int ((((μj.1 0 12) * 1000) + ((hnd ((μj.1 4 0) * 2)) + (100 * (μj.1 0 11)))) + ((hnd ((μj.1 4 0) * 2)) + (100 * (μj.1 0 11))))), (5, .int ((hnd ((μj.1 4 0) * 2)) + (100 * (μj.1 0 11)))), (0, .ref 0)]) (st' := [.ref 0, .int 100, .int (hnd ((μj.1 4 0) * 2))]) (by rfl) ?_
              refine zq_gfi hc hH (by rfl) (ci := 5) (f := 11) (by rfl) (by decide +kernel) (by rfl) ?_
              refine zV1 (Z := Z) (Eq.trans (ui_o (by first | decide | omega)) (Eq.trans (ui_o (by first | decide | omega)) (ui_k (by first | decide | omega)))) ?_
              refine z_rcs0 hc hH 5 (pc' := 111) (lv' := [(5, .int ((hnd ((μj.1 4 0) * 2)) + (100 * (μj.1 0 11)))), (4, .int 2), (3, .int (nI u3)), (2, .int 3), (1, .int ((((μj.1 0 12) * 1000) + ((hnd ((μj.1 4 0) * 2)) + (100 * (μj.1 0 11)))) + ((hnd ((μj.1 4 0) * 2)) + (100 * (μj.1 0 11))))), (0, .ref 0)]) (st' := [.int (nI u3), .ref 0]) (by rfl) ?_
              refine zq_call hc (z_cx_ok hH (by rfl)) (gc_at4 d' (by omega) (z_ui (z_ui (z_ui μj 0 12 0) (18 + 8 * u1) 4 ((μj.1 (18 + 8 * u1) 4) - ((hnd ((μj.1 4 0) * 2)) + (100 * (μj.1 0 11))))) (18 + 8 * u2) 4 ((μj.1 (18 + 8 * u2) 4) - ((hnd ((μj.1 4 0) * 2)) + (100 * (μj.1 0 11))))) u3 hu34) (by decide +kernel) (fun r9 μ9 hq => ?_)
              obtain ⟨hμ9, rfl⟩ := hq
              rw [hμ9]
              clear hμ9 μ9
              show Z 0 114 [(5, .int ((hnd ((μj.1 4 0) * 2)) + (100 * (μj.1 0 11)))), (4, .int 2), (3, .int (nI u3)), (2, .int 3), (1, .int ((((μj.1 0 12) * 1000) + ((hnd ((μj.1 4 0) * 2)) + (100 * (μj.1 0 11)))) + ((hnd ((μj.1 4 0) * 2)) + (100 * (μj.1 0 11))))), (0, .ref 0)] [.ref (18 + 8 * u3)] _
              refine z_rcs0 hc hH 1 (pc' := 115) (lv' := [(5, .int ((hnd ((μj.1 4 0) * 2)) + (100 * (μj.1 0 11)))), (4, .int 2), (3, .int (nI u3)), (2, .int 3), (1, .int ((((μj.1 0 12) * 1000) + ((hnd ((μj.1 4 0) * 2)) + (100 * (μj.1 0 11)))) + ((hnd ((μj.1 4 0) * 2)) + (100 * (μj.1 0 11))))), (0, .ref 0)]) (st' := [.ref (18 + 8 * u3), .ref (18 + 8 * u3)]) (by rfl) ?_
              refine zq_gfi hc hH (by rfl) (ci := 1) (f := 4) (by rfl) (sj (P := fun i => okf 79 1 4 (18 + 8 * i)) hu34 (by decide +kernel)) (by rfl) ?_
              refine zV1 (Z := Z) (Eq.trans (ui_o (by first | decide | omega)) (Eq.trans (ui_o (by first | decide | omega)) (ui_o (by first | decide | omega)))) ?_
              refine z_rcs0 hc hH 2 (pc' := 121) (lv' := [(5, .int ((hnd ((μj.1 4 0) * 2)) + (100 * (μj.1 0 11)))), (4, .int 2), (3, .int (nI u3)), (2, .int 3), (1, .int ((((μj.1 0 12) * 1000) + ((hnd ((μj.1 4 0) * 2)) + (100 * (μj.1 0 11)))) + ((hnd ((μj.1 4 0) * 2)) + (100 * (μj.1 0 11))))), (0, .ref 0)]) (st' := [.int ((μj.1 (18 + 8 * u3) 4) - ((hnd ((μj.1 4 0) * 2)) + (100 * (μj.1 0 11)))), .ref (18 + 8 * u3)]) (by rfl) ?_
              refine zq_pfi hc hH (by rfl) (ci := 1) (f := 4) (by rfl) (sj (P := fun i => okf 79 1 4 (18 + 8 * i)) hu34 (by decide +kernel)) (by rfl) ?_
              show Z 0 124 [(5, .int ((hnd ((μj.1 4 0) * 2)) + (100 * (μj.1 0 11)))), (4, .int 2), (3, .int (nI u3)), (2, .int 3), (1, .int ((((μj.1 0 12) * 1000) + ((hnd ((μj.1 4 0) * 2)) + (100 * (μj.1 0 11)))) + ((hnd ((μj.1 4 0) * 2)) + (100 * (μj.1 0 11))))), (0, .ref 0)] [] (z_ui (z_ui (z_ui (z_ui μj 0 12 0) (18 + 8 * u1) 4 ((μj.1 (18 + 8 * u1) 4) - ((hnd ((μj.1 4 0) * 2)) + (100 * (μj.1 0 11))))) (18 + 8 * u2) 4 ((μj.1 (18 + 8 * u2) 4) - ((hnd ((μj.1 4 0) * 2)) + (100 * (μj.1 0 11))))) (18 + 8 * u3) 4 ((μj.1 (18 + 8 * u3) 4) - ((hnd ((μj.1 4 0) * 2)) + (100 * (μj.1 0 11)))))
              refine z_rcs0 hc hH 11 (pc' := 137) (lv' := [(2, .int 4), (1, .int (((((μj.1 0 12) * 1000) + ((hnd ((μj.1 4 0) * 2)) + (100 * (μj.1 0 11)))) + ((hnd ((μj.1 4 0) * 2)) + (100 * (μj.1 0 11)))) + ((hnd ((μj.1 4 0) * 2)) + (100 * (μj.1 0 11))))), (5, .int ((hnd ((μj.1 4 0) * 2)) + (100 * (μj.1 0 11)))), (4, .int 2), (3, .int (nI u3)), (0, .ref 0)]) (st' := [.ref 0, .ref 0]) (by rfl) ?_
              refine zq_gfi hc hH (by rfl) (ci := 5) (f := 8) (by rfl) (by decide +kernel) (by rfl) ?_
              refine zV1 (Z := Z) (Eq.trans (ui_o (by first | decide | omega)) (Eq.trans (ui_o (by first | decide | omega)) (Eq.trans (ui_o (by first | decide | omega)) (ui_k (by first | decide | omega))))) ?_
              rw [hJ8]
              refine zq_call hc (z_cx_ok hH (by rfl)) (gc_at4 d' (by omega) (z_ui (z_ui (z_ui (z_ui μj 0 12 0) (18 + 8 * u1) 4 ((μj.1 (18 + 8 * u1) 4) - ((hnd ((μj.1 4 0) * 2)) + (100 * (μj.1 0 11))))) (18 + 8 * u2) 4 ((μj.1 (18 + 8 * u2) 4) - ((hnd ((μj.1 4 0) * 2)) + (100 * (μj.1 0 11))))) (18 + 8 * u3) 4 ((μj.1 (18 + 8 * u3) 4) - ((hnd ((μj.1 4 0) * 2)) + (100 * (μj.1 0 11))))) t ht4) (by decide +kernel) (fun r9 μ9 hq => ?_)
              obtain ⟨hμ9, rfl⟩ := hq
              rw [hμ9]
              clear hμ9 μ9
              show Z 0 143 [(2, .int 4), (1, .int (((((μj.1 0 12) * 1000) + ((hnd ((μj.1 4 0) * 2)) + (100 * (μj.1 0 11)))) + ((hnd ((μj.1 4 0) * 2)) + (100 * (μj.1 0 11)))) + ((hnd ((μj.1 4 0) * 2)) + (100 * (μj.1 0 11))))), (5, .int ((hnd ((μj.1 4 0) * 2)) + (100 * (μj.1 0 11)))), (4, .int 2), (3, .int (nI u3)), (0, .ref 0)] [.ref (18 + 8 * t)] _
              refine z_rcs0 hc hH 1 (pc' := 144) (lv' := [(2, .int 4), (1, .int (((((μj.1 0 12) * 1000) + ((hnd ((μj.1 4 0) * 2)) + (100 * (μj.1 0 11)))) + ((hnd ((μj.1 4 0) * 2)) + (100 * (μj.1 0 11)))) + ((hnd ((μj.1 4 0) * 2)) + (100 * (μj.1 0 11))))), (5, .int ((hnd ((μj.1 4 0) * 2)) + (100 * (μj.1 0 11)))), (4, .int 2), (3, .int (nI u3)), (0, .ref 0)]) (st' := [.ref (18 + 8 * t), .ref (18 + 8 * t)]) (by rfl) ?_
              refine zq_gfi hc hH (by rfl) (ci := 1) (f := 4) (by rfl) (sj (P := fun i => okf 79 1 4 (18 + 8 * i)) ht4 (by decide +kernel)) (by rfl) ?_
              refine zV1 (Z := Z) (Eq.trans (ui_o (by first | decide | omega)) (Eq.trans (ui_o (by first | decide | omega)) (Eq.trans (ui_o (by first | decide | omega)) (ui_o (by first | decide | omega))))) ?_
              refine z_rcs0 hc hH 2 (pc' := 149) (lv' := [(2, .int 4), (1, .int (((((μj.1 0 12) * 1000) + ((hnd ((μj.1 4 0) * 2)) + (100 * (μj.1 0 11)))) + ((hnd ((μj.1 4 0) * 2)) + (100 * (μj.1 0 11)))) + ((hnd ((μj.1 4 0) * 2)) + (100 * (μj.1 0 11))))), (5, .int ((hnd ((μj.1 4 0) * 2)) + (100 * (μj.1 0 11)))), (4, .int 2), (3, .int (nI u3)), (0, .ref 0)]) (st' := [.int ((μj.1 (18 + 8 * t) 4) + (((((μj.1 0 12) * 1000) + ((hnd ((μj.1 4 0) * 2)) + (100 * (μj.1 0 11)))) + ((hnd ((μj.1 4 0) * 2)) + (100 * (μj.1 0 11)))) + ((hnd ((μj.1 4 0) * 2)) + (100 * (μj.1 0 11))))), .ref (18 + 8 * t)]) (by rfl) ?_
              refine zq_pfi hc hH (by rfl) (ci := 1) (f := 4) (by rfl) (sj (P := fun i => okf 79 1 4 (18 + 8 * i)) ht4 (by decide +kernel)) (by rfl) ?_
              show Z 0 152 [(2, .int 4), (1, .int (((((μj.1 0 12) * 1000) + ((hnd ((μj.1 4 0) * 2)) + (100 * (μj.1 0 11)))) + ((hnd ((μj.1 4 0) * 2)) + (100 * (μj.1 0 11)))) + ((hnd ((μj.1 4 0) * 2)) + (100 * (μj.1 0 11))))), (5, .int ((hnd ((μj.1 4 0) * 2)) + (100 * (μj.1 0 11)))), (4, .int 2), (3, .int (nI u3)), (0, .ref 0)] [] (z_ui (z_ui (z_ui (z_ui (z_ui μj 0 12 0) (18 + 8 * u1) 4 ((μj.1 (18 + 8 * u1) 4) - ((hnd ((μj.1 4 0) * 2)) + (100 * (μj.1 0 11))))) (18 + 8 * u2) 4 ((μj.1 (18 + 8 * u2) 4) - ((hnd ((μj.1 4 0) * 2)) + (100 * (μj.1 0 11))))) (18 + 8 * u3) 4 ((μj.1 (18 + 8 * u3) 4) - ((hnd ((μj.1 4 0) * 2)) + (100 * (μj.1 0 11))))) (18 + 8 * t) 4 ((μj.1 (18 + 8 * t) 4) + (((((μj.1 0 12) * 1000) + ((hnd ((μj.1 4 0) * 2)) + (100 * (μj.1 0 11)))) + ((hnd ((μj.1 4 0) * 2)) + (100 * (μj.1 0 11)))) + ((hnd ((μj.1 4 0) * 2)) + (100 * (μj.1 0 11))))))
              refine z_rcs0 hc hH 2 (pc' := 154) (lv' := [(2, .int 4), (1, .int (((((μj.1 0 12) * 1000) + ((hnd ((μj.1 4 0) * 2)) + (100 * (μj.1 0 11)))) + ((hnd ((μj.1 4 0) * 2)) + (100 * (μj.1 0 11)))) + ((hnd ((μj.1 4 0) * 2)) + (100 * (μj.1 0 11))))), (5, .int ((hnd ((μj.1 4 0) * 2)) + (100 * (μj.1 0 11)))), (4, .int 2), (3, .int (nI u3)), (0, .ref 0)]) (st' := [.ref 0, .ref 0]) (by rfl) ?_
              refine zq_gfi hc hH (by rfl) (ci := 5) (f := 8) (by rfl) (by decide +kernel) (by rfl) ?_
              refine zV1 (Z := Z) (Eq.trans (ui_o (by first | decide | omega)) (Eq.trans (ui_o (by first | decide | omega)) (Eq.trans (ui_o (by first | decide | omega)) (Eq.trans (ui_o (by first | decide | omega)) (ui_k (by first | decide | omega)))))) ?_
              rw [hJ8]
              refine z_rcs0 hc hH 2 (pc' := 159) (lv' := [(2, .int 4), (1, .int (((((μj.1 0 12) * 1000) + ((hnd ((μj.1 4 0) * 2)) + (100 * (μj.1 0 11)))) + ((hnd ((μj.1 4 0) * 2)) + (100 * (μj.1 0 11)))) + ((hnd ((μj.1 4 0) * 2)) + (100 * (μj.1 0 11))))), (5, .int ((hnd ((μj.1 4 0) * 2)) + (100 * (μj.1 0 11)))), (4, .int 2), (3, .int (nI u3)), (0, .ref 0)]) (st' := [.int (((((μj.1 0 12) * 1000) + ((hnd ((μj.1 4 0) * 2)) + (100 * (μj.1 0 11)))) + ((hnd ((μj.1 4 0) * 2)) + (100 * (μj.1 0 11)))) + ((hnd ((μj.1 4 0) * 2)) + (100 * (μj.1 0 11)))), .int (-1), .int (nI t), .ref 0]) (by rfl) ?_
              refine zq_call hc (z_cx_ok hH (by rfl)) (gc_recordWin d' (by omega) (z_ui (z_ui (z_ui (z_ui (z_ui μj 0 12 0) (18 + 8 * u1) 4 ((μj.1 (18 + 8 * u1) 4) - ((hnd ((μj.1 4 0) * 2)) + (100 * (μj.1 0 11))))) (18 + 8 * u2) 4 ((μj.1 (18 + 8 * u2) 4) - ((hnd ((μj.1 4 0) * 2)) + (100 * (μj.1 0 11))))) (18 + 8 * u3) 4 ((μj.1 (18 + 8 * u3) 4) - ((hnd ((μj.1 4 0) * 2)) + (100 * (μj.1 0 11))))) (18 + 8 * t) 4 ((μj.1 (18 + 8 * t) 4) + (((((μj.1 0 12) * 1000) + ((hnd ((μj.1 4 0) * 2)) + (100 * (μj.1 0 11)))) + ((hnd ((μj.1 4 0) * 2)) + (100 * (μj.1 0 11)))) + ((hnd ((μj.1 4 0) * 2)) + (100 * (μj.1 0 11)))))) 0 (by omega) (by rw [ui_o (by first | decide | omega), ui_o (by first | decide | omega), ui_o (by first | decide | omega), ui_o (by first | decide | omega), ui_k (by first | decide | omega)]; exact hJ6) (nI t) (-1) (((((μj.1 0 12) * 1000) + ((hnd ((μj.1 4 0) * 2)) + (100 * (μj.1 0 11)))) + ((hnd ((μj.1 4 0) * 2)) + (100 * (μj.1 0 11)))) + ((hnd ((μj.1 4 0) * 2)) + (100 * (μj.1 0 11))))) (by decide +kernel) (fun r9 μ9 hq => ?_)
              obtain ⟨rfl, rfl⟩ := hq
              show Z 0 162 [(2, .int 4), (1, .int (((((μj.1 0 12) * 1000) + ((hnd ((μj.1 4 0) * 2)) + (100 * (μj.1 0 11)))) + ((hnd ((μj.1 4 0) * 2)) + (100 * (μj.1 0 11)))) + ((hnd ((μj.1 4 0) * 2)) + (100 * (μj.1 0 11))))), (5, .int ((hnd ((μj.1 4 0) * 2)) + (100 * (μj.1 0 11)))), (4, .int 2), (3, .int (nI u3)), (0, .ref 0)] [] (rcW (z_ui (z_ui (z_ui (z_ui (z_ui μj 0 12 0) (18 + 8 * u1) 4 ((μj.1 (18 + 8 * u1) 4) - ((hnd ((μj.1 4 0) * 2)) + (100 * (μj.1 0 11))))) (18 + 8 * u2) 4 ((μj.1 (18 + 8 * u2) 4) - ((hnd ((μj.1 4 0) * 2)) + (100 * (μj.1 0 11))))) (18 + 8 * u3) 4 ((μj.1 (18 + 8 * u3) 4) - ((hnd ((μj.1 4 0) * 2)) + (100 * (μj.1 0 11))))) (18 + 8 * t) 4 ((μj.1 (18 + 8 * t) 4) + (((((μj.1 0 12) * 1000) + ((hnd ((μj.1 4 0) * 2)) + (100 * (μj.1 0 11)))) + ((hnd ((μj.1 4 0) * 2)) + (100 * (μj.1 0 11)))) + ((hnd ((μj.1 4 0) * 2)) + (100 * (μj.1 0 11)))))) 0 (nI t) (-1) (((((μj.1 0 12) * 1000) + ((hnd ((μj.1 4 0) * 2)) + (100 * (μj.1 0 11)))) + ((hnd ((μj.1 4 0) * 2)) + (100 * (μj.1 0 11)))) + ((hnd ((μj.1 4 0) * 2)) + (100 * (μj.1 0 11)))))
              refine z_rcs0 hc hH 2 (pc' := 164) (lv' := [(2, .int 4), (1, .int (((((μj.1 0 12) * 1000) + ((hnd ((μj.1 4 0) * 2)) + (100 * (μj.1 0 11)))) + ((hnd ((μj.1 4 0) * 2)) + (100 * (μj.1 0 11)))) + ((hnd ((μj.1 4 0) * 2)) + (100 * (μj.1 0 11))))), (5, .int ((hnd ((μj.1 4 0) * 2)) + (100 * (μj.1 0 11)))), (4, .int 2), (3, .int (nI u3)), (0, .ref 0)]) (st' := [.ref 0, .ref 0]) (by rfl) ?_
              refine zq_gfi hc hH (by rfl) (ci := 5) (f := 8) (by rfl) (by decide +kernel) (by rfl) ?_
              refine zV1 (Z := Z) (Eq.trans (rcW_o (by first | decide | omega)) (Eq.trans (ui_o (by first | decide | omega)) (Eq.trans (ui_o (by first | decide | omega)) (Eq.trans (ui_o (by first | decide | omega)) (Eq.trans (ui_o (by first | decide | omega)) (ui_k (by first | decide | omega))))))) ?_
              rw [hJ8]
              refine z_rcs0 hc hH 1 (pc' := 168) (lv' := [(2, .int 4), (1, .int (((((μj.1 0 12) * 1000) + ((hnd ((μj.1 4 0) * 2)) + (100 * (μj.1 0 11)))) + ((hnd ((μj.1 4 0) * 2)) + (100 * (μj.1 0 11)))) + ((hnd ((μj.1 4 0) * 2)) + (100 * (μj.1 0 11))))), (5, .int ((hnd ((μj.1 4 0) * 2)) + (100 * (μj.1 0 11)))), (4, .int 2), (3, .int (nI u3)), (0, .ref 0)]) (st' := [.ref 0, .int (nI t), .ref 0]) (by rfl) ?_
              refine zq_gfi hc hH (by rfl) (ci := 5) (f := 9) (by rfl) (by decide +kernel) (by rfl) ?_
              refine zV1 (Z := Z) (Eq.trans (rcW_o (by first | decide | omega)) (Eq.trans (ui_o (by first | decide | omega)) (Eq.trans (ui_o (by first | decide | omega)) (Eq.trans (ui_o (by first | decide | omega)) (Eq.trans (ui_o (by first | decide | omega)) (ui_k (by first | decide | omega))))))) ?_
              rw [hJ9]
              refine zq_ic hc hH (by rfl) (tg := 178) (by rfl) (fun h7 => ?_) (fun h7 => ?_)
              · have h7 : (decide ((nI t) = (nI dl))) = false := decide_eq_false (cm_ne.mp h7)
                exact absurd (Eq.trans (Eq.symm (kn_eq heq)) h7) (by decide)
              · have h7 : (decide ((nI t) = (nI dl))) = true := decide_eq_true (cn_ne.mp h7)
                refine z_rcs0 hc hH 3 (pc' := 180) (lv' := [(2, .int 4), (1, .int (((((μj.1 0 12) * 1000) + ((hnd ((μj.1 4 0) * 2)) + (100 * (μj.1 0 11)))) + ((hnd ((μj.1 4 0) * 2)) + (100 * (μj.1 0 11)))) + ((hnd ((μj.1 4 0) * 2)) + (100 * (μj.1 0 11))))), (5, .int ((hnd ((μj.1 4 0) * 2)) + (100 * (μj.1 0 11)))), (4, .int 2), (3, .int (nI u3)), (0, .ref 0)]) (st' := [.ref 0, .int 1, .ref 0]) (by rfl) ?_
                refine zq_gfi hc hH (by rfl) (ci := 5) (f := 8) (by rfl) (by decide +kernel) (by rfl) ?_
                refine zV1 (Z := Z) (Eq.trans (rcW_o (by first | decide | omega)) (Eq.trans (ui_o (by first | decide | omega)) (Eq.trans (ui_o (by first | decide | omega)) (Eq.trans (ui_o (by first | decide | omega)) (Eq.trans (ui_o (by first | decide | omega)) (ui_k (by first | decide | omega))))))) ?_
                rw [hJ8]
                refine z_rcs0 hc hH 1 (pc' := 184) (lv' := [(2, .int 4), (1, .int (((((μj.1 0 12) * 1000) + ((hnd ((μj.1 4 0) * 2)) + (100 * (μj.1 0 11)))) + ((hnd ((μj.1 4 0) * 2)) + (100 * (μj.1 0 11)))) + ((hnd ((μj.1 4 0) * 2)) + (100 * (μj.1 0 11))))), (5, .int ((hnd ((μj.1 4 0) * 2)) + (100 * (μj.1 0 11)))), (4, .int 2), (3, .int (nI u3)), (0, .ref 0)]) (st' := [.ref 0, .int (nI t), .int 1, .ref 0]) (by rfl) ?_
                refine zq_gfi hc hH (by rfl) (ci := 5) (f := 9) (by rfl) (by decide +kernel) (by rfl) ?_
                refine zV1 (Z := Z) (Eq.trans (rcW_o (by first | decide | omega)) (Eq.trans (ui_o (by first | decide | omega)) (Eq.trans (ui_o (by first | decide | omega)) (Eq.trans (ui_o (by first | decide | omega)) (Eq.trans (ui_o (by first | decide | omega)) (ui_k (by first | decide | omega))))))) ?_
                rw [hJ9]
                refine zq_ic hc hH (by rfl) (tg := 194) (by rfl) (fun h8 => ?_) (fun h8 => ?_)
                · have h8 : (decide ((nI t) = (nI dl))) = true := decide_eq_true (cm_eq9.mp h8)
                  refine z_rcs0 hc hH 1 (pc' := 195) (lv' := [(2, .int 4), (1, .int (((((μj.1 0 12) * 1000) + ((hnd ((μj.1 4 0) * 2)) + (100 * (μj.1 0 11)))) + ((hnd ((μj.1 4 0) * 2)) + (100 * (μj.1 0 11)))) + ((hnd ((μj.1 4 0) * 2)) + (100 * (μj.1 0 11))))), (5, .int ((hnd ((μj.1 4 0) * 2)) + (100 * (μj.1 0 11)))), (4, .int 2), (3, .int (nI u3)), (0, .ref 0)]) (st' := [.int 0, .int 1, .ref 0]) (by rfl) ?_
                  refine zq_call hc (z_cx_ok hH (by rfl)) (gc_endHand1 d' (by omega) (rcW (z_ui (z_ui (z_ui (z_ui (z_ui μj 0 12 0) (18 + 8 * u1) 4 ((μj.1 (18 + 8 * u1) 4) - ((hnd ((μj.1 4 0) * 2)) + (100 * (μj.1 0 11))))) (18 + 8 * u2) 4 ((μj.1 (18 + 8 * u2) 4) - ((hnd ((μj.1 4 0) * 2)) + (100 * (μj.1 0 11))))) (18 + 8 * u3) 4 ((μj.1 (18 + 8 * u3) 4) - ((hnd ((μj.1 4 0) * 2)) + (100 * (μj.1 0 11))))) (18 + 8 * t) 4 ((μj.1 (18 + 8 * t) 4) + (((((μj.1 0 12) * 1000) + ((hnd ((μj.1 4 0) * 2)) + (100 * (μj.1 0 11)))) + ((hnd ((μj.1 4 0) * 2)) + (100 * (μj.1 0 11)))) + ((hnd ((μj.1 4 0) * 2)) + (100 * (μj.1 0 11)))))) 0 (nI t) (-1) (((((μj.1 0 12) * 1000) + ((hnd ((μj.1 4 0) * 2)) + (100 * (μj.1 0 11)))) + ((hnd ((μj.1 4 0) * 2)) + (100 * (μj.1 0 11)))) + ((hnd ((μj.1 4 0) * 2)) + (100 * (μj.1 0 11))))) false _ dl e _ rfl (by rw [rcW_o (by first | decide | omega), ui_o (by first | decide | omega), ui_o (by first | decide | omega), ui_o (by first | decide | omega), ui_o (by first | decide | omega), ui_k (by first | decide | omega)]; exact hJ9) hdl4 he (rcB_lt _ _ _ _) rfl) (by decide +kernel) (fun r9 μ9 hq => ?_)
                  obtain ⟨rfl, rfl⟩ := hq
                  show Z 0 198 [(2, .int 4), (1, .int (((((μj.1 0 12) * 1000) + ((hnd ((μj.1 4 0) * 2)) + (100 * (μj.1 0 11)))) + ((hnd ((μj.1 4 0) * 2)) + (100 * (μj.1 0 11)))) + ((hnd ((μj.1 4 0) * 2)) + (100 * (μj.1 0 11))))), (5, .int ((hnd ((μj.1 4 0) * 2)) + (100 * (μj.1 0 11)))), (4, .int 2), (3, .int (nI u3)), (0, .ref 0)] [] (eH1 (rcW (z_ui (z_ui (z_ui (z_ui (z_ui μj 0 12 0) (18 + 8 * u1) 4 ((μj.1 (18 + 8 * u1) 4) - ((hnd ((μj.1 4 0) * 2)) + (100 * (μj.1 0 11))))) (18 + 8 * u2) 4 ((μj.1 (18 + 8 * u2) 4) - ((hnd ((μj.1 4 0) * 2)) + (100 * (μj.1 0 11))))) (18 + 8 * u3) 4 ((μj.1 (18 + 8 * u3) 4) - ((hnd ((μj.1 4 0) * 2)) + (100 * (μj.1 0 11))))) (18 + 8 * t) 4 ((μj.1 (18 + 8 * t) 4) + (((((μj.1 0 12) * 1000) + ((hnd ((μj.1 4 0) * 2)) + (100 * (μj.1 0 11)))) + ((hnd ((μj.1 4 0) * 2)) + (100 * (μj.1 0 11)))) + ((hnd ((μj.1 4 0) * 2)) + (100 * (μj.1 0 11)))))) 0 (nI t) (-1) (((((μj.1 0 12) * 1000) + ((hnd ((μj.1 4 0) * 2)) + (100 * (μj.1 0 11)))) + ((hnd ((μj.1 4 0) * 2)) + (100 * (μj.1 0 11)))) + ((hnd ((μj.1 4 0) * 2)) + (100 * (μj.1 0 11))))) false (xBk (rcW (z_ui (z_ui (z_ui (z_ui (z_ui μj 0 12 0) (18 + 8 * u1) 4 ((μj.1 (18 + 8 * u1) 4) - ((hnd ((μj.1 4 0) * 2)) + (100 * (μj.1 0 11))))) (18 + 8 * u2) 4 ((μj.1 (18 + 8 * u2) 4) - ((hnd ((μj.1 4 0) * 2)) + (100 * (μj.1 0 11))))) (18 + 8 * u3) 4 ((μj.1 (18 + 8 * u3) 4) - ((hnd ((μj.1 4 0) * 2)) + (100 * (μj.1 0 11))))) (18 + 8 * t) 4 ((μj.1 (18 + 8 * t) 4) + (((((μj.1 0 12) * 1000) + ((hnd ((μj.1 4 0) * 2)) + (100 * (μj.1 0 11)))) + ((hnd ((μj.1 4 0) * 2)) + (100 * (μj.1 0 11)))) + ((hnd ((μj.1 4 0) * 2)) + (100 * (μj.1 0 11)))))) 0 (nI t) (-1) (((((μj.1 0 12) * 1000) + ((hnd ((μj.1 4 0) * 2)) + (100 * (μj.1 0 11)))) + ((hnd ((μj.1 4 0) * 2)) + (100 * (μj.1 0 11)))) + ((hnd ((μj.1 4 0) * 2)) + (100 * (μj.1 0 11)))))) dl e (rcM (rcW (z_ui (z_ui (z_ui (z_ui (z_ui μj 0 12 0) (18 + 8 * u1) 4 ((μj.1 (18 + 8 * u1) 4) - ((hnd ((μj.1 4 0) * 2)) + (100 * (μj.1 0 11))))) (18 + 8 * u2) 4 ((μj.1 (18 + 8 * u2) 4) - ((hnd ((μj.1 4 0) * 2)) + (100 * (μj.1 0 11))))) (18 + 8 * u3) 4 ((μj.1 (18 + 8 * u3) 4) - ((hnd ((μj.1 4 0) * 2)) + (100 * (μj.1 0 11))))) (18 + 8 * t) 4 ((μj.1 (18 + 8 * t) 4) + (((((μj.1 0 12) * 1000) + ((hnd ((μj.1 4 0) * 2)) + (100 * (μj.1 0 11)))) + ((hnd ((μj.1 4 0) * 2)) + (100 * (μj.1 0 11)))) + ((hnd ((μj.1 4 0) * 2)) + (100 * (μj.1 0 11)))))) 0 (nI t) (-1) (((((μj.1 0 12) * 1000) + ((hnd ((μj.1 4 0) * 2)) + (100 * (μj.1 0 11)))) + ((hnd ((μj.1 4 0) * 2)) + (100 * (μj.1 0 11)))) + ((hnd ((μj.1 4 0) * 2)) + (100 * (μj.1 0 11)))))))
                  refine z_rcs0 hc hH 1 (pc' := 199) (lv' := [(2, .int 4), (1, .int (((((μj.1 0 12) * 1000) + ((hnd ((μj.1 4 0) * 2)) + (100 * (μj.1 0 11)))) + ((hnd ((μj.1 4 0) * 2)) + (100 * (μj.1 0 11)))) + ((hnd ((μj.1 4 0) * 2)) + (100 * (μj.1 0 11))))), (5, .int ((hnd ((μj.1 4 0) * 2)) + (100 * (μj.1 0 11)))), (4, .int 2), (3, .int (nI u3)), (0, .ref 0)]) (st' := [.int 1]) (by rfl) ?_
                  exact hr 0 199 _ _ _ (some (.int 1)) (by decide +kernel) (z_rx_ok hH (by rfl)) (Or.inr ⟨h1, μj, hJ, Or.inr ⟨h3, rfl, rfl⟩⟩)
                · have h8 : (decide ((nI t) = (nI dl))) = false := decide_eq_false (cn_eq.mp h8)
                  exact absurd (Eq.trans (Eq.symm (kn_eq heq)) h8) (by decide)
            · have h6 : (decide ((nI t) = (nI dl))) = false := decide_eq_false (cn_eq.mp h6)
              exact absurd (Eq.trans (Eq.symm (kn_eq heq)) h6) (by decide)
          · have h5 : (decide ((nI t) = (nI dl))) = false := decide_eq_false (cn_eq.mp h5)
            exact absurd (Eq.trans (Eq.symm (kn_eq heq)) h5) (by decide)
        · have h4 : (decide ((nI t) = (nI dl))) = false := decide_eq_false (cn_eq.mp h4)
          exact absurd (Eq.trans (Eq.symm (kn_eq heq)) h4) (by decide)
      · have h3 : (decide ((μj.1 4 0) = 0)) = true := decide_eq_true (cn_ne.mp h3)
        refine z_rcs hc hH 1 (pc' := 29) (lv' := [(0, .ref 0)]) (st' := [.int 0]) (μ' := μj) (by rfl) ?_
        exact hr 0 29 _ _ _ (some (.int 0)) (by decide +kernel) (z_rx_ok hH (by rfl)) (Or.inr ⟨h1, μj, hJ, Or.inl ⟨h3, rfl, rfl⟩⟩)
noncomputable def wn0 (μj : zM) (t dl e u1 u2 u3 : Nat) : zM := eH0 (rcW (z_ui (z_ui (z_ui (z_ui (z_ui μj 0 12 0) (18 + 8 * u1) 4 ((μj.1 (18 + 8 * u1) 4) - ((hnd ((μj.1 4 0) * (bif decide ((nI u1) = (nI dl)) then (2 : Int32) else 1))) + (100 * (μj.1 0 11))))) (18 + 8 * u2) 4 ((μj.1 (18 + 8 * u2) 4) - ((hnd ((μj.1 4 0) * (bif decide ((nI u2) = (nI dl)) then (2 : Int32) else 1))) + (100 * (μj.1 0 11))))) (18 + 8 * u3) 4 ((μj.1 (18 + 8 * u3) 4) - ((hnd ((μj.1 4 0) * (bif decide ((nI u3) = (nI dl)) then (2 : Int32) else 1))) + (100 * (μj.1 0 11))))) (18 + 8 * t) 4 ((μj.1 (18 + 8 * t) 4) + (((((μj.1 0 12) * 1000) + ((hnd ((μj.1 4 0) * (bif decide ((nI u1) = (nI dl)) then (2 : Int32) else 1))) + (100 * (μj.1 0 11)))) + ((hnd ((μj.1 4 0) * (bif decide ((nI u2) = (nI dl)) then (2 : Int32) else 1))) + (100 * (μj.1 0 11)))) + ((hnd ((μj.1 4 0) * (bif decide ((nI u3) = (nI dl)) then (2 : Int32) else 1))) + (100 * (μj.1 0 11)))))) 0 (nI t) (-1) (((((μj.1 0 12) * 1000) + ((hnd ((μj.1 4 0) * (bif decide ((nI u1) = (nI dl)) then (2 : Int32) else 1))) + (100 * (μj.1 0 11)))) + ((hnd ((μj.1 4 0) * (bif decide ((nI u2) = (nI dl)) then (2 : Int32) else 1))) + (100 * (μj.1 0 11)))) + ((hnd ((μj.1 4 0) * (bif decide ((nI u3) = (nI dl)) then (2 : Int32) else 1))) + (100 * (μj.1 0 11))))) true (xBk (rcW (z_ui (z_ui (z_ui (z_ui (z_ui μj 0 12 0) (18 + 8 * u1) 4 ((μj.1 (18 + 8 * u1) 4) - ((hnd ((μj.1 4 0) * (bif decide ((nI u1) = (nI dl)) then (2 : Int32) else 1))) + (100 * (μj.1 0 11))))) (18 + 8 * u2) 4 ((μj.1 (18 + 8 * u2) 4) - ((hnd ((μj.1 4 0) * (bif decide ((nI u2) = (nI dl)) then (2 : Int32) else 1))) + (100 * (μj.1 0 11))))) (18 + 8 * u3) 4 ((μj.1 (18 + 8 * u3) 4) - ((hnd ((μj.1 4 0) * (bif decide ((nI u3) = (nI dl)) then (2 : Int32) else 1))) + (100 * (μj.1 0 11))))) (18 + 8 * t) 4 ((μj.1 (18 + 8 * t) 4) + (((((μj.1 0 12) * 1000) + ((hnd ((μj.1 4 0) * (bif decide ((nI u1) = (nI dl)) then (2 : Int32) else 1))) + (100 * (μj.1 0 11)))) + ((hnd ((μj.1 4 0) * (bif decide ((nI u2) = (nI dl)) then (2 : Int32) else 1))) + (100 * (μj.1 0 11)))) + ((hnd ((μj.1 4 0) * (bif decide ((nI u3) = (nI dl)) then (2 : Int32) else 1))) + (100 * (μj.1 0 11)))))) 0 (nI t) (-1) (((((μj.1 0 12) * 1000) + ((hnd ((μj.1 4 0) * (bif decide ((nI u1) = (nI dl)) then (2 : Int32) else 1))) + (100 * (μj.1 0 11)))) + ((hnd ((μj.1 4 0) * (bif decide ((nI u2) = (nI dl)) then (2 : Int32) else 1))) + (100 * (μj.1 0 11)))) + ((hnd ((μj.1 4 0) * (bif decide ((nI u3) = (nI dl)) then (2 : Int32) else 1))) + (100 * (μj.1 0 11)))))) dl e (rcM (rcW (z_ui (z_ui (z_ui (z_ui (z_ui μj 0 12 0) (18 + 8 * u1) 4 ((μj.1 (18 + 8 * u1) 4) - ((hnd ((μj.1 4 0) * (bif decide ((nI u1) = (nI dl)) then (2 : Int32) else 1))) + (100 * (μj.1 0 11))))) (18 + 8 * u2) 4 ((μj.1 (18 + 8 * u2) 4) - ((hnd ((μj.1 4 0) * (bif decide ((nI u2) = (nI dl)) then (2 : Int32) else 1))) + (100 * (μj.1 0 11))))) (18 + 8 * u3) 4 ((μj.1 (18 + 8 * u3) 4) - ((hnd ((μj.1 4 0) * (bif decide ((nI u3) = (nI dl)) then (2 : Int32) else 1))) + (100 * (μj.1 0 11))))) (18 + 8 * t) 4 ((μj.1 (18 + 8 * t) 4) + (((((μj.1 0 12) * 1000) + ((hnd ((μj.1 4 0) * (bif decide ((nI u1) = (nI dl)) then (2 : Int32) else 1))) + (100 * (μj.1 0 11)))) + ((hnd ((μj.1 4 0) * (bif decide ((nI u2) = (nI dl)) then (2 : Int32) else 1))) + (100 * (μj.1 0 11)))) + ((hnd ((μj.1 4 0) * (bif decide ((nI u3) = (nI dl)) then (2 : Int32) else 1))) + (100 * (μj.1 0 11)))))) 0 (nI t) (-1) (((((μj.1 0 12) * 1000) + ((hnd ((μj.1 4 0) * (bif decide ((nI u1) = (nI dl)) then (2 : Int32) else 1))) + (100 * (μj.1 0 11)))) + ((hnd ((μj.1 4 0) * (bif decide ((nI u2) = (nI dl)) then (2 : Int32) else 1))) + (100 * (μj.1 0 11)))) + ((hnd ((μj.1 4 0) * (bif decide ((nI u3) = (nI dl)) then (2 : Int32) else 1))) + (100 * (μj.1 0 11))))))
theorem gc_win0 (d : Nat) (hd : 11 ≤ d) (μ : zM) (t dl e c u1 u2 u3 : Nat) (ht4 : t < 4) (ht : μ.1 0 8 = nI t) (hdl4 : dl < 4) (he : (dl + 1) % 4 = e) (hc34 : c < 34) (hc15 : μ.1 0 15 = nI c) (hu1 : (t + 1) % 4 = u1) (hu14 : u1 < 4) (hu2 : (t + 2) % 4 = u2) (hu24 : u2 < 4) (hu3 : (t + 3) % 4 = u3) (hu34 : u3 < 4) (heq : t ≠ dl) (J : zM → Prop) (hJX : ∀ m, J m → m.1 0 8 = nI t ∧ m.1 0 9 = nI dl ∧ m.1 0 6 = nI 0) (hwg : ∀ d, 10 ≤ d → z_C d mi_X6_weighHand [.ref 0, .int (nI t), .int 1] μ (fun r μ' => ∃ μj, J μj ∧ μ' = μj ∧ r = some (.int (μj.1 4 0)))) : z_C d mi_X6_win [.ref 0] μ (fun r μ' => (decide (μ.1 0 7 = 1) = false ∧ r = some (.int 0) ∧ μ' = μ) ∨ (decide (μ.1 0 7 = 1) = true ∧ ∃ μj, J μj ∧ ((decide (μj.1 4 0 = 0) = true ∧ r = some (.int 0) ∧ μ' = μj) ∨ (decide (μj.1 4 0 = 0) = false ∧ r = some (.int 1) ∧ μ' = wn0 μj t dl e u1 u2 u3)))) := by
  refine z_C_in (by decide) (by omega) (fun d' Z ed hc hr => ?_)
  have hH : zH mi_X6_win zt_X6_win 79 6 6 := hh_X6_win
  refine z_rcs hc hH 1 (pc' := 1) (lv' := [(0, .ref 0)]) (st' := [.ref 0]) (μ' := μ) (by rfl) ?_
  refine zq_gfi hc hH (by rfl) (ci := 5) (f := 7) (by rfl) (by decide +kernel) (by rfl) ?_
  refine z_rcs hc hH 1 (pc' := 5) (lv' := [(0, .ref 0)]) (st' := [.int 1, .int (μ.1 0 7)]) (μ' := μ) (by rfl) ?_
  refine zq_ic hc hH (by rfl) (tg := 28) (by rfl) (fun h1 => ?_) (fun h1 => ?_)
  · have h1 : (decide ((μ.1 0 7) = 1)) = false := decide_eq_false (cm_ne.mp h1)
    refine z_rcs hc hH 1 (pc' := 29) (lv' := [(0, .ref 0)]) (st' := [.int 0]) (μ' := μ) (by rfl) ?_
    exact hr 0 29 _ _ _ (some (.int 0)) (by decide +kernel) (z_rx_ok hH (by rfl)) (Or.inl ⟨h1, rfl, rfl⟩)
  · have h1 : (decide ((μ.1 0 7) = 1)) = true := decide_eq_true (cn_ne.mp h1)
    refine z_rcs hc hH 1 (pc' := 9) (lv' := [(0, .ref 0)]) (st' := [.ref 0]) (μ' := μ) (by rfl) ?_
    refine zq_gfi hc hH (by rfl) (ci := 5) (f := 15) (by rfl) (by decide +kernel) (by rfl) ?_
    rw [hc15]
    refine z_rcs hc hH 1 (pc' := 13) (lv' := [(0, .ref 0)]) (st' := [.int (-1), .int (nI c)]) (μ' := μ) (by rfl) ?_
    refine zq_ic hc hH (by rfl) (tg := 28) (by rfl) (fun h2 => ?_) (fun h2 => ?_)
    · have h2 : (decide ((nI c) = (-1))) = true := decide_eq_true (cm_eq9.mp h2)
      exact absurd (Eq.trans (Eq.symm (kn_m1 (by omega))) h2) (by decide)
    · have h2 : (decide ((nI c) = (-1))) = false := decide_eq_false (cn_eq.mp h2)
      refine z_rcs hc hH 2 (pc' := 18) (lv' := [(0, .ref 0)]) (st' := [.ref 0, .ref 0]) (μ' := μ) (by rfl) ?_
      refine zq_gfi hc hH (by rfl) (ci := 5) (f := 8) (by rfl) (by decide +kernel) (by rfl) ?_
      rw [ht]
      refine z_rcs hc hH 1 (pc' := 22) (lv' := [(0, .ref 0)]) (st' := [.int 1, .int (nI t), .ref 0]) (μ' := μ) (by rfl) ?_
      refine zq_call hc (z_cx_ok hH (by rfl)) (hwg d' (by omega)) (by decide +kernel) (fun r9 μ9 hq => ?_)
      obtain ⟨μj, hJ, hm9, rfl⟩ := hq
      rw [hm9]
      clear hm9 μ9
      obtain ⟨hJ8, hJ9, hJ6⟩ := hJX _ hJ
      show Z 0 25 [(0, .ref 0)] [.int (μj.1 4 0)] μj
      refine zq_if hc hH (by rfl) (tg := 30) (by rfl) (fun h3 => ?_) (fun h3 => ?_)
      · have h3 : (decide ((μj.1 4 0) = 0)) = false := decide_eq_false (cm_ne.mp h3)
        refine z_rcs hc hH 1 (pc' := 31) (lv' := [(0, .ref 0)]) (st' := [.ref 0]) (μ' := μj) (by rfl) ?_
        refine zq_gfi hc hH (by rfl) (ci := 5) (f := 12) (by rfl) (by decide +kernel) (by rfl) ?_
        refine z_rcs hc hH 5 (pc' := 41) (lv' := [(1, .int ((μj.1 0 12) * 1000)), (0, .ref 0)]) (st' := [.int 0, .ref 0]) (μ' := μj) (by rfl) ?_
        refine zq_pfi hc hH (by rfl) (ci := 5) (f := 12) (by rfl) (by decide +kernel) (by rfl) ?_
        show Z 0 44 [(1, .int ((μj.1 0 12) * 1000)), (0, .ref 0)] [] (z_ui μj 0 12 0)
        refine z_rcs hc hH 6 (pc' := 52) (lv' := [(2, .int 1), (1, .int ((μj.1 0 12) * 1000)), (0, .ref 0)]) (st' := [.ref 0]) (μ' := z_ui μj 0 12 0) (by rfl) ?_
        refine zq_gfi hc hH (by rfl) (ci := 5) (f := 8) (by rfl) (by decide +kernel) (by rfl) ?_
        refine zV1 (Z := Z) (ui_k (by first | decide | omega)) ?_
        rw [hJ8]
        refine z_rcs hc hH 2 (pc' := 57) (lv' := [(2, .int 1), (1, .int ((μj.1 0 12) * 1000)), (0, .ref 0)]) (st' := [.int ((nI t) + 1)]) (μ' := z_ui μj 0 12 0) (by rfl) ?_
        rw [show nI t + 1 = nI (t + 1) from by rw [show (1 : Int32) = nI 1 from rfl, nI_add]]
        refine z_rcs hc hH 2 (pc' := 59) (lv' := [(2, .int 1), (1, .int ((μj.1 0 12) * 1000)), (0, .ref 0)]) (st' := [.int ((nI (t + 1)) &&& 3)]) (μ' := z_ui μj 0 12 0) (by rfl) ?_
        rw [show nI (t + 1) &&& 3 = nI u1 from by rw [and3 (by omega), hu1]]
        refine z_rcs hc hH 2 (pc' := 61) (lv' := [(3, .int (nI u1)), (2, .int 1), (1, .int ((μj.1 0 12) * 1000)), (0, .ref 0)]) (st' := [.ref 0]) (μ' := z_ui μj 0 12 0) (by rfl) ?_
        refine zq_gfi hc hH (by rfl) (ci := 5) (f := 8) (by rfl) (by decide +kernel) (by rfl) ?_
        refine zV1 (Z := Z) (ui_k (by first | decide | omega)) ?_
        rw [hJ8]
        refine z_rcs hc hH 1 (pc' := 65) (lv' := [(3, .int (nI u1)), (2, .int 1), (1, .int ((μj.1 0 12) * 1000)), (0, .ref 0)]) (st' := [.ref 0, .int (nI t)]) (μ' := z_ui μj 0 12 0) (by rfl) ?_
        refine zq_gfi hc hH (by rfl) (ci := 5) (f := 9) (by rfl) (by decide +kernel) (by rfl) ?_
        refine zV1 (Z := Z) (ui_k (by first | decide | omega)) ?_
        rw [hJ9]
        refine zq_ic hc hH (by rfl) (tg := 79) (by rfl) (fun h4 => ?_) (fun h4 => ?_)
        · have h4 : (decide ((nI t) = (nI dl))) = true := decide_eq_true (cm_eq9.mp h4)
          exact absurd (Eq.trans (Eq.symm (kn_ne (by omega) (by omega) heq)) h4) (by decide)
        · have h4 : (decide ((nI t) = (nI dl))) = false := decide_eq_false (cn_eq.mp h4)
          refine z_rcs hc hH 2 (pc' := 73) (lv' := [(3, .int (nI u1)), (2, .int 1), (1, .int ((μj.1 0 12) * 1000)), (0, .ref 0)]) (st' := [.ref 0, .int (nI u1)]) (μ' := z_ui μj 0 12 0) (by rfl) ?_
          refine zq_gfi hc hH (by rfl) (ci := 5) (f := 9) (by rfl) (by decide +kernel) (by rfl) ?_
          refine zV1 (Z := Z) (ui_k (by first | decide | omega)) ?_
          rw [hJ9]
          have hJ5 : Z 0 84 [(3, .int (nI u1)), (2, .int 1), (1, .int ((μj.1 0 12) * 1000)), (0, .ref 0)] [.int (bif decide ((nI u1) = (nI dl)) then (2 : Int32) else 1)] (z_ui μj 0 12 0) := by
            refine z_rcs hc hH 2 (pc' := 87) (lv' := [(4, .int (bif decide ((nI u1) = (nI dl)) then (2 : Int32) else 1)), (3, .int (nI u1)), (2, .int 1), (1, .int ((μj.1 0 12) * 1000)), (0, .ref 0)]) (st' := [.ref 0]) (μ' := z_ui μj 0 12 0) (by rfl) ?_
            refine zq_gfr hc hH (by rfl) (ci := 5) (f := 2) (q := 4) (by rfl) (by decide +kernel) (by rfl) (by decide +kernel) ?_
            refine zq_gfi hc hH (by rfl) (ci := 0) (f := 0) (by rfl) (by decide +kernel) (by rfl) ?_
            refine zV1 (Z := Z) (ui_o (by first | decide | omega)) ?_
            refine z_rcs hc hH 2 (pc' := 96) (lv' := [(4, .int (bif decide ((nI u1) = (nI dl)) then (2 : Int32) else 1)), (3, .int (nI u1)), (2, .int 1), (1, .int ((μj.1 0 12) * 1000)), (0, .ref 0)]) (st' := [.int ((μj.1 4 0) * (bif decide ((nI u1) = (nI dl)) then (2 : Int32) else 1))]) (μ' := z_ui μj 0 12 0) (by rfl) ?_
            refine zq_call hc (z_cx_ok hH (by rfl)) (gc_hundreds d' (by omega) (z_ui μj 0 12 0) ((μj.1 4 0) * (bif decide ((nI u1) = (nI dl)) then (2 : Int32) else 1))) (by decide +kernel) (fun r9 μ9 hq => ?_)
            obtain ⟨hμ9, rfl⟩ := hq
            rw [hμ9]
            clear hμ9 μ9
            show Z 0 99 [(4, .int (bif decide ((nI u1) = (nI dl)) then (2 : Int32) else 1)), (3, .int (nI u1)), (2, .int 1), (1, .int ((μj.1 0 12) * 1000)), (0, .ref 0)] [.int (hnd ((μj.1 4 0) * (bif decide ((nI u1) = (nI dl)) then (2 : Int32) else 1)))] (z_ui μj 0 12 0)
            refine z_rcs hc hH 2 (pc' := 102) (lv' := [(4, .int (bif decide ((nI u1) = (nI dl)) then (2 : Int32) else 1)), (3, .int (nI u1)), (2, .int 1), (1, .int ((μj.1 0 12) * 1000)), (0, .ref 0)]) (st' := [.ref 0, .int 100, .int (hnd ((μj.1 4 0) * (bif decide ((nI u1) = (nI dl)) then (2 : Int32) else 1)))]) (μ' := z_ui μj 0 12 0) (by rfl) ?_
            refine zq_gfi hc hH (by rfl) (ci := 5) (f := 11) (by rfl) (by decide +kernel) (by rfl) ?_
            refine zV1 (Z := Z) (ui_k (by first | decide | omega)) ?_
            refine z_rcs hc hH 5 (pc' := 111) (lv' := [(5, .int ((hnd ((μj.1 4 0) * (bif decide ((nI u1) = (nI dl)) then (2 : Int32) else 1))) + (100 * (μj.1 0 11)))), (4, .int (bif decide ((nI u1) = (nI dl)) then (2 : Int32) else 1)), (3, .int (nI u1)), (2, .int 1), (1, .int ((μj.1 0 12) * 1000)), (0, .ref 0)]) (st' := [.int (nI u1), .ref 0]) (μ' := z_ui μj 0 12 0) (by rfl) ?_
            refine zq_call hc (z_cx_ok hH (by rfl)) (gc_at4 d' (by omega) (z_ui μj 0 12 0) u1 hu14) (by decide +kernel) (fun r9 μ9 hq => ?_)
            obtain ⟨hμ9, rfl⟩ := hq
            rw [hμ9]
            clear hμ9 μ9
            show Z 0 114 [(5, .int ((hnd ((μj.1 4 0) * (bif decide ((nI u1) = (nI dl)) then (2 : Int32) else 1))) + (100 * (μj.1 0 11)))), (4, .int (bif decide ((nI u1) = (nI dl)) then (2 : Int32) else 1)), (3, .int (nI u1)), (2, .int 1), (1, .int ((μj.1 0 12) * 1000)), (0, .ref 0)] [.ref (18 + 8 * u1)] (z_ui μj 0 12 0)
            refine z_rcs hc hH 1 (pc' := 115) (lv' := [(5, .int ((hnd ((μj.1 4 0) * (bif decide ((nI u1) = (nI dl)) then (2 : Int32) else 1))) + (100 * (μj.1 0 11)))), (4, .int (bif decide ((nI u1) = (nI dl)) then (2 : Int32) else 1)), (3, .int (nI u1)), (2, .int 1), (1, .int ((μj.1 0 12) * 1000)), (0, .ref 0)]) (st' := [.ref (18 + 8 * u1), .ref (18 + 8 * u1)]) (μ' := z_ui μj 0 12 0) (by rfl) ?_
            refine zq_gfi hc hH (by rfl) (ci := 1) (f := 4) (by rfl) (sj (P := fun i => okf 79 1 4 (18 + 8 * i)) hu14 (by decide +kernel)) (by rfl) ?_
            refine zV1 (Z := Z) (ui_o (by first | decide | omega)) ?_
            refine z_rcs hc hH 2 (pc' := 121) (lv' := [(5, .int ((hnd ((μj.1 4 0) * (bif decide ((nI u1) = (nI dl)) then (2 : Int32) else 1))) + (100 * (μj.1 0 11)))), (4, .int (bif decide ((nI u1) = (nI dl)) then (2 : Int32) else 1)), (3, .int (nI u1)), (2, .int 1), (1, .int ((μj.1 0 12) * 1000)), (0, .ref 0)]) (st' := [.int ((μj.1 (18 + 8 * u1) 4) - ((hnd ((μj.1 4 0) * (bif decide ((nI u1) = (nI dl)) then (2 : Int32) else 1))) + (100 * (μj.1 0 11)))), .ref (18 + 8 * u1)]) (μ' := z_ui μj 0 12 0) (by rfl) ?_
            refine zq_pfi hc hH (by rfl) (ci := 1) (f := 4) (by rfl) (sj (P := fun i => okf 79 1 4 (18 + 8 * i)) hu14 (by decide +kernel)) (by rfl) ?_
            show Z 0 124 [(5, .int ((hnd ((μj.1 4 0) * (bif decide ((nI u1) = (nI dl)) then (2 : Int32) else 1))) + (100 * (μj.1 0 11)))), (4, .int (bif decide ((nI u1) = (nI dl)) then (2 : Int32) else 1)), (3, .int (nI u1)), (2, .int 1), (1, .int ((μj.1 0 12) * 1000)), (0, .ref 0)] [] (z_ui (z_ui μj 0 12 0) (18 + 8 * u1) 4 ((μj.1 (18 + 8 * u1) 4) - ((hnd ((μj.1 4 0) * (bif decide ((nI u1) = (nI dl)) then (2 : Int32) else 1))) + (100 * (μj.1 0 11)))))
            refine z_rcs0 hc hH 10 (pc' := 52) (lv' := [(2, .int 2), (1, .int (((μj.1 0 12) * 1000) + ((hnd ((μj.1 4 0) * (bif decide ((nI u1) = (nI dl)) then (2 : Int32) else 1))) + (100 * (μj.1 0 11))))), (5, .int ((hnd ((μj.1 4 0) * (bif decide ((nI u1) = (nI dl)) then (2 : Int32) else 1))) + (100 * (μj.1 0 11)))), (4, .int (bif decide ((nI u1) = (nI dl)) then (2 : Int32) else 1)), (3, .int (nI u1)), (0, .ref 0)]) (st' := [.ref 0]) (by rfl) ?_
            refine zq_gfi hc hH (by rfl) (ci := 5) (f := 8) (by rfl) (by decide +kernel) (by rfl) ?_
            refine zV1 (Z := Z) (Eq.trans (ui_o (by first | decide | omega)) (ui_k (by first | decide | omega))) ?_
            rw [hJ8]
            refine z_rcs0 hc hH 2 (pc' := 57) (lv' := [(2, .int 2), (1, .int (((μj.1 0 12) * 1000) + ((hnd ((μj.1 4 0) * (bif decide ((nI u1) = (nI dl)) then (2 : Int32) else 1))) + (100 * (μj.1 0 11))))), (5, .int ((hnd ((μj.1 4 0) * (bif decide ((nI u1) = (nI dl)) then (2 : Int32) else 1))) + (100 * (μj.1 0 11)))), (4, .int (bif decide ((nI u1) = (nI dl)) then (2 : Int32) else 1)), (3, .int (nI u1)), (0, .ref 0)]) (st' := [.int ((nI t) + 2)]) (by rfl) ?_
            rw [show nI t + 2 = nI (t + 2) from by rw [show (2 : Int32) = nI 2 from rfl, nI_add]]
            refine z_rcs0 hc hH 2 (pc' := 59) (lv' := [(2, .int 2), (1, .int (((μj.1 0 12) * 1000) + ((hnd ((μj.1 4 0) * (bif decide ((nI u1) = (nI dl)) then (2 : Int32) else 1))) + (100 * (μj.1 0 11))))), (5, .int ((hnd ((μj.1 4 0) * (bif decide ((nI u1) = (nI dl)) then (2 : Int32) else 1))) + (100 * (μj.1 0 11)))), (4, .int (bif decide ((nI u1) = (nI dl)) then (2 : Int32) else 1)), (3, .int (nI u1)), (0, .ref 0)]) (st' := [.int ((nI (t + 2)) &&& 3)]) (by rfl) ?_
            rw [show nI (t + 2) &&& 3 = nI u2 from by rw [and3 (by omega), hu2]]
            refine z_rcs0 hc hH 2 (pc' := 61) (lv' := [(3, .int (nI u2)), (2, .int 2), (1, .int (((μj.1 0 12) * 1000) + ((hnd ((μj.1 4 0) * (bif decide ((nI u1) = (nI dl)) then (2 : Int32) else 1))) + (100 * (μj.1 0 11))))), (5, .int ((hnd ((μj.1 4 0) * (bif decide ((nI u1) = (nI dl)) then (2 : Int32) else 1))) + (100 * (μj.1 0 11)))), (4, .int (bif decide ((nI u1) = (nI dl)) then (2 : Int32) else 1)), (0, .ref 0)]) (st' := [.ref 0]) (by rfl) ?_
            refine zq_gfi hc hH (by rfl) (ci := 5) (f := 8) (by rfl) (by decide +kernel) (by rfl) ?_
            refine zV1 (Z := Z) (Eq.trans (ui_o (by first | decide | omega)) (ui_k (by first | decide | omega))) ?_
            rw [hJ8]
            refine z_rcs0 hc hH 1 (pc' := 65) (lv' := [(3, .int (nI u2)), (2, .int 2), (1, .int (((μj.1 0 12) * 1000) + ((hnd ((μj.1 4 0) * (bif decide ((nI u1) = (nI dl)) then (2 : Int32) else 1))) + (100 * (μj.1 0 11))))), (5, .int ((hnd ((μj.1 4 0) * (bif decide ((nI u1) = (nI dl)) then (2 : Int32) else 1))) + (100 * (μj.1 0 11)))), (4, .int (bif decide ((nI u1) = (nI dl)) then (2 : Int32) else 1)), (0, .ref 0)]) (st' := [.ref 0, .int (nI t)]) (by rfl) ?_
            refine zq_gfi hc hH (by rfl) (ci := 5) (f := 9) (by rfl) (by decide +kernel) (by rfl) ?_
            refine zV1 (Z := Z) (Eq.trans (ui_o (by first | decide | omega)) (ui_k (by first | decide | omega))) ?_
            rw [hJ9]
            refine zq_ic hc hH (by rfl) (tg := 79) (by rfl) (fun h6 => ?_) (fun h6 => ?_)
            · have h6 : (decide ((nI t) = (nI dl))) = true := decide_eq_true (cm_eq9.mp h6)
              exact absurd (Eq.trans (Eq.symm (kn_ne (by omega) (by omega) heq)) h6) (by decide)
            · have h6 : (decide ((nI t) = (nI dl))) = false := decide_eq_false (cn_eq.mp h6)
              refine z_rcs0 hc hH 2 (pc' := 73) (lv' := [(3, .int (nI u2)), (2, .int 2), (1, .int (((μj.1 0 12) * 1000) + ((hnd ((μj.1 4 0) * (bif decide ((nI u1) = (nI dl)) then (2 : Int32) else 1))) + (100 * (μj.1 0 11))))), (5, .int ((hnd ((μj.1 4 0) * (bif decide ((nI u1) = (nI dl)) then (2 : Int32) else 1))) + (100 * (μj.1 0 11)))), (4, .int (bif decide ((nI u1) = (nI dl)) then (2 : Int32) else 1)), (0, .ref 0)]) (st' := [.ref 0, .int (nI u2)]) (by rfl) ?_
              refine zq_gfi hc hH (by rfl) (ci := 5) (f := 9) (by rfl) (by decide +kernel) (by rfl) ?_
              refine zV1 (Z := Z) (Eq.trans (ui_o (by first | decide | omega)) (ui_k (by first | decide | omega))) ?_
              rw [hJ9]
              have hJ7 : Z 0 84 [(3, .int (nI u2)), (2, .int 2), (1, .int (((μj.1 0 12) * 1000) + ((hnd ((μj.1 4 0) * (bif decide ((nI u1) = (nI dl)) then (2 : Int32) else 1))) + (100 * (μj.1 0 11))))), (5, .int ((hnd ((μj.1 4 0) * (bif decide ((nI u1) = (nI dl)) then (2 : Int32) else 1))) + (100 * (μj.1 0 11)))), (4, .int (bif decide ((nI u1) = (nI dl)) then (2 : Int32) else 1)), (0, .ref 0)] [.int (bif decide ((nI u2) = (nI dl)) then (2 : Int32) else 1)] (z_ui (z_ui μj 0 12 0) (18 + 8 * u1) 4 ((μj.1 (18 + 8 * u1) 4) - ((hnd ((μj.1 4 0) * (bif decide ((nI u1) = (nI dl)) then (2 : Int32) else 1))) + (100 * (μj.1 0 11))))) := by
                refine z_rcs0 hc hH 2 (pc' := 87) (lv' := [(4, .int (bif decide ((nI u2) = (nI dl)) then (2 : Int32) else 1)), (3, .int (nI u2)), (2, .int 2), (1, .int (((μj.1 0 12) * 1000) + ((hnd ((μj.1 4 0) * (bif decide ((nI u1) = (nI dl)) then (2 : Int32) else 1))) + (100 * (μj.1 0 11))))), (5, .int ((hnd ((μj.1 4 0) * (bif decide ((nI u1) = (nI dl)) then (2 : Int32) else 1))) + (100 * (μj.1 0 11)))), (0, .ref 0)]) (st' := [.ref 0]) (by rfl) ?_
                refine zq_gfr hc hH (by rfl) (ci := 5) (f := 2) (q := 4) (by rfl) (by decide +kernel) (by rfl) (by decide +kernel) ?_
                refine zq_gfi hc hH (by rfl) (ci := 0) (f := 0) (by rfl) (by decide +kernel) (by rfl) ?_
                refine zV1 (Z := Z) (Eq.trans (ui_o (by first | decide | omega)) (ui_o (by first | decide | omega))) ?_
                refine z_rcs0 hc hH 2 (pc' := 96) (lv' := [(4, .int (bif decide ((nI u2) = (nI dl)) then (2 : Int32) else 1)), (3, .int (nI u2)), (2, .int 2), (1, .int (((μj.1 0 12) * 1000) + ((hnd ((μj.1 4 0) * (bif decide ((nI u1) = (nI dl)) then (2 : Int32) else 1))) + (100 * (μj.1 0 11))))), (5, .int ((hnd ((μj.1 4 0) * (bif decide ((nI u1) = (nI dl)) then (2 : Int32) else 1))) + (100 * (μj.1 0 11)))), (0, .ref 0)]) (st' := [.int ((μj.1 4 0) * (bif decide ((nI u2) = (nI dl)) then (2 : Int32) else 1))]) (by rfl) ?_
                refine zq_call hc (z_cx_ok hH (by rfl)) (gc_hundreds d' (by omega) (z_ui (z_ui μj 0 12 0) (18 + 8 * u1) 4 ((μj.1 (18 + 8 * u1) 4) - ((hnd ((μj.1 4 0) * (bif decide ((nI u1) = (nI dl)) then (2 : Int32) else 1))) + (100 * (μj.1 0 11))))) ((μj.1 4 0) * (bif decide ((nI u2) = (nI dl)) then (2 : Int32) else 1))) (by decide +kernel) (fun r9 μ9 hq => ?_)
                obtain ⟨hμ9, rfl⟩ := hq
                rw [hμ9]
                clear hμ9 μ9
                show Z 0 99 [(4, .int (bif decide ((nI u2) = (nI dl)) then (2 : Int32) else 1)), (3, .int (nI u2)), (2, .int 2), (1, .int (((μj.1 0 12) * 1000) + ((hnd ((μj.1 4 0) * (bif decide ((nI u1) = (nI dl)) then (2 : Int32) else 1))) + (100 * (μj.1 0 11))))), (5, .int ((hnd ((μj.1 4 0) * (bif decide ((nI u1) = (nI dl)) then (2 : Int32) else 1))) + (100 * (μj.1 0 11)))), (0, .ref 0)] [.int (hnd ((μj.1 4 0) * (bif decide ((nI u2) = (nI dl)) then (2 : Int32) else 1)))] _
                refine z_rcs0 hc hH 2 (pc' := 102) (lv' := [(4, .int (bif decide ((nI u2) = (nI dl)) then (2 : Int32) else 1)), (3, .int (nI u2)), (2, .int 2), (1, .int (((μj.1 0 12) * 1000) + ((hnd ((μj.1 4 0) * (bif decide ((nI u1) = (nI dl)) then (2 : Int32) else 1))) + (100 * (μj.1 0 11))))), (5, .int ((hnd ((μj.1 4 0) * (bif decide ((nI u1) = (nI dl)) then (2 : Int32) else 1))) + (100 * (μj.1 0 11)))), (0, .ref 0)]) (st' := [.ref 0, .int 100, .int (hnd ((μj.1 4 0) * (bif decide ((nI u2) = (nI dl)) then (2 : Int32) else 1)))]) (by rfl) ?_
                refine zq_gfi hc hH (by rfl) (ci := 5) (f := 11) (by rfl) (by decide +kernel) (by rfl) ?_
                refine zV1 (Z := Z) (Eq.trans (ui_o (by first | decide | omega)) (ui_k (by first | decide | omega))) ?_
                refine z_rcs0 hc hH 5 (pc' := 111) (lv' := [(5, .int ((hnd ((μj.1 4 0) * (bif decide ((nI u2) = (nI dl)) then (2 : Int32) else 1))) + (100 * (μj.1 0 11)))), (4, .int (bif decide ((nI u2) = (nI dl)) then (2 : Int32) else 1)), (3, .int (nI u2)), (2, .int 2), (1, .int (((μj.1 0 12) * 1000) + ((hnd ((μj.1 4 0) * (bif decide ((nI u1) = (nI dl)) then (2 : Int32) else 1))) + (100 * (μj.1 0 11))))), (0, .ref 0)]) (st' := [.int (nI u2), .ref 0]) (by rfl) ?_
                refine zq_call hc (z_cx_ok hH (by rfl)) (gc_at4 d' (by omega) (z_ui (z_ui μj 0 12 0) (18 + 8 * u1) 4 ((μj.1 (18 + 8 * u1) 4) - ((hnd ((μj.1 4 0) * (bif decide ((nI u1) = (nI dl)) then (2 : Int32) else 1))) + (100 * (μj.1 0 11))))) u2 hu24) (by decide +kernel) (fun r9 μ9 hq => ?_)
                obtain ⟨hμ9, rfl⟩ := hq
                rw [hμ9]
                clear hμ9 μ9
                show Z 0 114 [(5, .int ((hnd ((μj.1 4 0) * (bif decide ((nI u2) = (nI dl)) then (2 : Int32) else 1))) + (100 * (μj.1 0 11)))), (4, .int (bif decide ((nI u2) = (nI dl)) then (2 : Int32) else 1)), (3, .int (nI u2)), (2, .int 2), (1, .int (((μj.1 0 12) * 1000) + ((hnd ((μj.1 4 0) * (bif decide ((nI u1) = (nI dl)) then (2 : Int32) else 1))) + (100 * (μj.1 0 11))))), (0, .ref 0)] [.ref (18 + 8 * u2)] _
                refine z_rcs0 hc hH 1 (pc' := 115) (lv' := [(5, .int ((hnd ((μj.1 4 0) * (bif decide ((nI u2) = (nI dl)) then (2 : Int32) else 1))) + (100 * (μj.1 0 11)))), (4, .int (bif decide ((nI u2) = (nI dl)) then (2 : Int32) else 1)), (3, .int (nI u2)), (2, .int 2), (1, .int (((μj.1 0 12) * 1000) + ((hnd ((μj.1 4 0) * (bif decide ((nI u1) = (nI dl)) then (2 : Int32) else 1))) + (100 * (μj.1 0 11))))), (0, .ref 0)]) (st' := [.ref (18 + 8 * u2), .ref (18 + 8 * u2)]) (by rfl) ?_
                refine zq_gfi hc hH (by rfl) (ci := 1) (f := 4) (by rfl) (sj (P := fun i => okf 79 1 4 (18 + 8 * i)) hu24 (by decide +kernel)) (by rfl) ?_
                refine zV1 (Z := Z) (Eq.trans (ui_o (by first | decide | omega)) (ui_o (by first | decide | omega))) ?_
                refine z_rcs0 hc hH 2 (pc' := 121) (lv' := [(5, .int ((hnd ((μj.1 4 0) * (bif decide ((nI u2) = (nI dl)) then (2 : Int32) else 1))) + (100 * (μj.1 0 11)))), (4, .int (bif decide ((nI u2) = (nI dl)) then (2 : Int32) else 1)), (3, .int (nI u2)), (2, .int 2), (1, .int (((μj.1 0 12) * 1000) + ((hnd ((μj.1 4 0) * (bif decide ((nI u1) = (nI dl)) then (2 : Int32) else 1))) + (100 * (μj.1 0 11))))), (0, .ref 0)]) (st' := [.int ((μj.1 (18 + 8 * u2) 4) - ((hnd ((μj.1 4 0) * (bif decide ((nI u2) = (nI dl)) then (2 : Int32) else 1))) + (100 * (μj.1 0 11)))), .ref (18 + 8 * u2)]) (by rfl) ?_
                refine zq_pfi hc hH (by rfl) (ci := 1) (f := 4) (by rfl) (sj (P := fun i => okf 79 1 4 (18 + 8 * i)) hu24 (by decide +kernel)) (by rfl) ?_
                show Z 0 124 [(5, .int ((hnd ((μj.1 4 0) * (bif decide ((nI u2) = (nI dl)) then (2 : Int32) else 1))) + (100 * (μj.1 0 11)))), (4, .int (bif decide ((nI u2) = (nI dl)) then (2 : Int32) else 1)), (3, .int (nI u2)), (2, .int 2), (1, .int (((μj.1 0 12) * 1000) + ((hnd ((μj.1 4 0) * (bif decide ((nI u1) = (nI dl)) then (2 : Int32) else 1))) + (100 * (μj.1 0 11))))), (0, .ref 0)] [] (z_ui (z_ui (z_ui μj 0 12 0) (18 + 8 * u1) 4 ((μj.1 (18 + 8 * u1) 4) - ((hnd ((μj.1 4 0) * (bif decide ((nI u1) = (nI dl)) then (2 : Int32) else 1))) + (100 * (μj.1 0 11))))) (18 + 8 * u2) 4 ((μj.1 (18 + 8 * u2) 4) - ((hnd ((μj.1 4 0) * (bif decide ((nI u2) = (nI dl)) then (2 : Int32) else 1))) + (100 * (μj.1 0 11)))))
                refine z_rcs0 hc hH 10 (pc' := 52) (lv' := [(2, .int 3), (1, .int ((((μj.1 0 12) * 1000) + ((hnd ((μj.1 4 0) * (bif decide ((nI u1) = (nI dl)) then (2 : Int32) else 1))) + (100 * (μj.1 0 11)))) + ((hnd ((μj.1 4 0) * (bif decide ((nI u2) = (nI dl)) then (2 : Int32) else 1))) + (100 * (μj.1 0 11))))), (5, .int ((hnd ((μj.1 4 0) * (bif decide ((nI u2) = (nI dl)) then (2 : Int32) else 1))) + (100 * (μj.1 0 11)))), (4, .int (bif decide ((nI u2) = (nI dl)) then (2 : Int32) else 1)), (3, .int (nI u2)), (0, .ref 0)]) (st' := [.ref 0]) (by rfl) ?_
                refine zq_gfi hc hH (by rfl) (ci := 5) (f := 8) (by rfl) (by decide +kernel) (by rfl) ?_
                refine zV1 (Z := Z) (Eq.trans (ui_o (by first | decide | omega)) (Eq.trans (ui_o (by first | decide | omega)) (ui_k (by first | decide | omega)))) ?_
                rw [hJ8]
                refine z_rcs0 hc hH 2 (pc' := 57) (lv' := [(2, .int 3), (1, .int ((((μj.1 0 12) * 1000) + ((hnd ((μj.1 4 0) * (bif decide ((nI u1) = (nI dl)) then (2 : Int32) else 1))) + (100 * (μj.1 0 11)))) + ((hnd ((μj.1 4 0) * (bif decide ((nI u2) = (nI dl)) then (2 : Int32) else 1))) + (100 * (μj.1 0 11))))), (5, .int ((hnd ((μj.1 4 0) * (bif decide ((nI u2) = (nI dl)) then (2 : Int32) else 1))) + (100 * (μj.1 0 11)))), (4, .int (bif decide ((nI u2) = (nI dl)) then (2 : Int32) else 1)), (3, .int (nI u2)), (0, .ref 0)]) (st' := [.int ((nI t) + 3)]) (by rfl) ?_
                rw [show nI t + 3 = nI (t + 3) from by rw [show (3 : Int32) = nI 3 from rfl, nI_add]]
                refine z_rcs0 hc hH 2 (pc' := 59) (lv' := [(2, .int 3), (1, .int ((((μj.1 0 12) * 1000) + ((hnd ((μj.1 4 0) * (bif decide ((nI u1) = (nI dl)) then (2 : Int32) else 1))) + (100 * (μj.1 0 11)))) + ((hnd ((μj.1 4 0) * (bif decide ((nI u2) = (nI dl)) then (2 : Int32) else 1))) + (100 * (μj.1 0 11))))), (5, .int ((hnd ((μj.1 4 0) * (bif decide ((nI u2) = (nI dl)) then (2 : Int32) else 1))) + (100 * (μj.1 0 11)))), (4, .int (bif decide ((nI u2) = (nI dl)) then (2 : Int32) else 1)), (3, .int (nI u2)), (0, .ref 0)]) (st' := [.int ((nI (t + 3)) &&& 3)]) (by rfl) ?_
                rw [show nI (t + 3) &&& 3 = nI u3 from by rw [and3 (by omega), hu3]]
                refine z_rcs0 hc hH 2 (pc' := 61) (lv' := [(3, .int (nI u3)), (2, .int 3), (1, .int ((((μj.1 0 12) * 1000) + ((hnd ((μj.1 4 0) * (bif decide ((nI u1) = (nI dl)) then (2 : Int32) else 1))) + (100 * (μj.1 0 11)))) + ((hnd ((μj.1 4 0) * (bif decide ((nI u2) = (nI dl)) then (2 : Int32) else 1))) + (100 * (μj.1 0 11))))), (5, .int ((hnd ((μj.1 4 0) * (bif decide ((nI u2) = (nI dl)) then (2 : Int32) else 1))) + (100 * (μj.1 0 11)))), (4, .int (bif decide ((nI u2) = (nI dl)) then (2 : Int32) else 1)), (0, .ref 0)]) (st' := [.ref 0]) (by rfl) ?_
                refine zq_gfi hc hH (by rfl) (ci := 5) (f := 8) (by rfl) (by decide +kernel) (by rfl) ?_
                refine zV1 (Z := Z) (Eq.trans (ui_o (by first | decide | omega)) (Eq.trans (ui_o (by first | decide | omega)) (ui_k (by first | decide | omega)))) ?_
                rw [hJ8]
                refine z_rcs0 hc hH 1 (pc' := 65) (lv' := [(3, .int (nI u3)), (2, .int 3), (1, .int ((((μj.1 0 12) * 1000) + ((hnd ((μj.1 4 0) * (bif decide ((nI u1) = (nI dl)) then (2 : Int32) else 1))) + (100 * (μj.1 0 11)))) + ((hnd ((μj.1 4 0) * (bif decide ((nI u2) = (nI dl)) then (2 : Int32) else 1))) + (100 * (μj.1 0 11))))), (5, .int ((hnd ((μj.1 4 0) * (bif decide ((nI u2) = (nI dl)) then (2 : Int32) else 1))) + (100 * (μj.1 0 11)))), (4, .int (bif decide ((nI u2) = (nI dl)) then (2 : Int32) else 1)), (0, .ref 0)]) (st' := [.ref 0, .int (nI t)]) (by rfl) ?_
                refine zq_gfi hc hH (by rfl) (ci := 5) (f := 9) (by rfl) (by decide +kernel) (by rfl) ?_
                refine zV1 (Z := Z) (Eq.trans (ui_o (by first | decide | omega)) (Eq.trans (ui_o (by first | decide | omega)) (ui_k (by first | decide | omega)))) ?_
                rw [hJ9]
                refine zq_ic hc hH (by rfl) (tg := 79) (by rfl) (fun h8 => ?_) (fun h8 => ?_)
                · have h8 : (decide ((nI t) = (nI dl))) = true := decide_eq_true (cm_eq9.mp h8)
                  exact absurd (Eq.trans (Eq.symm (kn_ne (by omega) (by omega) heq)) h8) (by decide)
                · have h8 : (decide ((nI t) = (nI dl))) = false := decide_eq_false (cn_eq.mp h8)
                  refine z_rcs0 hc hH 2 (pc' := 73) (lv' := [(3, .int (nI u3)), (2, .int 3), (1, .int ((((μj.1 0 12) * 1000) + ((hnd ((μj.1 4 0) * (bif decide ((nI u1) = (nI dl)) then (2 : Int32) else 1))) + (100 * (μj.1 0 11)))) + ((hnd ((μj.1 4 0) * (bif decide ((nI u2) = (nI dl)) then (2 : Int32) else 1))) + (100 * (μj.1 0 11))))), (5, .int ((hnd ((μj.1 4 0) * (bif decide ((nI u2) = (nI dl)) then (2 : Int32) else 1))) + (100 * (μj.1 0 11)))), (4, .int (bif decide ((nI u2) = (nI dl)) then (2 : Int32) else 1)), (0, .ref 0)]) (st' := [.ref 0, .int (nI u3)]) (by rfl) ?_
                  refine zq_gfi hc hH (by rfl) (ci := 5) (f := 9) (by rfl) (by decide +kernel) (by rfl) ?_
                  refine zV1 (Z := Z) (Eq.trans (ui_o (by first | decide | omega)) (Eq.trans (ui_o (by first | decide | omega)) (ui_k (by first | decide | omega)))) ?_
                  rw [hJ9]
                  have hJ9 : Z 0 84 [(3, .int (nI u3)), (2, .int 3), (1, .int ((((μj.1 0 12) * 1000) + ((hnd ((μj.1 4 0) * (bif decide ((nI u1) = (nI dl)) then (2 : Int32) else 1))) + (100 * (μj.1 0 11)))) + ((hnd ((μj.1 4 0) * (bif decide ((nI u2) = (nI dl)) then (2 : Int32) else 1))) + (100 * (μj.1 0 11))))), (5, .int ((hnd ((μj.1 4 0) * (bif decide ((nI u2) = (nI dl)) then (2 : Int32) else 1))) + (100 * (μj.1 0 11)))), (4, .int (bif decide ((nI u2) = (nI dl)) then (2 : Int32) else 1)), (0, .ref 0)] [.int (bif decide ((nI u3) = (nI dl)) then (2 : Int32) else 1)] (z_ui (z_ui (z_ui μj 0 12 0) (18 + 8 * u1) 4 ((μj.1 (18 + 8 * u1) 4) - ((hnd ((μj.1 4 0) * (bif decide ((nI u1) = (nI dl)) then (2 : Int32) else 1))) + (100 * (μj.1 0 11))))) (18 + 8 * u2) 4 ((μj.1 (18 + 8 * u2) 4) - ((hnd ((μj.1 4 0) * (bif decide ((nI u2) = (nI dl)) then (2 : Int32) else 1))) + (100 * (μj.1 0 11))))) := by
                    refine z_rcs0 hc hH 2 (pc' := 87) (lv' := [(4, .int (bif decide ((nI u3) = (nI dl)) then (2 : Int32) else 1)), (3, .int (nI u3)), (2, .int 3), (1, .int ((((μj.1 0 12) * 1000) + ((hnd ((μj.1 4 0) * (bif decide ((nI u1) = (nI dl)) then (2 : Int32) else 1))) + (100 * (μj.1 0 11)))) + ((hnd ((μj.1 4 0) * (bif decide ((nI u2) = (nI dl)) then (2 : Int32) else 1))) + (100 * (μj.1 0 11))))), (5, .int ((hnd ((μj.1 4 0) * (bif decide ((nI u2) = (nI dl)) then (2 : Int32) else 1))) + (100 * (μj.1 0 11)))), (0, .ref 0)]) (st' := [.ref 0]) (by rfl) ?_
                    refine zq_gfr hc hH (by rfl) (ci := 5) (f := 2) (q := 4) (by rfl) (by decide +kernel) (by rfl) (by decide +kernel) ?_
                    refine zq_gfi hc hH (by rfl) (ci := 0) (f := 0) (by rfl) (by decide +kernel) (by rfl) ?_
                    refine zV1 (Z := Z) (Eq.trans (ui_o (by first | decide | omega)) (Eq.trans (ui_o (by first | decide | omega)) (ui_o (by first | decide | omega)))) ?_
                    refine z_rcs0 hc hH 2 (pc' := 96) (lv' := [(4, .int (bif decide ((nI u3) = (nI dl)) then (2 : Int32) else 1)), (3, .int (nI u3)), (2, .int 3), (1, .int ((((μj.1 0 12) * 1000) + ((hnd ((μj.1 4 0) * (bif decide ((nI u1) = (nI dl)) then (2 : Int32) else 1))) + (100 * (μj.1 0 11)))) + ((hnd ((μj.1 4 0) * (bif decide ((nI u2) = (nI dl)) then (2 : Int32) else 1))) + (100 * (μj.1 0 11))))), (5, .int ((hnd ((μj.1 4 0) * (bif decide ((nI u2) = (nI dl)) then (2 : Int32) else 1))) + (100 * (μj.1 0 11)))), (0, .ref 0)]) (st' := [.int ((μj.1 4 0) * (bif decide ((nI u3) = (nI dl)) then (2 : Int32) else 1))]) (by rfl) ?_
                    refine zq_call hc (z_cx_ok hH (by rfl)) (gc_hundreds d' (by omega) (z_ui (z_ui (z_ui μj 0 12 0) (18 + 8 * u1) 4 ((μj.1 (18 + 8 * u1) 4) - ((hnd ((μj.1 4 0) * (bif decide ((nI u1) = (nI dl)) then (2 : Int32) else 1))) + (100 * (μj.1 0 11))))) (18 + 8 * u2) 4 ((μj.1 (18 + 8 * u2) 4) - ((hnd ((μj.1 4 0) * (bif decide ((nI u2) = (nI dl)) then (2 : Int32) else 1))) + (100 * (μj.1 0 11))))) ((μj.1 4 0) * (bif decide ((nI u3) = (nI dl)) then (2 : Int32) else 1))) (by decide +kernel) (fun r9 μ9 hq => ?_)
                    obtain ⟨hμ9, rfl⟩ := hq
                    rw [hμ9]
                    clear hμ9 μ9
                    show Z 0 99 [(4, .int (bif decide ((nI u3) = (nI dl)) then (2 : Int32) else 1)), (3, .int (nI u3)), (2, .int 3), (1, .int ((((μj.1 0 12) * 1000) + ((hnd ((μj.1 4 0) * (bif decide ((nI u1) = (nI dl)) then (2 : Int32) else 1))) + (100 * (μj.1 0 11)))) + ((hnd ((μj.1 4 0) * (bif decide ((nI u2) = (nI dl)) then (2 : Int32) else 1))) + (100 * (μj.1 0 11))))), (5, .int ((hnd ((μj.1 4 0) * (bif decide ((nI u2) = (nI dl)) then (2 : Int32) else 1))) + (100 * (μj.1 0 11)))), (0, .ref 0)] [.int (hnd ((μj.1 4 0) * (bif decide ((nI u3) = (nI dl)) then (2 : Int32) else 1)))] _
                    refine z_rcs0 hc hH 2 (pc' := 102) (lv' := [(4, .int (bif decide ((nI u3) = (nI dl)) then (2 : Int32) else 1)), (3, .int (nI u3)), (2, .int 3), (1, .int ((((μj.1 0 12) * 1000) + ((hnd ((μj.1 4 0) * (bif decide ((nI u1) = (nI dl)) then (2 : Int32) else 1))) + (100 * (μj.1 0 11)))) + ((hnd ((μj.1 4 0) * (bif decide ((nI u2) = (nI dl)) then (2 : Int32) else 1))) + (100 * (μj.1 0 11))))), (5, .int ((hnd ((μj.1 4 0) * (bif decide ((nI u2) = (nI dl)) then (2 : Int32) else 1))) + (100 * (μj.1 0 11)))), (0, .ref 0)]) (st' := [.ref 0, .int 100, .int (hnd ((μj.1 4 0) * (bif decide ((nI u3) = (nI dl)) then (2 : Int32) else 1)))]) (by rfl) ?_
                    refine zq_gfi hc hH (by rfl) (ci := 5) (f := 11) (by rfl) (by decide +kernel) (by rfl) ?_
                    refine zV1 (Z := Z) (Eq.trans (ui_o (by first | decide | omega)) (Eq.trans (ui_o (by first | decide | omega)) (ui_k (by first | decide | omega)))) ?_
                    refine z_rcs0 hc hH 5 (pc' := 111) (lv' := [(5, .int ((hnd ((μj.1 4 0) * (bif decide ((nI u3) = (nI dl)) then (2 : Int32) else 1))) + (100 * (μj.1 0 11)))), (4, .int (bif decide ((nI u3) = (nI dl)) then (2 : Int32) else 1)), (3, .int (nI u3)), (2, .int 3), (1, .int ((((μj.1 0 12) * 1000) + ((hnd ((μj.1 4 0) * (bif decide ((nI u1) = (nI dl)) then (2 : Int32) else 1))) + (100 * (μj.1 0 11)))) + ((hnd ((μj.1 4 0) * (bif decide ((nI u2) = (nI dl)) then (2 : Int32) else 1))) + (100 * (μj.1 0 11))))), (0, .ref 0)]) (st' := [.int (nI u3), .ref 0]) (by rfl) ?_
                    refine zq_call hc (z_cx_ok hH (by rfl)) (gc_at4 d' (by omega) (z_ui (z_ui (z_ui μj 0 12 0) (18 + 8 * u1) 4 ((μj.1 (18 + 8 * u1) 4) - ((hnd ((μj.1 4 0) * (bif decide ((nI u1) = (nI dl)) then (2 : Int32) else 1))) + (100 * (μj.1 0 11))))) (18 + 8 * u2) 4 ((μj.1 (18 + 8 * u2) 4) - ((hnd ((μj.1 4 0) * (bif decide ((nI u2) = (nI dl)) then (2 : Int32) else 1))) + (100 * (μj.1 0 11))))) u3 hu34) (by decide +kernel) (fun r9 μ9 hq => ?_)
                    obtain ⟨hμ9, rfl⟩ := hq
                    rw [hμ9]
                    clear hμ9 μ9
                    show Z 0 114 [(5, .int ((hnd ((μj.1 4 0) * (bif decide ((nI u3) = (nI dl)) then (2 : Int32) else 1))) + (100 * (μj.1 0 11)))), (4, .int (bif decide ((nI u3) = (nI dl)) then (2 : Int32) else 1)), (3, .int (nI u3)), (2, .int 3), (1, .int ((((μj.1 0 12) * 1000) + ((hnd ((μj.1 4 0) * (bif decide ((nI u1) = (nI dl)) then (2 : Int32) else 1))) + (100 * (μj.1 0 11)))) + ((hnd ((μj.1 4 0) * (bif decide ((nI u2) = (nI dl)) then (2 : Int32) else 1))) + (100 * (μj.1 0 11))))), (0, .ref 0)] [.ref (18 + 8 * u3)] _
                    refine z_rcs0 hc hH 1 (pc' := 115) (lv' := [(5, .int ((hnd ((μj.1 4 0) * (bif decide ((nI u3) = (nI dl)) then (2 : Int32) else 1))) + (100 * (μj.1 0 11)))), (4, .int (bif decide ((nI u3) = (nI dl)) then (2 : Int32) else 1)), (3, .int (nI u3)), (2, .int 3), (1, .int ((((μj.1 0 12) * 1000) + ((hnd ((μj.1 4 0) * (bif decide ((nI u1) = (nI dl)) then (2 : Int32) else 1))) + (100 * (μj.1 0 11)))) + ((hnd ((μj.1 4 0) * (bif decide ((nI u2) = (nI dl)) then (2 : Int32) else 1))) + (100 * (μj.1 0 11))))), (0, .ref 0)]) (st' := [.ref (18 + 8 * u3), .ref (18 + 8 * u3)]) (by rfl) ?_
                    refine zq_gfi hc hH (by rfl) (ci := 1) (f := 4) (by rfl) (sj (P := fun i => okf 79 1 4 (18 + 8 * i)) hu34 (by decide +kernel)) (by rfl) ?_
                    refine zV1 (Z := Z) (Eq.trans (ui_o (by first | decide | omega)) (Eq.trans (ui_o (by first | decide | omega)) (ui_o (by first | decide | omega)))) ?_
                    refine z_rcs0 hc hH 2 (pc' := 121) (lv' := [(5, .int ((hnd ((μj.1 4 0) * (bif decide ((nI u3) = (nI dl)) then (2 : Int32) else 1))) + (100 * (μj.1 0 11)))), (4, .int (bif decide ((nI u3) = (nI dl)) then (2 : Int32) else 1)), (3, .int (nI u3)), (2, .int 3), (1, .int ((((μj.1 0 12) * 1000) + ((hnd ((μj.1 4 0) * (bif decide ((nI u1) = (nI dl)) then (2 : Int32) else 1))) + (100 * (μj.1 0 11)))) + ((hnd ((μj.1 4 0) * (bif decide ((nI u2) = (nI dl)) then (2 : Int32) else 1))) + (100 * (μj.1 0 11))))), (0, .ref 0)]) (st' := [.int ((μj.1 (18 + 8 * u3) 4) - ((hnd ((μj.1 4 0) * (bif decide ((nI u3) = (nI dl)) then (2 : Int32) else 1))) + (100 * (μj.1 0 11)))), .ref (18 + 8 * u3)]) (by rfl) ?_
                    refine zq_pfi hc hH (by rfl) (ci := 1) (f := 4) (by rfl) (sj (P := fun i => okf 79 1 4 (18 + 8 * i)) hu34 (by decide +kernel)) (by rfl) ?_
                    show Z 0 124 [(5, .int ((hnd ((μj.1 4 0) * (bif decide ((nI u3) = (nI dl)) then (2 : Int32) else 1))) + (100 * (μj.1 0 11)))), (4, .int (bif decide ((nI u3) = (nI dl)) then (2 : Int32) else 1)), (3, .int (nI u3)), (2, .int 3), (1, .int ((((μj.1 0 12) * 1000) + ((hnd ((μj.1 4 0) * (bif decide ((nI u1) = (nI dl)) then (2 : Int32) else 1))) + (100 * (μj.1 0 11)))) + ((hnd ((μj.1 4 0) * (bif decide ((nI u2) = (nI dl)) then (2 : Int32) else 1))) + (100 * (μj.1 0 11))))), (0, .ref 0)] [] (z_ui (z_ui (z_ui (z_ui μj 0 12 0) (18 + 8 * u1) 4 ((μj.1 (18 + 8 * u1) 4) - ((hnd ((μj.1 4 0) * (bif decide ((nI u1) = (nI dl)) then (2 : Int32) else 1))) + (100 * (μj.1 0 11))))) (18 + 8 * u2) 4 ((μj.1 (18 + 8 * u2) 4) - ((hnd ((μj.1 4 0) * (bif decide ((nI u2) = (nI dl)) then (2 : Int32) else 1))) + (100 * (μj.1 0 11))))) (18 + 8 * u3) 4 ((μj.1 (18 + 8 * u3) 4) - ((hnd ((μj.1 4 0) * (bif decide ((nI u3) = (nI dl)) then (2 : Int32) else 1))) + (100 * (μj.1 0 11)))))
                    refine z_rcs0 hc hH 11 (pc' := 137) (lv' := [(2, .int 4), (1, .int (((((μj.1 0 12) * 1000) + ((hnd ((μj.1 4 0) * (bif decide ((nI u1) = (nI dl)) then (2 : Int32) else 1))) + (100 * (μj.1 0 11)))) + ((hnd ((μj.1 4 0) * (bif decide ((nI u2) = (nI dl)) then (2 : Int32) else 1))) + (100 * (μj.1 0 11)))) + ((hnd ((μj.1 4 0) * (bif decide ((nI u3) = (nI dl)) then (2 : Int32) else 1))) + (100 * (μj.1 0 11))))), (5, .int ((hnd ((μj.1 4 0) * (bif decide ((nI u3) = (nI dl)) then (2 : Int32) else 1))) + (100 * (μj.1 0 11)))), (4, .int (bif decide ((nI u3) = (nI dl)) then (2 : Int32) else 1)), (3, .int (nI u3)), (0, .ref 0)]) (st' := [.ref 0, .ref 0]) (by rfl) ?_
                    refine zq_gfi hc hH (by rfl) (ci := 5) (f := 8) (by rfl) (by decide +kernel) (by rfl) ?_
                    refine zV1 (Z := Z) (Eq.trans (ui_o (by first | decide | omega)) (Eq.trans (ui_o (by first | decide | omega)) (Eq.trans (ui_o (by first | decide | omega)) (ui_k (by first | decide | omega))))) ?_
                    rw [hJ8]
                    refine zq_call hc (z_cx_ok hH (by rfl)) (gc_at4 d' (by omega) (z_ui (z_ui (z_ui (z_ui μj 0 12 0) (18 + 8 * u1) 4 ((μj.1 (18 + 8 * u1) 4) - ((hnd ((μj.1 4 0) * (bif decide ((nI u1) = (nI dl)) then (2 : Int32) else 1))) + (100 * (μj.1 0 11))))) (18 + 8 * u2) 4 ((μj.1 (18 + 8 * u2) 4) - ((hnd ((μj.1 4 0) * (bif decide ((nI u2) = (nI dl)) then (2 : Int32) else 1))) + (100 * (μj.1 0 11))))) (18 + 8 * u3) 4 ((μj.1 (18 + 8 * u3) 4) - ((hnd ((μj.1 4 0) * (bif decide ((nI u3) = (nI dl)) then (2 : Int32) else 1))) + (100 * (μj.1 0 11))))) t ht4) (by decide +kernel) (fun r9 μ9 hq => ?_)
                    obtain ⟨hμ9, rfl⟩ := hq
                    rw [hμ9]
                    clear hμ9 μ9
                    show Z 0 143 [(2, .int 4), (1, .int (((((μj.1 0 12) * 1000) + ((hnd ((μj.1 4 0) * (bif decide ((nI u1) = (nI dl)) then (2 : Int32) else 1))) + (100 * (μj.1 0 11)))) + ((hnd ((μj.1 4 0) * (bif decide ((nI u2) = (nI dl)) then (2 : Int32) else 1))) + (100 * (μj.1 0 11)))) + ((hnd ((μj.1 4 0) * (bif decide ((nI u3) = (nI dl)) then (2 : Int32) else 1))) + (100 * (μj.1 0 11))))), (5, .int ((hnd ((μj.1 4 0) * (bif decide ((nI u3) = (nI dl)) then (2 : Int32) else 1))) + (100 * (μj.1 0 11)))), (4, .int (bif decide ((nI u3) = (nI dl)) then (2 : Int32) else 1)), (3, .int (nI u3)), (0, .ref 0)] [.ref (18 + 8 * t)] _
                    refine z_rcs0 hc hH 1 (pc' := 144) (lv' := [(2, .int 4), (1, .int (((((μj.1 0 12) * 1000) + ((hnd ((μj.1 4 0) * (bif decide ((nI u1) = (nI dl)) then (2 : Int32) else 1))) + (100 * (μj.1 0 11)))) + ((hnd ((μj.1 4 0) * (bif decide ((nI u2) = (nI dl)) then (2 : Int32) else 1))) + (100 * (μj.1 0 11)))) + ((hnd ((μj.1 4 0) * (bif decide ((nI u3) = (nI dl)) then (2 : Int32) else 1))) + (100 * (μj.1 0 11))))), (5, .int ((hnd ((μj.1 4 0) * (bif decide ((nI u3) = (nI dl)) then (2 : Int32) else 1))) + (100 * (μj.1 0 11)))), (4, .int (bif decide ((nI u3) = (nI dl)) then (2 : Int32) else 1)), (3, .int (nI u3)), (0, .ref 0)]) (st' := [.ref (18 + 8 * t), .ref (18 + 8 * t)]) (by rfl) ?_
                    refine zq_gfi hc hH (by rfl) (ci := 1) (f := 4) (by rfl) (sj (P := fun i => okf 79 1 4 (18 + 8 * i)) ht4 (by decide +kernel)) (by rfl) ?_
                    refine zV1 (Z := Z) (Eq.trans (ui_o (by first | decide | omega)) (Eq.trans (ui_o (by first | decide | omega)) (Eq.trans (ui_o (by first | decide | omega)) (ui_o (by first | decide | omega))))) ?_
                    refine z_rcs0 hc hH 2 (pc' := 149) (lv' := [(2, .int 4), (1, .int (((((μj.1 0 12) * 1000) + ((hnd ((μj.1 4 0) * (bif decide ((nI u1) = (nI dl)) then (2 : Int32) else 1))) + (100 * (μj.1 0 11)))) + ((hnd ((μj.1 4 0) * (bif decide ((nI u2) = (nI dl)) then (2 : Int32) else 1))) + (100 * (μj.1 0 11)))) + ((hnd ((μj.1 4 0) * (bif decide ((nI u3) = (nI dl)) then (2 : Int32) else 1))) + (100 * (μj.1 0 11))))), (5, .int ((hnd ((μj.1 4 0) * (bif decide ((nI u3) = (nI dl)) then (2 : Int32) else 1))) + (100 * (μj.1 0 11)))), (4, .int (bif decide ((nI u3) = (nI dl)) then (2 : Int32) else 1)), (3, .int (nI u3)), (0, .ref 0)]) (st' := [.int ((μj.1 (18 + 8 * t) 4) + (((((μj.1 0 12) * 1000) + ((hnd ((μj.1 4 0) * (bif decide ((nI u1) = (nI dl)) then (2 : Int32) else 1))) + (100 * (μj.1 0 11)))) + ((hnd ((μj.1 4 0) * (bif decide ((nI u2) = (nI dl)) then (2 : Int32) else 1))) + (100 * (μj.1 0 11)))) + ((hnd ((μj.1 4 0) * (bif decide ((nI u3) = (nI dl)) then (2 : Int32) else 1))) + (100 * (μj.1 0 11))))), .ref (18 + 8 * t)]) (by rfl) ?_
                    refine zq_pfi hc hH (by rfl) (ci := 1) (f := 4) (by rfl) (sj (P := fun i => okf 79 1 4 (18 + 8 * i)) ht4 (by decide +kernel)) (by rfl) ?_
                    show Z 0 152 [(2, .int 4), (1, .int (((((μj.1 0 12) * 1000) + ((hnd ((μj.1 4 0) * (bif decide ((nI u1) = (nI dl)) then (2 : Int32) else 1))) + (100 * (μj.1 0 11)))) + ((hnd ((μj.1 4 0) * (bif decide ((nI u2) = (nI dl)) then (2 : Int32) else 1))) + (100 * (μj.1 0 11)))) + ((hnd ((μj.1 4 0) * (bif decide ((nI u3) = (nI dl)) then (2 : Int32) else 1))) + (100 * (μj.1 0 11))))), (5, .int ((hnd ((μj.1 4 0) * (bif decide ((nI u3) = (nI dl)) then (2 : Int32) else 1))) + (100 * (μj.1 0 11)))), (4, .int (bif decide ((nI u3) = (nI dl)) then (2 : Int32) else 1)), (3, .int (nI u3)), (0, .ref 0)] [] (z_ui (z_ui (z_ui (z_ui (z_ui μj 0 12 0) (18 + 8 * u1) 4 ((μj.1 (18 + 8 * u1) 4) - ((hnd ((μj.1 4 0) * (bif decide ((nI u1) = (nI dl)) then (2 : Int32) else 1))) + (100 * (μj.1 0 11))))) (18 + 8 * u2) 4 ((μj.1 (18 + 8 * u2) 4) - ((hnd ((μj.1 4 0) * (bif decide ((nI u2) = (nI dl)) then (2 : Int32) else 1))) + (100 * (μj.1 0 11))))) (18 + 8 * u3) 4 ((μj.1 (18 + 8 * u3) 4) - ((hnd ((μj.1 4 0) * (bif decide ((nI u3) = (nI dl)) then (2 : Int32) else 1))) + (100 * (μj.1 0 11))))) (18 + 8 * t) 4 ((μj.1 (18 + 8 * t) 4) + (((((μj.1 0 12) * 1000) + ((hnd ((μj.1 4 0) * (bif decide ((nI u1) = (nI dl)) then (2 : Int32) else 1))) + (100 * (μj.1 0 11)))) + ((hnd ((μj.1 4 0) * (bif decide ((nI u2) = (nI dl)) then (2 : Int32) else 1))) + (100 * (μj.1 0 11)))) + ((hnd ((μj.1 4 0) * (bif decide ((nI u3) = (nI dl)) then (2 : Int32) else 1))) + (100 * (μj.1 0 11))))))
                    refine z_rcs0 hc hH 2 (pc' := 154) (lv' := [(2, .int 4), (1, .int (((((μj.1 0 12) * 1000) + ((hnd ((μj.1 4 0) * (bif decide ((nI u1) = (nI dl)) then (2 : Int32) else 1))) + (100 * (μj.1 0 11)))) + ((hnd ((μj.1 4 0) * (bif decide ((nI u2) = (nI dl)) then (2 : Int32) else 1))) + (100 * (μj.1 0 11)))) + ((hnd ((μj.1 4 0) * (bif decide ((nI u3) = (nI dl)) then (2 : Int32) else 1))) + (100 * (μj.1 0 11))))), (5, .int ((hnd ((μj.1 4 0) * (bif decide ((nI u3) = (nI dl)) then (2 : Int32) else 1))) + (100 * (μj.1 0 11)))), (4, .int (bif decide ((nI u3) = (nI dl)) then (2 : Int32) else 1)), (3, .int (nI u3)), (0, .ref 0)]) (st' := [.ref 0, .ref 0]) (by rfl) ?_
                    refine zq_gfi hc hH (by rfl) (ci := 5) (f := 8) (by rfl) (by decide +kernel) (by rfl) ?_
                    refine zV1 (Z := Z) (Eq.trans (ui_o (by first | decide | omega)) (Eq.trans (ui_o (by first | decide | omega)) (Eq.trans (ui_o (by first | decide | omega)) (Eq.trans (ui_o (by first | decide | omega)) (ui_k (by first | decide | omega)))))) ?_
                    rw [hJ8]
                    refine z_rcs0 hc hH 2 (pc' := 159) (lv' := [(2, .int 4), (1, .int (((((μj.1 0 12) * 1000) + ((hnd ((μj.1 4 0) * (bif decide ((nI u1) = (nI dl)) then (2 : Int32) else 1))) + (100 * (μj.1 0 11)))) + ((hnd ((μj.1 4 0) * (bif decide ((nI u2) = (nI dl)) then (2 : Int32) else 1))) + (100 * (μj.1 0 11)))) + ((hnd ((μj.1 4 0) * (bif decide ((nI u3) = (nI dl)) then (2 : Int32) else 1))) + (100 * (μj.1 0 11))))), (5, .int ((hnd ((μj.1 4 0) * (bif decide ((nI u3) = (nI dl)) then (2 : Int32) else 1))) + (100 * (μj.1 0 11)))), (4, .int (bif decide ((nI u3) = (nI dl)) then (2 : Int32) else 1)), (3, .int (nI u3)), (0, .ref 0)]) (st' := [.int (((((μj.1 0 12) * 1000) + ((hnd ((μj.1 4 0) * (bif decide ((nI u1) = (nI dl)) then (2 : Int32) else 1))) + (100 * (μj.1 0 11)))) + ((hnd ((μj.1 4 0) * (bif decide ((nI u2) = (nI dl)) then (2 : Int32) else 1))) + (100 * (μj.1 0 11)))) + ((hnd ((μj.1 4 0) * (bif decide ((nI u3) = (nI dl)) then (2 : Int32) else 1))) + (100 * (μj.1 0 11)))), .int (-1), .int (nI t), .ref 0]) (by rfl) ?_
                    refine zq_call hc (z_cx_ok hH (by rfl)) (gc_recordWin d' (by omega) (z_ui (z_ui (z_ui (z_ui (z_ui μj 0 12 0) (18 + 8 * u1) 4 ((μj.1 (18 + 8 * u1) 4) - ((hnd ((μj.1 4 0) * (bif decide ((nI u1) = (nI dl)) then (2 : Int32) else 1))) + (100 * (μj.1 0 11))))) (18 + 8 * u2) 4 ((μj.1 (18 + 8 * u2) 4) - ((hnd ((μj.1 4 0) * (bif decide ((nI u2) = (nI dl)) then (2 : Int32) else 1))) + (100 * (μj.1 0 11))))) (18 + 8 * u3) 4 ((μj.1 (18 + 8 * u3) 4) - ((hnd ((μj.1 4 0) * (bif decide ((nI u3) = (nI dl)) then (2 : Int32) else 1))) + (100 * (μj.1 0 11))))) (18 + 8 * t) 4 ((μj.1 (18 + 8 * t) 4) + (((((μj.1 0 12) * 1000) + ((hnd ((μj.1 4 0) * (bif decide ((nI u1) = (nI dl)) then (2 : Int32) else 1))) + (100 * (μj.1 0 11)))) + ((hnd ((μj.1 4 0) * (bif decide ((nI u2) = (nI dl)) then (2 : Int32) else 1))) + (100 * (μj.1 0 11)))) + ((hnd ((μj.1 4 0) * (bif decide ((nI u3) = (nI dl)) then (2 : Int32) else 1))) + (100 * (μj.1 0 11)))))) 0 (by omega) (by rw [ui_o (by first | decide | omega), ui_o (by first | decide | omega), ui_o (by first | decide | omega), ui_o (by first | decide | omega), ui_k (by first | decide | omega)]; exact hJ6) (nI t) (-1) (((((μj.1 0 12) * 1000) + ((hnd ((μj.1 4 0) * (bif decide ((nI u1) = (nI dl)) then (2 : Int32) else 1))) + (100 * (μj.1 0 11)))) + ((hnd ((μj.1 4 0) * (bif decide ((nI u2) = (nI dl)) then (2 : Int32) else 1))) + (100 * (μj.1 0 11)))) + ((hnd ((μj.1 4 0) * (bif decide ((nI u3) = (nI dl)) then (2 : Int32) else 1))) + (100 * (μj.1 0 11))))) (by decide +kernel) (fun r9 μ9 hq => ?_)
                    obtain ⟨rfl, rfl⟩ := hq
                    show Z 0 162 [(2, .int 4), (1, .int (((((μj.1 0 12) * 1000) + ((hnd ((μj.1 4 0) * (bif decide ((nI u1) = (nI dl)) then (2 : Int32) else 1))) + (100 * (μj.1 0 11)))) + ((hnd ((μj.1 4 0) * (bif decide ((nI u2) = (nI dl)) then (2 : Int32) else 1))) + (100 * (μj.1 0 11)))) + ((hnd ((μj.1 4 0) * (bif decide ((nI u3) = (nI dl)) then (2 : Int32) else 1))) + (100 * (μj.1 0 11))))), (5, .int ((hnd ((μj.1 4 0) * (bif decide ((nI u3) = (nI dl)) then (2 : Int32) else 1))) + (100 * (μj.1 0 11)))), (4, .int (bif decide ((nI u3) = (nI dl)) then (2 : Int32) else 1)), (3, .int (nI u3)), (0, .ref 0)] [] (rcW (z_ui (z_ui (z_ui (z_ui (z_ui μj 0 12 0) (18 + 8 * u1) 4 ((μj.1 (18 + 8 * u1) 4) - ((hnd ((μj.1 4 0) * (bif decide ((nI u1) = (nI dl)) then (2 : Int32) else 1))) + (100 * (μj.1 0 11))))) (18 + 8 * u2) 4 ((μj.1 (18 + 8 * u2) 4) - ((hnd ((μj.1 4 0) * (bif decide ((nI u2) = (nI dl)) then (2 : Int32) else 1))) + (100 * (μj.1 0 11))))) (18 + 8 * u3) 4 ((μj.1 (18 + 8 * u3) 4) - ((hnd ((μj.1 4 0) * (bif decide ((nI u3) = (nI dl)) then (2 : Int32) else 1))) + (100 * (μj.1 0 11))))) (18 + 8 * t) 4 ((μj.1 (18 + 8 * t) 4) + (((((μj.1 0 12) * 1000) + ((hnd ((μj.1 4 0) * (bif decide ((nI u1) = (nI dl)) then (2 : Int32) else 1))) + (100 * (μj.1 0 11)))) + ((hnd ((μj.1 4 0) * (bif decide ((nI u2) = (nI dl)) then (2 : Int32) else 1))) + (100 * (μj.1 0 11)))) + ((hnd ((μj.1 4 0) * (bif decide ((nI u3) = (nI dl)) then (2 : Int32) else 1))) + (100 * (μj.1 0 11)))))) 0 (nI t) (-1) (((((μj.1 0 12) * 1000) + ((hnd ((μj.1 4 0) * (bif decide ((nI u1) = (nI dl)) then (2 : Int32) else 1))) + (100 * (μj.1 0 11)))) + ((hnd ((μj.1 4 0) * (bif decide ((nI u2) = (nI dl)) then (2 : Int32) else 1))) + (100 * (μj.1 0 11)))) + ((hnd ((μj.1 4 0) * (bif decide ((nI u3) = (nI dl)) then (2 : Int32) else 1))) + (100 * (μj.1 0 11)))))
                    refine z_rcs0 hc hH 2 (pc' := 164) (lv' := [(2, .int 4), (1, .int (((((μj.1 0 12) * 1000) + ((hnd ((μj.1 4 0) * (bif decide ((nI u1) = (nI dl)) then (2 : Int32) else 1))) + (100 * (μj.1 0 11)))) + ((hnd ((μj.1 4 0) * (bif decide ((nI u2) = (nI dl)) then (2 : Int32) else 1))) + (100 * (μj.1 0 11)))) + ((hnd ((μj.1 4 0) * (bif decide ((nI u3) = (nI dl)) then (2 : Int32) else 1))) + (100 * (μj.1 0 11))))), (5, .int ((hnd ((μj.1 4 0) * (bif decide ((nI u3) = (nI dl)) then (2 : Int32) else 1))) + (100 * (μj.1 0 11)))), (4, .int (bif decide ((nI u3) = (nI dl)) then (2 : Int32) else 1)), (3, .int (nI u3)), (0, .ref 0)]) (st' := [.ref 0, .ref 0]) (by rfl) ?_
                    refine zq_gfi hc hH (by rfl) (ci := 5) (f := 8) (by rfl) (by decide +kernel) (by rfl) ?_
                    refine zV1 (Z := Z) (Eq.trans (rcW_o (by first | decide | omega)) (Eq.trans (ui_o (by first | decide | omega)) (Eq.trans (ui_o (by first | decide | omega)) (Eq.trans (ui_o (by first | decide | omega)) (Eq.trans (ui_o (by first | decide | omega)) (ui_k (by first | decide | omega))))))) ?_
                    rw [hJ8]
                    refine z_rcs0 hc hH 1 (pc' := 168) (lv' := [(2, .int 4), (1, .int (((((μj.1 0 12) * 1000) + ((hnd ((μj.1 4 0) * (bif decide ((nI u1) = (nI dl)) then (2 : Int32) else 1))) + (100 * (μj.1 0 11)))) + ((hnd ((μj.1 4 0) * (bif decide ((nI u2) = (nI dl)) then (2 : Int32) else 1))) + (100 * (μj.1 0 11)))) + ((hnd ((μj.1 4 0) * (bif decide ((nI u3) = (nI dl)) then (2 : Int32) else 1))) + (100 * (μj.1 0 11))))), (5, .int ((hnd ((μj.1 4 0) * (bif decide ((nI u3) = (nI dl)) then (2 : Int32) else 1))) + (100 * (μj.1 0 11)))), (4, .int (bif decide ((nI u3) = (nI dl)) then (2 : Int32) else 1)), (3, .int (nI u3)), (0, .ref 0)]) (st' := [.ref 0, .int (nI t), .ref 0]) (by rfl) ?_
                    refine zq_gfi hc hH (by rfl) (ci := 5) (f := 9) (by rfl) (by decide +kernel) (by rfl) ?_
                    refine zV1 (Z := Z) (Eq.trans (rcW_o (by first | decide | omega)) (Eq.trans (ui_o (by first | decide | omega)) (Eq.trans (ui_o (by first | decide | omega)) (Eq.trans (ui_o (by first | decide | omega)) (Eq.trans (ui_o (by first | decide | omega)) (ui_k (by first | decide | omega))))))) ?_
                    rw [hJ9]
                    refine zq_ic hc hH (by rfl) (tg := 178) (by rfl) (fun h10 => ?_) (fun h10 => ?_)
                    · have h10 : (decide ((nI t) = (nI dl))) = false := decide_eq_false (cm_ne.mp h10)
                      refine z_rcs0 hc hH 2 (pc' := 180) (lv' := [(2, .int 4), (1, .int (((((μj.1 0 12) * 1000) + ((hnd ((μj.1 4 0) * (bif decide ((nI u1) = (nI dl)) then (2 : Int32) else 1))) + (100 * (μj.1 0 11)))) + ((hnd ((μj.1 4 0) * (bif decide ((nI u2) = (nI dl)) then (2 : Int32) else 1))) + (100 * (μj.1 0 11)))) + ((hnd ((μj.1 4 0) * (bif decide ((nI u3) = (nI dl)) then (2 : Int32) else 1))) + (100 * (μj.1 0 11))))), (5, .int ((hnd ((μj.1 4 0) * (bif decide ((nI u3) = (nI dl)) then (2 : Int32) else 1))) + (100 * (μj.1 0 11)))), (4, .int (bif decide ((nI u3) = (nI dl)) then (2 : Int32) else 1)), (3, .int (nI u3)), (0, .ref 0)]) (st' := [.ref 0, .int 0, .ref 0]) (by rfl) ?_
                      refine zq_gfi hc hH (by rfl) (ci := 5) (f := 8) (by rfl) (by decide +kernel) (by rfl) ?_
                      refine zV1 (Z := Z) (Eq.trans (rcW_o (by first | decide | omega)) (Eq.trans (ui_o (by first | decide | omega)) (Eq.trans (ui_o (by first | decide | omega)) (Eq.trans (ui_o (by first | decide | omega)) (Eq.trans (ui_o (by first | decide | omega)) (ui_k (by first | decide | omega))))))) ?_
                      rw [hJ8]
                      refine z_rcs0 hc hH 1 (pc' := 184) (lv' := [(2, .int 4), (1, .int (((((μj.1 0 12) * 1000) + ((hnd ((μj.1 4 0) * (bif decide ((nI u1) = (nI dl)) then (2 : Int32) else 1))) + (100 * (μj.1 0 11)))) + ((hnd ((μj.1 4 0) * (bif decide ((nI u2) = (nI dl)) then (2 : Int32) else 1))) + (100 * (μj.1 0 11)))) + ((hnd ((μj.1 4 0) * (bif decide ((nI u3) = (nI dl)) then (2 : Int32) else 1))) + (100 * (μj.1 0 11))))), (5, .int ((hnd ((μj.1 4 0) * (bif decide ((nI u3) = (nI dl)) then (2 : Int32) else 1))) + (100 * (μj.1 0 11)))), (4, .int (bif decide ((nI u3) = (nI dl)) then (2 : Int32) else 1)), (3, .int (nI u3)), (0, .ref 0)]) (st' := [.ref 0, .int (nI t), .int 0, .ref 0]) (by rfl) ?_
                      refine zq_gfi hc hH (by rfl) (ci := 5) (f := 9) (by rfl) (by decide +kernel) (by rfl) ?_
                      refine zV1 (Z := Z) (Eq.trans (rcW_o (by first | decide | omega)) (Eq.trans (ui_o (by first | decide | omega)) (Eq.trans (ui_o (by first | decide | omega)) (Eq.trans (ui_o (by first | decide | omega)) (Eq.trans (ui_o (by first | decide | omega)) (ui_k (by first | decide | omega))))))) ?_
                      rw [hJ9]
                      refine zq_ic hc hH (by rfl) (tg := 194) (by rfl) (fun h11 => ?_) (fun h11 => ?_)
                      · have h11 : (decide ((nI t) = (nI dl))) = true := decide_eq_true (cm_eq9.mp h11)
                        exact absurd (Eq.trans (Eq.symm (kn_ne (by omega) (by omega) heq)) h11) (by decide)
                      · have h11 : (decide ((nI t) = (nI dl))) = false := decide_eq_false (cn_eq.mp h11)
                        refine z_rcs0 hc hH 2 (pc' := 195) (lv' := [(2, .int 4), (1, .int (((((μj.1 0 12) * 1000) + ((hnd ((μj.1 4 0) * (bif decide ((nI u1) = (nI dl)) then (2 : Int32) else 1))) + (100 * (μj.1 0 11)))) + ((hnd ((μj.1 4 0) * (bif decide ((nI u2) = (nI dl)) then (2 : Int32) else 1))) + (100 * (μj.1 0 11)))) + ((hnd ((μj.1 4 0) * (bif decide ((nI u3) = (nI dl)) then (2 : Int32) else 1))) + (100 * (μj.1 0 11))))), (5, .int ((hnd ((μj.1 4 0) * (bif decide ((nI u3) = (nI dl)) then (2 : Int32) else 1))) + (100 * (μj.1 0 11)))), (4, .int (bif decide ((nI u3) = (nI dl)) then (2 : Int32) else 1)), (3, .int (nI u3)), (0, .ref 0)]) (st' := [.int 1, .int 0, .ref 0]) (by rfl) ?_
                        refine zq_call hc (z_cx_ok hH (by rfl)) (gc_endHand0 d' (by omega) (rcW (z_ui (z_ui (z_ui (z_ui (z_ui μj 0 12 0) (18 + 8 * u1) 4 ((μj.1 (18 + 8 * u1) 4) - ((hnd ((μj.1 4 0) * (bif decide ((nI u1) = (nI dl)) then (2 : Int32) else 1))) + (100 * (μj.1 0 11))))) (18 + 8 * u2) 4 ((μj.1 (18 + 8 * u2) 4) - ((hnd ((μj.1 4 0) * (bif decide ((nI u2) = (nI dl)) then (2 : Int32) else 1))) + (100 * (μj.1 0 11))))) (18 + 8 * u3) 4 ((μj.1 (18 + 8 * u3) 4) - ((hnd ((μj.1 4 0) * (bif decide ((nI u3) = (nI dl)) then (2 : Int32) else 1))) + (100 * (μj.1 0 11))))) (18 + 8 * t) 4 ((μj.1 (18 + 8 * t) 4) + (((((μj.1 0 12) * 1000) + ((hnd ((μj.1 4 0) * (bif decide ((nI u1) = (nI dl)) then (2 : Int32) else 1))) + (100 * (μj.1 0 11)))) + ((hnd ((μj.1 4 0) * (bif decide ((nI u2) = (nI dl)) then (2 : Int32) else 1))) + (100 * (μj.1 0 11)))) + ((hnd ((μj.1 4 0) * (bif decide ((nI u3) = (nI dl)) then (2 : Int32) else 1))) + (100 * (μj.1 0 11)))))) 0 (nI t) (-1) (((((μj.1 0 12) * 1000) + ((hnd ((μj.1 4 0) * (bif decide ((nI u1) = (nI dl)) then (2 : Int32) else 1))) + (100 * (μj.1 0 11)))) + ((hnd ((μj.1 4 0) * (bif decide ((nI u2) = (nI dl)) then (2 : Int32) else 1))) + (100 * (μj.1 0 11)))) + ((hnd ((μj.1 4 0) * (bif decide ((nI u3) = (nI dl)) then (2 : Int32) else 1))) + (100 * (μj.1 0 11))))) true _ dl e _ rfl (by rw [rcW_o (by first | decide | omega), ui_o (by first | decide | omega), ui_o (by first | decide | omega), ui_o (by first | decide | omega), ui_o (by first | decide | omega), ui_k (by first | decide | omega)]; exact hJ9) hdl4 he (rcB_lt _ _ _ _) rfl) (by decide +kernel) (fun r9 μ9 hq => ?_)
                        obtain ⟨rfl, rfl⟩ := hq
                        show Z 0 198 [(2, .int 4), (1, .int (((((μj.1 0 12) * 1000) + ((hnd ((μj.1 4 0) * (bif decide ((nI u1) = (nI dl)) then (2 : Int32) else 1))) + (100 * (μj.1 0 11)))) + ((hnd ((μj.1 4 0) * (bif decide ((nI u2) = (nI dl)) then (2 : Int32) else 1))) + (100 * (μj.1 0 11)))) + ((hnd ((μj.1 4 0) * (bif decide ((nI u3) = (nI dl)) then (2 : Int32) else 1))) + (100 * (μj.1 0 11))))), (5, .int ((hnd ((μj.1 4 0) * (bif decide ((nI u3) = (nI dl)) then (2 : Int32) else 1))) + (100 * (μj.1 0 11)))), (4, .int (bif decide ((nI u3) = (nI dl)) then (2 : Int32) else 1)), (3, .int (nI u3)), (0, .ref 0)] [] (eH0 (rcW (z_ui (z_ui (z_ui (z_ui (z_ui μj 0 12 0) (18 + 8 * u1) 4 ((μj.1 (18 + 8 * u1) 4) - ((hnd ((μj.1 4 0) * (bif decide ((nI u1) = (nI dl)) then (2 : Int32) else 1))) + (100 * (μj.1 0 11))))) (18 + 8 * u2) 4 ((μj.1 (18 + 8 * u2) 4) - ((hnd ((μj.1 4 0) * (bif decide ((nI u2) = (nI dl)) then (2 : Int32) else 1))) + (100 * (μj.1 0 11))))) (18 + 8 * u3) 4 ((μj.1 (18 + 8 * u3) 4) - ((hnd ((μj.1 4 0) * (bif decide ((nI u3) = (nI dl)) then (2 : Int32) else 1))) + (100 * (μj.1 0 11))))) (18 + 8 * t) 4 ((μj.1 (18 + 8 * t) 4) + (((((μj.1 0 12) * 1000) + ((hnd ((μj.1 4 0) * (bif decide ((nI u1) = (nI dl)) then (2 : Int32) else 1))) + (100 * (μj.1 0 11)))) + ((hnd ((μj.1 4 0) * (bif decide ((nI u2) = (nI dl)) then (2 : Int32) else 1))) + (100 * (μj.1 0 11)))) + ((hnd ((μj.1 4 0) * (bif decide ((nI u3) = (nI dl)) then (2 : Int32) else 1))) + (100 * (μj.1 0 11)))))) 0 (nI t) (-1) (((((μj.1 0 12) * 1000) + ((hnd ((μj.1 4 0) * (bif decide ((nI u1) = (nI dl)) then (2 : Int32) else 1))) + (100 * (μj.1 0 11)))) + ((hnd ((μj.1 4 0) * (bif decide ((nI u2) = (nI dl)) then (2 : Int32) else 1))) + (100 * (μj.1 0 11)))) + ((hnd ((μj.1 4 0) * (bif decide ((nI u3) = (nI dl)) then (2 : Int32) else 1))) + (100 * (μj.1 0 11))))) true (xBk (rcW (z_ui (z_ui (z_ui (z_ui (z_ui μj 0 12 0) (18 + 8 * u1) 4 ((μj.1 (18 + 8 * u1) 4) - ((hnd ((μj.1 4 0) * (bif decide ((nI u1) = (nI dl)) then (2 : Int32) else 1))) + (100 * (μj.1 0 11))))) (18 + 8 * u2) 4 ((μj.1 (18 + 8 * u2) 4) - ((hnd ((μj.1 4 0) * (bif decide ((nI u2) = (nI dl)) then (2 : Int32) else 1))) + (100 * (μj.1 0 11))))) (18 + 8 * u3) 4 ((μj.1 (18 + 8 * u3) 4) - ((hnd ((μj.1 4 0) * (bif decide ((nI u3) = (nI dl)) then (2 : Int32) else 1))) + (100 * (μj.1 0 11))))) (18 + 8 * t) 4 ((μj.1 (18 + 8 * t) 4) + (((((μj.1 0 12) * 1000) + ((hnd ((μj.1 4 0) * (bif decide ((nI u1) = (nI dl)) then (2 : Int32) else 1))) + (100 * (μj.1 0 11)))) + ((hnd ((μj.1 4 0) * (bif decide ((nI u2) = (nI dl)) then (2 : Int32) else 1))) + (100 * (μj.1 0 11)))) + ((hnd ((μj.1 4 0) * (bif decide ((nI u3) = (nI dl)) then (2 : Int32) else 1))) + (100 * (μj.1 0 11)))))) 0 (nI t) (-1) (((((μj.1 0 12) * 1000) + ((hnd ((μj.1 4 0) * (bif decide ((nI u1) = (nI dl)) then (2 : Int32) else 1))) + (100 * (μj.1 0 11)))) + ((hnd ((μj.1 4 0) * (bif decide ((nI u2) = (nI dl)) then (2 : Int32) else 1))) + (100 * (μj.1 0 11)))) + ((hnd ((μj.1 4 0) * (bif decide ((nI u3) = (nI dl)) then (2 : Int32) else 1))) + (100 * (μj.1 0 11)))))) dl e (rcM (rcW (z_ui (z_ui (z_ui (z_ui (z_ui μj 0 12 0) (18 + 8 * u1) 4 ((μj.1 (18 + 8 * u1) 4) - ((hnd ((μj.1 4 0) * (bif decide ((nI u1) = (nI dl)) then (2 : Int32) else 1))) + (100 * (μj.1 0 11))))) (18 + 8 * u2) 4 ((μj.1 (18 + 8 * u2) 4) - ((hnd ((μj.1 4 0) * (bif decide ((nI u2) = (nI dl)) then (2 : Int32) else 1))) + (100 * (μj.1 0 11))))) (18 + 8 * u3) 4 ((μj.1 (18 + 8 * u3) 4) - ((hnd ((μj.1 4 0) * (bif decide ((nI u3) = (nI dl)) then (2 : Int32) else 1))) + (100 * (μj.1 0 11))))) (18 + 8 * t) 4 ((μj.1 (18 + 8 * t) 4) + (((((μj.1 0 12) * 1000) + ((hnd ((μj.1 4 0) * (bif decide ((nI u1) = (nI dl)) then (2 : Int32) else 1))) + (100 * (μj.1 0 11)))) + ((hnd ((μj.1 4 0) * (bif decide ((nI u2) = (nI dl)) then (2 : Int32) else 1))) + (100 * (μj.1 0 11)))) + ((hnd ((μj.1 4 0) * (bif decide ((nI u3) = (nI dl)) then (2 : Int32) else 1))) + (100 * (μj.1 0 11)))))) 0 (nI t) (-1) (((((μj.1 0 12) * 1000) + ((hnd ((μj.1 4 0) * (bif decide ((nI u1) = (nI dl)) then (2 : Int32) else 1))) + (100 * (μj.1 0 11)))) + ((hnd ((μj.1 4 0) * (bif decide ((nI u2) = (nI dl)) then (2 : Int32) else 1))) + (100 * (μj.1 0 11)))) + ((hnd ((μj.1 4 0) * (bif decide ((nI u3) = (nI dl)) then (2 : Int32) else 1))) + (100 * (μj.1 0 11)))))))
                        refine z_rcs0 hc hH 1 (pc' := 199) (lv' := [(2, .int 4), (1, .int (((((μj.1 0 12) * 1000) + ((hnd ((μj.1 4 0) * (bif decide ((nI u1) = (nI dl)) then (2 : Int32) else 1))) + (100 * (μj.1 0 11)))) + ((hnd ((μj.1 4 0) * (bif decide ((nI u2) = (nI dl)) then (2 : Int32) else 1))) + (100 * (μj.1 0 11)))) + ((hnd ((μj.1 4 0) * (bif decide ((nI u3) = (nI dl)) then (2 : Int32) else 1))) + (100 * (μj.1 0 11))))), (5, .int ((hnd ((μj.1 4 0) * (bif decide ((nI u3) = (nI dl)) then (2 : Int32) else 1))) + (100 * (μj.1 0 11)))), (4, .int (bif decide ((nI u3) = (nI dl)) then (2 : Int32) else 1)), (3, .int (nI u3)), (0, .ref 0)]) (st' := [.int 1]) (by rfl) ?_
                        exact hr 0 199 _ _ _ (some (.int 1)) (by decide +kernel) (z_rx_ok hH (by rfl)) (Or.inr ⟨h1, μj, hJ, Or.inr ⟨h3, rfl, rfl⟩⟩)
                    · have h10 : (decide ((nI t) = (nI dl))) = true := decide_eq_true (cn_ne.mp h10)
                      exact absurd (Eq.trans (Eq.symm (kn_ne (by omega) (by omega) heq)) h10) (by decide)
                  refine zq_ic hc hH (by rfl) (tg := 83) (by rfl) (fun h12 => ?_) (fun h12 => ?_)
                  · have h12 : (decide ((nI u3) = (nI dl))) = false := decide_eq_false (cm_ne.mp h12)
                    refine z_rcs hc hH 1 (pc' := 84) (lv' := [(3, .int (nI u3)), (2, .int 3), (1, .int ((((μj.1 0 12) * 1000) + ((hnd ((μj.1 4 0) * (bif decide ((nI u1) = (nI dl)) then (2 : Int32) else 1))) + (100 * (μj.1 0 11)))) + ((hnd ((μj.1 4 0) * (bif decide ((nI u2) = (nI dl)) then (2 : Int32) else 1))) + (100 * (μj.1 0 11))))), (5, .int ((hnd ((μj.1 4 0) * (bif decide ((nI u2) = (nI dl)) then (2 : Int32) else 1))) + (100 * (μj.1 0 11)))), (4, .int (bif decide ((nI u2) = (nI dl)) then (2 : Int32) else 1)), (0, .ref 0)]) (st' := [.int 1]) (μ' := z_ui (z_ui (z_ui μj 0 12 0) (18 + 8 * u1) 4 ((μj.1 (18 + 8 * u1) 4) - ((hnd ((μj.1 4 0) * (bif decide ((nI u1) = (nI dl)) then (2 : Int32) else 1))) + (100 * (μj.1 0 11))))) (18 + 8 * u2) 4 ((μj.1 (18 + 8 * u2) 4) - ((hnd ((μj.1 4 0) * (bif decide ((nI u2) = (nI dl)) then (2 : Int32) else 1))) + (100 * (μj.1 0 11))))) (by rfl) ?_
                    exact zJ hJ9 rfl (by first | with_reducible rfl | (simp only [h12, lb_f, Int64.or_zero, Int32.add_zero, nB_t, nB_f, Bool.not_true, Bool.not_false, Bool.and_true, Bool.true_and, Bool.false_and, Bool.and_false, Bool.or_true, Bool.true_or, Bool.false_or, Bool.or_false, cond_true, cond_false]; done) | rfl) rfl
                  · have h12 : (decide ((nI u3) = (nI dl))) = true := decide_eq_true (cn_ne.mp h12)
                    refine z_rcs0 hc hH 2 (pc' := 84) (lv' := [(3, .int (nI u3)), (2, .int 3), (1, .int ((((μj.1 0 12) * 1000) + ((hnd ((μj.1 4 0) * (bif decide ((nI u1) = (nI dl)) then (2 : Int32) else 1))) + (100 * (μj.1 0 11)))) + ((hnd ((μj.1 4 0) * (bif decide ((nI u2) = (nI dl)) then (2 : Int32) else 1))) + (100 * (μj.1 0 11))))), (5, .int ((hnd ((μj.1 4 0) * (bif decide ((nI u2) = (nI dl)) then (2 : Int32) else 1))) + (100 * (μj.1 0 11)))), (4, .int (bif decide ((nI u2) = (nI dl)) then (2 : Int32) else 1)), (0, .ref 0)]) (st' := [.int 2]) (by rfl) ?_
                    exact zJ hJ9 rfl (by first | with_reducible rfl | (simp only [h12, lb_f, Int64.or_zero, Int32.add_zero, nB_t, nB_f, Bool.not_true, Bool.not_false, Bool.and_true, Bool.true_and, Bool.false_and, Bool.and_false, Bool.or_true, Bool.true_or, Bool.false_or, Bool.or_false, cond_true, cond_false]; done) | rfl) rfl
              refine zq_ic hc hH (by rfl) (tg := 83) (by rfl) (fun h13 => ?_) (fun h13 => ?_)
              · have h13 : (decide ((nI u2) = (nI dl))) = false := decide_eq_false (cm_ne.mp h13)
                refine z_rcs hc hH 1 (pc' := 84) (lv' := [(3, .int (nI u2)), (2, .int 2), (1, .int (((μj.1 0 12) * 1000) + ((hnd ((μj.1 4 0) * (bif decide ((nI u1) = (nI dl)) then (2 : Int32) else 1))) + (100 * (μj.1 0 11))))), (5, .int ((hnd ((μj.1 4 0) * (bif decide ((nI u1) = (nI dl)) then (2 : Int32) else 1))) + (100 * (μj.1 0 11)))), (4, .int (bif decide ((nI u1) = (nI dl)) then (2 : Int32) else 1)), (0, .ref 0)]) (st' := [.int 1]) (μ' := z_ui (z_ui μj 0 12 0) (18 + 8 * u1) 4 ((μj.1 (18 + 8 * u1) 4) - ((hnd ((μj.1 4 0) * (bif decide ((nI u1) = (nI dl)) then (2 : Int32) else 1))) + (100 * (μj.1 0 11))))) (by rfl) ?_
                exact zJ hJ7 rfl (by first | with_reducible rfl | (simp only [h13, lb_f, Int64.or_zero, Int32.add_zero, nB_t, nB_f, Bool.not_true, Bool.not_false, Bool.and_true, Bool.true_and, Bool.false_and, Bool.and_false, Bool.or_true, Bool.true_or, Bool.false_or, Bool.or_false, cond_true, cond_false]; done) | rfl) rfl
              · have h13 : (decide ((nI u2) = (nI dl))) = true := decide_eq_true (cn_ne.mp h13)
                refine z_rcs0 hc hH 2 (pc' := 84) (lv' := [(3, .int (nI u2)), (2, .int 2), (1, .int (((μj.1 0 12) * 1000) + ((hnd ((μj.1 4 0) * (bif decide ((nI u1) = (nI dl)) then (2 : Int32) else 1))) + (100 * (μj.1 0 11))))), (5, .int ((hnd ((μj.1 4 0) * (bif decide ((nI u1) = (nI dl)) then (2 : Int32) else 1))) + (100 * (μj.1 0 11)))), (4, .int (bif decide ((nI u1) = (nI dl)) then (2 : Int32) else 1)), (0, .ref 0)]) (st' := [.int 2]) (by rfl) ?_
                exact zJ hJ7 rfl (by first | with_reducible rfl | (simp only [h13, lb_f, Int64.or_zero, Int32.add_zero, nB_t, nB_f, Bool.not_true, Bool.not_false, Bool.and_true, Bool.true_and, Bool.false_and, Bool.and_false, Bool.or_true, Bool.true_or, Bool.false_or, Bool.or_false, cond_true, cond_false]; done) | rfl) rfl
          refine zq_ic hc hH (by rfl) (tg := 83) (by rfl) (fun h14 => ?_) (fun h14 => ?_)
          · have h14 : (decide ((nI u1) = (nI dl))) = false := decide_eq_false (cm_ne.mp h14)
            refine z_rcs hc hH 1 (pc' := 84) (lv' := [(3, .int (nI u1)), (2, .int 1), (1, .int ((μj.1 0 12) * 1000)), (0, .ref 0)]) (st' := [.int 1]) (μ' := z_ui μj 0 12 0) (by rfl) ?_
            exact zJ hJ5 rfl (by first | with_reducible rfl | (simp only [h14, lb_f, Int64.or_zero, Int32.add_zero, nB_t, nB_f, Bool.not_true, Bool.not_false, Bool.and_true, Bool.true_and, Bool.false_and, Bool.and_false, Bool.or_true, Bool.true_or, Bool.false_or, Bool.or_false, cond_true, cond_false]; done) | rfl) rfl
          · have h14 : (decide ((nI u1) = (nI dl))) = true := decide_eq_true (cn_ne.mp h14)
            refine z_rcs hc hH 2 (pc' := 84) (lv' := [(3, .int (nI u1)), (2, .int 1), (1, .int ((μj.1 0 12) * 1000)), (0, .ref 0)]) (st' := [.int 2]) (μ' := z_ui μj 0 12 0) (by rfl) ?_
            exact zJ hJ5 rfl (by first | with_reducible rfl | (simp only [h14, lb_f, Int64.or_zero, Int32.add_zero, nB_t, nB_f, Bool.not_true, Bool.not_false, Bool.and_true, Bool.true_and, Bool.false_and, Bool.and_false, Bool.or_true, Bool.true_or, Bool.false_or, Bool.or_false, cond_true, cond_false]; done) | rfl) rfl
      · have h3 : (decide ((μj.1 4 0) = 0)) = true := decide_eq_true (cn_ne.mp h3)
        refine z_rcs hc hH 1 (pc' := 29) (lv' := [(0, .ref 0)]) (st' := [.int 0]) (μ' := μj) (by rfl) ?_
        exact hr 0 29 _ _ _ (some (.int 0)) (by decide +kernel) (z_rx_ok hH (by rfl)) (Or.inr ⟨h1, μj, hJ, Or.inl ⟨h3, rfl, rfl⟩⟩)
/-! the game: nine, a hand without a winner, of the class -/
set_option maxRecDepth 8000
noncomputable def eHB (μ : zM) (ds ow bk : Bool) (dl e b : Nat) : zM := bif ds then eH1 μ ow bk dl e b else eH0 μ ow bk dl e b
theorem gc_endHandB (d : Nat) (hd : 3 ≤ d) (μ : zM) (ds ow : Bool) (dl e : Nat) (hdl : μ.1 0 9 = nI dl) (hdl4 : dl < 4) (he : (dl + 1) % 4 = e) : z_C d mi_X6_endHand [.ref 0, .int (nB ds), .int (nB ow)] μ (fun r μ' => r = none ∧ μ' = eHB μ ds ow (xBk μ) dl e (rcM μ)) := by
  cases ds
  · exact gc_endHand0 d hd μ ow _ dl e _ rfl hdl hdl4 he (rcB_lt _ _ _ _) rfl
  · exact gc_endHand1 d hd μ ow _ dl e _ rfl hdl hdl4 he (rcB_lt _ _ _ _) rfl
theorem TE_cat {μ μ1 : zM} (h : TE μ μ1) : TE μ μ1 := h
theorem gc_nine (d : Nat) (hd : 4 ≤ d) (μ : zM) (t : Nat) (ht4 : t < 4) (ht : μ.1 0 8 = nI t) (dl e : Nat) (hdl : μ.1 0 9 = nI dl) (hdl4 : dl < 4) (he : (dl + 1) % 4 = e) (ks : Int64) (hks : ∀ d, 1 ≤ d → z_C d mi_X3_kinds [.ref (19 + 8 * t)] μ (zR μ (.long ks))) (bc : Int32) (hbc : ∀ d, 1 ≤ d → z_C d mi_J13_bitCount_95d88 [.long (ks &&& 17113154305)] μ (zR μ (.int bc))) : z_C d mi_X6_nine [.ref 0] μ (fun r μ' => r = some ((bif decide ((μ.1 0 7) = 1) then (bif decide ((μ.1 0 17) = 0) then (bif decide ((μ.1 (18 + 8 * t) 2) ≤ 0) then (bif decide (9 ≤ bc) then .int 1 else .int 0) else .int 0) else .int 0) else .int 0)) ∧ μ' = (bif decide ((μ.1 0 7) = 1) then (bif decide ((μ.1 0 17) = 0) then (bif decide ((μ.1 (18 + 8 * t) 2) ≤ 0) then (bif decide (9 ≤ bc) then eHB μ true false (xBk μ) dl e (rcM μ) else μ) else μ) else μ) else μ)) := by
  refine z_C_in (by decide) (by omega) (fun d' Z ed hc hr => ?_)
  have hH : zH mi_X6_nine zt_X6_nine 79 6 1 := hh_X6_nine
  refine z_rcs hc hH 1 (pc' := 1) (lv' := [(0, .ref 0)]) (st' := [.ref 0]) (μ' := μ) (by rfl) ?_
  refine zq_gfi hc hH (by rfl) (ci := 5) (f := 7) (by rfl) (by decide +kernel) (by rfl) ?_
  refine z_rcs hc hH 1 (pc' := 5) (lv' := [(0, .ref 0)]) (st' := [.int 1, .int (μ.1 0 7)]) (μ' := μ) (by rfl) ?_
  refine zq_ic hc hH (by rfl) (tg := 29) (by rfl) (fun h1 => ?_) (fun h1 => ?_)
  · have h1 : (decide ((μ.1 0 7) = 1)) = false := decide_eq_false (cm_ne.mp h1)
    refine z_rcs hc hH 1 (pc' := 30) (lv' := [(0, .ref 0)]) (st' := [.int 0]) (μ' := μ) (by rfl) ?_
    exact hr 0 30 _ _ _ (some (.int 0)) (by decide +kernel) (z_rx_ok hH (by rfl)) (⟨(by first | with_reducible rfl | (simp only [h1, cond_true, cond_false]; done) | rfl), (by simp only [h1, cond_true, cond_false])⟩)
  · have h1 : (decide ((μ.1 0 7) = 1)) = true := decide_eq_true (cn_ne.mp h1)
    refine z_rcs hc hH 1 (pc' := 9) (lv' := [(0, .ref 0)]) (st' := [.ref 0]) (μ' := μ) (by rfl) ?_
    refine zq_gfi hc hH (by rfl) (ci := 5) (f := 17) (by rfl) (by decide +kernel) (by rfl) ?_
    refine zq_if hc hH (by rfl) (tg := 29) (by rfl) (fun h2 => ?_) (fun h2 => ?_)
    · have h2 : (decide ((μ.1 0 17) = 0)) = false := decide_eq_false (cm_ne.mp h2)
      refine z_rcs hc hH 1 (pc' := 30) (lv' := [(0, .ref 0)]) (st' := [.int 0]) (μ' := μ) (by rfl) ?_
      exact hr 0 30 _ _ _ (some (.int 0)) (by decide +kernel) (z_rx_ok hH (by rfl)) (⟨(by first | with_reducible rfl | (simp only [h1, h2, cond_true, cond_false]; done) | rfl), (by simp only [h1, h2, cond_true, cond_false])⟩)
    · have h2 : (decide ((μ.1 0 17) = 0)) = true := decide_eq_true (cn_ne.mp h2)
      refine z_rcs hc hH 2 (pc' := 17) (lv' := [(0, .ref 0)]) (st' := [.ref 0, .ref 0]) (μ' := μ) (by rfl) ?_
      refine zq_gfi hc hH (by rfl) (ci := 5) (f := 8) (by rfl) (by decide +kernel) (by rfl) ?_
      rw [ht]
      refine zq_call hc (z_cx_ok hH (by rfl)) (gc_at4 d' (by omega) μ t ht4) (by decide +kernel) (fun r9 μ9 hq => ?_)
      obtain ⟨hμ9, rfl⟩ := hq
      rw [hμ9]
      clear hμ9 μ9
      show Z 0 23 [(0, .ref 0)] [.ref (18 + 8 * t)] μ
      refine zq_gfi hc hH (by rfl) (ci := 1) (f := 2) (by rfl) (sj (P := fun i => okf 79 1 2 (18 + 8 * i)) ht4 (by decide +kernel)) (by rfl) ?_
      refine zq_if hc hH (by rfl) (tg := 31) (by rfl) (fun h3 => ?_) (fun h3 => ?_)
      · have h3 : (decide ((μ.1 (18 + 8 * t) 2) ≤ 0)) = true := decide_eq_true (cm_le.mp h3)
        refine z_rcs hc hH 2 (pc' := 33) (lv' := [(0, .ref 0)]) (st' := [.ref 0, .ref 0]) (μ' := μ) (by rfl) ?_
        refine zq_gfi hc hH (by rfl) (ci := 5) (f := 8) (by rfl) (by decide +kernel) (by rfl) ?_
        rw [ht]
        refine zq_call hc (z_cx_ok hH (by rfl)) (gc_at4 d' (by omega) μ t ht4) (by decide +kernel) (fun r9 μ9 hq => ?_)
        obtain ⟨hμ9, rfl⟩ := hq
        rw [hμ9]
        clear hμ9 μ9
        show Z 0 39 [(0, .ref 0)] [.ref (18 + 8 * t)] μ
        refine zq_gfr hc hH (by rfl) (ci := 1) (f := 0) (q := 19 + 8 * t) (by rfl) (sj (P := fun i => okf 79 1 0 (18 + 8 * i)) ht4 (by decide +kernel)) (by rfl) (sj (P := fun i => Nat.beq (z_gr (18 + 8 * i) 0) (19 + 8 * i)) ht4 (by decide +kernel)) ?_
        refine zq_call hc (z_clv9 hH (by rfl) (by rfl) (by rfl) (by rfl) (sj (P := fun i => okr 79 2 (19 + 8 * i)) ht4 (by decide +kernel)) (by rfl) (by rfl)) (hks d' (by omega)) (by decide +kernel) (fun r9 μ9 hq => ?_)
        obtain ⟨hμ9, rfl⟩ := hq
        rw [hμ9]
        clear hμ9 μ9
        show Z 0 45 [(0, .ref 0)] [.long ks] μ
        refine z_rcs hc hH 2 (pc' := 49) (lv' := [(0, .ref 0)]) (st' := [.long (ks &&& 17113154305)]) (μ' := μ) (by rfl) ?_
        refine zq_call hc (z_cx_ok hH (by rfl)) (hbc d' (by omega)) (by decide +kernel) (fun r9 μ9 hq => ?_)
        obtain ⟨hμ9, rfl⟩ := hq
        rw [hμ9]
        clear hμ9 μ9
        show Z 0 52 [(0, .ref 0)] [.int bc] μ
        refine z_rcs hc hH 1 (pc' := 54) (lv' := [(0, .ref 0)]) (st' := [.int 9, .int bc]) (μ' := μ) (by rfl) ?_
        refine zq_ic hc hH (by rfl) (tg := 59) (by rfl) (fun h4 => ?_) (fun h4 => ?_)
        · have h4 : (decide (9 ≤ bc)) = true := decide_eq_true (cm_ge.mp h4)
          refine z_rcs hc hH 3 (pc' := 62) (lv' := [(0, .ref 0)]) (st' := [.int 0, .int 1, .ref 0]) (μ' := μ) (by rfl) ?_
          refine zq_call hc (z_cx_ok hH (by rfl)) (gc_endHandB d' (by omega) μ true false dl e hdl hdl4 he) (by decide +kernel) (fun r9 μ9 hq => ?_)
          obtain ⟨rfl, rfl⟩ := hq
          show Z 0 65 [(0, .ref 0)] [] (eHB μ true false (xBk μ) dl e (rcM μ))
          refine z_rcs0 hc hH 1 (pc' := 66) (lv' := [(0, .ref 0)]) (st' := [.int 1]) (by rfl) ?_
          exact hr 0 66 _ _ _ (some (.int 1)) (by decide +kernel) (z_rx_ok hH (by rfl)) (⟨(by first | with_reducible rfl | (simp only [h1, h2, h3, h4, cond_true, cond_false]; done) | rfl), (by simp only [h1, h2, h3, h4, cond_true, cond_false])⟩)
        · have h4 : (decide (9 ≤ bc)) = false := decide_eq_false (cn_ge.mp h4)
          refine z_rcs hc hH 1 (pc' := 58) (lv' := [(0, .ref 0)]) (st' := [.int 0]) (μ' := μ) (by rfl) ?_
          exact hr 0 58 _ _ _ (some (.int 0)) (by decide +kernel) (z_rx_ok hH (by rfl)) (⟨(by first | with_reducible rfl | (simp only [h1, h2, h3, h4, cond_true, cond_false]; done) | rfl), (by simp only [h1, h2, h3, h4, cond_true, cond_false])⟩)
      · have h3 : (decide ((μ.1 (18 + 8 * t) 2) ≤ 0)) = false := decide_eq_false (cn_le.mp h3)
        refine z_rcs hc hH 1 (pc' := 30) (lv' := [(0, .ref 0)]) (st' := [.int 0]) (μ' := μ) (by rfl) ?_
        exact hr 0 30 _ _ _ (some (.int 0)) (by decide +kernel) (z_rx_ok hH (by rfl)) (⟨(by first | with_reducible rfl | (simp only [h1, h2, h3, cond_true, cond_false]; done) | rfl), (by simp only [h1, h2, h3, cond_true, cond_false])⟩)
theorem gc_endUnwon0000 (d : Nat) (hd : 8 ≤ d) (μ : zM) (dl e : Nat) (hdl : μ.1 0 9 = nI dl) (hdl4 : dl < 4) (he : (dl + 1) % 4 = e) (w0 : Int64) (hw0 : ∀ μ1, TE μ μ1 → ∀ d, 7 ≤ d → z_C d mi_X3_waiting [.ref 19] μ1 (zR μ1 (.long w0))) (w1 : Int64) (hw1 : ∀ μ1, TE μ μ1 → ∀ d, 7 ≤ d → z_C d mi_X3_waiting [.ref 27] μ1 (zR μ1 (.long w1))) (w2 : Int64) (hw2 : ∀ μ1, TE μ μ1 → ∀ d, 7 ≤ d → z_C d mi_X3_waiting [.ref 35] μ1 (zR μ1 (.long w2))) (w3 : Int64) (hw3 : ∀ μ1, TE μ μ1 → ∀ d, 7 ≤ d → z_C d mi_X3_waiting [.ref 43] μ1 (zR μ1 (.long w3))) (wd : Int64) (hwd : ∀ μ1, TE μ μ1 → ∀ d, 7 ≤ d → z_C d mi_X3_waiting [.ref (19 + 8 * dl)] μ1 (zR μ1 (.long wd))) (hb0 : decide (lg_cmp w0 0 = 0) = true) (hb1 : decide (lg_cmp w1 0 = 0) = true) (hb2 : decide (lg_cmp w2 0 = 0) = true) (hb3 : decide (lg_cmp w3 0 = 0) = true) : z_C d mi_X6_endUnwon [.ref 0] μ (fun r μ' => r = none ∧ μ' = eHB μ (!(decide ((lg_cmp wd 0) = 0))) false (xBk μ) dl e (rcM μ)) := by
  refine z_C_in (by decide) (by omega) (fun d' Z ed hc hr => ?_)
  have hH : zH mi_X6_endUnwon zt_X6_endUnwon 79 6 6 := hh_X6_endUnwon
  refine z_rcs hc hH 9 (pc' := 11) (lv' := [(2, .int 0), (1, .int 0), (0, .ref 0)]) (st' := [.int 0, .ref 0]) (μ' := μ) (by rfl) ?_
  refine zq_call hc (z_cx_ok hH (by rfl)) (gc_at d' (by omega) μ 0 (by decide)) (by decide +kernel) (fun r9 μ9 hq => ?_)
  obtain ⟨hμ9, rfl⟩ := hq
  rw [hμ9]
  clear hμ9 μ9
  show Z 0 14 [(2, .int 0), (1, .int 0), (0, .ref 0)] [.ref 18] μ
  refine zq_gfr hc hH (by rfl) (ci := 1) (f := 0) (q := 19) (by rfl) (by decide +kernel) (by rfl) (by decide +kernel) ?_
  refine zq_call hc (z_cx_ok hH (by rfl)) (hw0 _ (TE_rf _) d' (by omega)) (by decide +kernel) (fun r9 μ9 hq => ?_)
  obtain ⟨hμ9, rfl⟩ := hq
  rw [hμ9]
  clear hμ9 μ9
  show Z 0 20 [(2, .int 0), (1, .int 0), (0, .ref 0)] [.long w0] μ
  refine z_rcs hc hH 2 (pc' := 22) (lv' := [(2, .int 0), (1, .int 0), (0, .ref 0)]) (st' := [.int (lg_cmp w0 0)]) (μ' := μ) (by rfl) ?_
  refine zq_if hc hH (by rfl) (tg := 28) (by rfl) (fun h1 => ?_) (fun h1 => ?_)
  · have h1 : (decide ((lg_cmp w0 0) = 0)) = true := decide_eq_true (cm_eq9.mp h1)
    refine z_rcs hc hH 7 (pc' := 11) (lv' := [(2, .int 1), (1, .int 0), (0, .ref 0)]) (st' := [.int 1, .ref 0]) (μ' := μ) (by rfl) ?_
    refine zq_call hc (z_cx_ok hH (by rfl)) (gc_at d' (by omega) μ 1 (by decide)) (by decide +kernel) (fun r9 μ9 hq => ?_)
    obtain ⟨hμ9, rfl⟩ := hq
    rw [hμ9]
    clear hμ9 μ9
    show Z 0 14 [(2, .int 1), (1, .int 0), (0, .ref 0)] [.ref 26] μ
    refine zq_gfr hc hH (by rfl) (ci := 1) (f := 0) (q := 27) (by rfl) (by decide +kernel) (by rfl) (by decide +kernel) ?_
    refine zq_call hc (z_cx_ok hH (by rfl)) (hw1 _ (TE_rf _) d' (by omega)) (by decide +kernel) (fun r9 μ9 hq => ?_)
    obtain ⟨hμ9, rfl⟩ := hq
    rw [hμ9]
    clear hμ9 μ9
    show Z 0 20 [(2, .int 1), (1, .int 0), (0, .ref 0)] [.long w1] μ
    refine z_rcs hc hH 2 (pc' := 22) (lv' := [(2, .int 1), (1, .int 0), (0, .ref 0)]) (st' := [.int (lg_cmp w1 0)]) (μ' := μ) (by rfl) ?_
    refine zq_if hc hH (by rfl) (tg := 28) (by rfl) (fun h2 => ?_) (fun h2 => ?_)
    · have h2 : (decide ((lg_cmp w1 0) = 0)) = true := decide_eq_true (cm_eq9.mp h2)
      refine z_rcs hc hH 7 (pc' := 11) (lv' := [(2, .int 2), (1, .int 0), (0, .ref 0)]) (st' := [.int 2, .ref 0]) (μ' := μ) (by rfl) ?_
      refine zq_call hc (z_cx_ok hH (by rfl)) (gc_at d' (by omega) μ 2 (by decide)) (by decide +kernel) (fun r9 μ9 hq => ?_)
      obtain ⟨hμ9, rfl⟩ := hq
      rw [hμ9]
      clear hμ9 μ9
      show Z 0 14 [(2, .int 2), (1, .int 0), (0, .ref 0)] [.ref 34] μ
      refine zq_gfr hc hH (by rfl) (ci := 1) (f := 0) (q := 35) (by rfl) (by decide +kernel) (by rfl) (by decide +kernel) ?_
      refine zq_call hc (z_cx_ok hH (by rfl)) (hw2 _ (TE_rf _) d' (by omega)) (by decide +kernel) (fun r9 μ9 hq => ?_)
      obtain ⟨hμ9, rfl⟩ := hq
      rw [hμ9]
      clear hμ9 μ9
      show Z 0 20 [(2, .int 2), (1, .int 0), (0, .ref 0)] [.long w2] μ
      refine z_rcs hc hH 2 (pc' := 22) (lv' := [(2, .int 2), (1, .int 0), (0, .ref 0)]) (st' := [.int (lg_cmp w2 0)]) (μ' := μ) (by rfl) ?_
      refine zq_if hc hH (by rfl) (tg := 28) (by rfl) (fun h3 => ?_) (fun h3 => ?_)
      · have h3 : (decide ((lg_cmp w2 0) = 0)) = true := decide_eq_true (cm_eq9.mp h3)
        refine z_rcs hc hH 7 (pc' := 11) (lv' := [(2, .int 3), (1, .int 0), (0, .ref 0)]) (st' := [.int 3, .ref 0]) (μ' := μ) (by rfl) ?_
        refine zq_call hc (z_cx_ok hH (by rfl)) (gc_at d' (by omega) μ 3 (by decide)) (by decide +kernel) (fun r9 μ9 hq => ?_)
        obtain ⟨hμ9, rfl⟩ := hq
        rw [hμ9]
        clear hμ9 μ9
        show Z 0 14 [(2, .int 3), (1, .int 0), (0, .ref 0)] [.ref 42] μ
        refine zq_gfr hc hH (by rfl) (ci := 1) (f := 0) (q := 43) (by rfl) (by decide +kernel) (by rfl) (by decide +kernel) ?_
        refine zq_call hc (z_cx_ok hH (by rfl)) (hw3 _ (TE_rf _) d' (by omega)) (by decide +kernel) (fun r9 μ9 hq => ?_)
        obtain ⟨hμ9, rfl⟩ := hq
        rw [hμ9]
        clear hμ9 μ9
        show Z 0 20 [(2, .int 3), (1, .int 0), (0, .ref 0)] [.long w3] μ
        refine z_rcs hc hH 2 (pc' := 22) (lv' := [(2, .int 3), (1, .int 0), (0, .ref 0)]) (st' := [.int (lg_cmp w3 0)]) (μ' := μ) (by rfl) ?_
        refine zq_if hc hH (by rfl) (tg := 28) (by rfl) (fun h4 => ?_) (fun h4 => ?_)
        · have h4 : (decide ((lg_cmp w3 0) = 0)) = true := decide_eq_true (cm_eq9.mp h4)
          refine z_rcs hc hH 7 (pc' := 36) (lv' := [(2, .int 4), (1, .int 0), (0, .ref 0)]) (st' := [.ref 0, .ref 0]) (μ' := μ) (by rfl) ?_
          refine zq_gfi hc hH (by rfl) (ci := 5) (f := 9) (by rfl) (by decide +kernel) (by rfl) ?_
          rw [hdl]
          refine zq_call hc (z_cx_ok hH (by rfl)) (gc_at4 d' (by omega) μ dl hdl4) (by decide +kernel) (fun r9 μ9 hq => ?_)
          obtain ⟨hμ9, rfl⟩ := hq
          rw [hμ9]
          clear hμ9 μ9
          show Z 0 42 [(2, .int 4), (1, .int 0), (0, .ref 0)] [.ref (18 + 8 * dl)] μ
          refine zq_gfr hc hH (by rfl) (ci := 1) (f := 0) (q := 19 + 8 * dl) (by rfl) (sj (P := fun i => okf 79 1 0 (18 + 8 * i)) hdl4 (by decide +kernel)) (by rfl) (sj (P := fun i => Nat.beq (z_gr (18 + 8 * i) 0) (19 + 8 * i)) hdl4 (by decide +kernel)) ?_
          refine zq_call hc (z_clv9 hH (by rfl) (by rfl) (by rfl) (by rfl) (sj (P := fun i => okr 79 2 (19 + 8 * i)) hdl4 (by decide +kernel)) (by rfl) (by rfl)) ((hwd _ (TE_rf _) d' (by omega))) (by decide +kernel) (fun r9 μ9 hq => ?_)
          obtain ⟨hμ9, rfl⟩ := hq
          rw [hμ9]
          clear hμ9 μ9
          show Z 0 48 [(2, .int 4), (1, .int 0), (0, .ref 0)] [.long wd] μ
          refine z_rcs hc hH 2 (pc' := 50) (lv' := [(2, .int 4), (1, .int 0), (0, .ref 0)]) (st' := [.int (lg_cmp wd 0)]) (μ' := μ) (by rfl) ?_
          have hJ5 : Z 0 58 [(2, .int 4), (1, .int 0), (0, .ref 0)] [.int (nB (!(decide ((lg_cmp wd 0) = 0))))] μ := by
            refine z_rcs hc hH 6 (pc' := 139) (lv' := [(2, .int (nB (!(decide ((lg_cmp wd 0) = 0))))), (1, .int 0), (0, .ref 0)]) (st' := [.int 0, .int (nB (!(decide ((lg_cmp wd 0) = 0)))), .ref 0]) (μ' := μ) (by rfl) ?_
            refine zq_call hc (z_cx_ok hH (by rfl)) (gc_endHandB d' (by omega) μ (!(decide ((lg_cmp wd 0) = 0))) false dl e hdl hdl4 he) (by decide +kernel) (fun r9 μ9 hq => ?_)
            obtain ⟨rfl, rfl⟩ := hq
            show Z 0 142 [(2, .int (nB (!(decide ((lg_cmp wd 0) = 0))))), (1, .int 0), (0, .ref 0)] [] (eHB μ (!(decide ((lg_cmp wd 0) = 0))) false (xBk μ) dl e (rcM μ))
            exact hr 0 142 _ _ _ none (by decide +kernel) (by rfl) (⟨rfl, rfl⟩)
          refine zq_if hc hH (by rfl) (tg := 57) (by rfl) (fun h6 => ?_) (fun h6 => ?_)
          · have h6 : (decide ((lg_cmp wd 0) = 0)) = true := decide_eq_true (cm_eq9.mp h6)
            refine z_rcs hc hH 1 (pc' := 58) (lv' := [(2, .int 4), (1, .int 0), (0, .ref 0)]) (st' := [.int 0]) (μ' := μ) (by rfl) ?_
            exact zJ hJ5 rfl (by first | with_reducible rfl | (simp only [h6, lb_f, Int64.or_zero, Int32.add_zero, nB_t, nB_f, Bool.not_true, Bool.not_false, Bool.and_true, Bool.true_and, Bool.false_and, Bool.and_false, Bool.or_true, Bool.true_or, Bool.false_or, Bool.or_false, cond_true, cond_false]; done) | rfl) rfl
          · have h6 : (decide ((lg_cmp wd 0) = 0)) = false := decide_eq_false (cn_eq.mp h6)
            refine z_rcs hc hH 2 (pc' := 58) (lv' := [(2, .int 4), (1, .int 0), (0, .ref 0)]) (st' := [.int 1]) (μ' := μ) (by rfl) ?_
            exact zJ hJ5 rfl (by first | with_reducible rfl | (simp only [h6, lb_f, Int64.or_zero, Int32.add_zero, nB_t, nB_f, Bool.not_true, Bool.not_false, Bool.and_true, Bool.true_and, Bool.false_and, Bool.and_false, Bool.or_true, Bool.true_or, Bool.false_or, Bool.or_false, cond_true, cond_false]; done) | rfl) rfl
        · have h4 : (decide ((lg_cmp w3 0) = 0)) = false := decide_eq_false (cn_eq.mp h4)
          exact absurd (Eq.trans (Eq.symm (hb3)) h4) (by decide)
      · have h3 : (decide ((lg_cmp w2 0) = 0)) = false := decide_eq_false (cn_eq.mp h3)
        exact absurd (Eq.trans (Eq.symm (hb2)) h3) (by decide)
    · have h2 : (decide ((lg_cmp w1 0) = 0)) = false := decide_eq_false (cn_eq.mp h2)
      exact absurd (Eq.trans (Eq.symm (hb1)) h2) (by decide)
  · have h1 : (decide ((lg_cmp w0 0) = 0)) = false := decide_eq_false (cn_eq.mp h1)
    exact absurd (Eq.trans (Eq.symm (hb0)) h1) (by decide)
theorem gc_endUnwon0001 (d : Nat) (hd : 8 ≤ d) (μ : zM) (dl e : Nat) (hdl : μ.1 0 9 = nI dl) (hdl4 : dl < 4) (he : (dl + 1) % 4 = e) (w0 : Int64) (hw0 : ∀ μ1, TE μ μ1 → ∀ d, 7 ≤ d → z_C d mi_X3_waiting [.ref 19] μ1 (zR μ1 (.long w0))) (w1 : Int64) (hw1 : ∀ μ1, TE μ μ1 → ∀ d, 7 ≤ d → z_C d mi_X3_waiting [.ref 27] μ1 (zR μ1 (.long w1))) (w2 : Int64) (hw2 : ∀ μ1, TE μ μ1 → ∀ d, 7 ≤ d → z_C d mi_X3_waiting [.ref 35] μ1 (zR μ1 (.long w2))) (w3 : Int64) (hw3 : ∀ μ1, TE μ μ1 → ∀ d, 7 ≤ d → z_C d mi_X3_waiting [.ref 43] μ1 (zR μ1 (.long w3))) (wd : Int64) (hwd : ∀ μ1, TE μ μ1 → ∀ d, 7 ≤ d → z_C d mi_X3_waiting [.ref (19 + 8 * dl)] μ1 (zR μ1 (.long wd))) (hb0 : decide (lg_cmp w0 0 = 0) = true) (hb1 : decide (lg_cmp w1 0 = 0) = true) (hb2 : decide (lg_cmp w2 0 = 0) = true) (hb3 : decide (lg_cmp w3 0 = 0) = false) : z_C d mi_X6_endUnwon [.ref 0] μ (fun r μ' => r = none ∧ μ' = eHB (z_ui (z_ui (z_ui (z_ui μ 18 4 ((μ.1 18 4) + (-1000))) 26 4 ((μ.1 26 4) + (-1000))) 34 4 ((μ.1 34 4) + (-1000))) 42 4 ((μ.1 42 4) + 3000)) (!(decide ((lg_cmp wd 0) = 0))) false (xBk (z_ui (z_ui (z_ui (z_ui μ 18 4 ((μ.1 18 4) + (-1000))) 26 4 ((μ.1 26 4) + (-1000))) 34 4 ((μ.1 34 4) + (-1000))) 42 4 ((μ.1 42 4) + 3000))) dl e (rcM (z_ui (z_ui (z_ui (z_ui μ 18 4 ((μ.1 18 4) + (-1000))) 26 4 ((μ.1 26 4) + (-1000))) 34 4 ((μ.1 34 4) + (-1000))) 42 4 ((μ.1 42 4) + 3000)))) := by
  refine z_C_in (by decide) (by omega) (fun d' Z ed hc hr => ?_)
  have hH : zH mi_X6_endUnwon zt_X6_endUnwon 79 6 6 := hh_X6_endUnwon
  refine z_rcs hc hH 9 (pc' := 11) (lv' := [(2, .int 0), (1, .int 0), (0, .ref 0)]) (st' := [.int 0, .ref 0]) (μ' := μ) (by rfl) ?_
  refine zq_call hc (z_cx_ok hH (by rfl)) (gc_at d' (by omega) μ 0 (by decide)) (by decide +kernel) (fun r9 μ9 hq => ?_)
  obtain ⟨hμ9, rfl⟩ := hq
  rw [hμ9]
  clear hμ9 μ9
  show Z 0 14 [(2, .int 0), (1, .int 0), (0, .ref 0)] [.ref 18] μ
  refine zq_gfr hc hH (by rfl) (ci := 1) (f := 0) (q := 19) (by rfl) (by decide +kernel) (by rfl) (by decide +kernel) ?_
  refine zq_call hc (z_cx_ok hH (by rfl)) (hw0 _ (TE_rf _) d' (by omega)) (by decide +kernel) (fun r9 μ9 hq => ?_)
  obtain ⟨hμ9, rfl⟩ := hq
  rw [hμ9]
  clear hμ9 μ9
  show Z 0 20 [(2, .int 0), (1, .int 0), (0, .ref 0)] [.long w0] μ
  refine z_rcs hc hH 2 (pc' := 22) (lv' := [(2, .int 0), (1, .int 0), (0, .ref 0)]) (st' := [.int (lg_cmp w0 0)]) (μ' := μ) (by rfl) ?_
  refine zq_if hc hH (by rfl) (tg := 28) (by rfl) (fun h1 => ?_) (fun h1 => ?_)
  · have h1 : (decide ((lg_cmp w0 0) = 0)) = true := decide_eq_true (cm_eq9.mp h1)
    refine z_rcs hc hH 7 (pc' := 11) (lv' := [(2, .int 1), (1, .int 0), (0, .ref 0)]) (st' := [.int 1, .ref 0]) (μ' := μ) (by rfl) ?_
    refine zq_call hc (z_cx_ok hH (by rfl)) (gc_at d' (by omega) μ 1 (by decide)) (by decide +kernel) (fun r9 μ9 hq => ?_)
    obtain ⟨hμ9, rfl⟩ := hq
    rw [hμ9]
    clear hμ9 μ9
    show Z 0 14 [(2, .int 1), (1, .int 0), (0, .ref 0)] [.ref 26] μ
    refine zq_gfr hc hH (by rfl) (ci := 1) (f := 0) (q := 27) (by rfl) (by decide +kernel) (by rfl) (by decide +kernel) ?_
    refine zq_call hc (z_cx_ok hH (by rfl)) (hw1 _ (TE_rf _) d' (by omega)) (by decide +kernel) (fun r9 μ9 hq => ?_)
    obtain ⟨hμ9, rfl⟩ := hq
    rw [hμ9]
    clear hμ9 μ9
    show Z 0 20 [(2, .int 1), (1, .int 0), (0, .ref 0)] [.long w1] μ
    refine z_rcs hc hH 2 (pc' := 22) (lv' := [(2, .int 1), (1, .int 0), (0, .ref 0)]) (st' := [.int (lg_cmp w1 0)]) (μ' := μ) (by rfl) ?_
    refine zq_if hc hH (by rfl) (tg := 28) (by rfl) (fun h2 => ?_) (fun h2 => ?_)
    · have h2 : (decide ((lg_cmp w1 0) = 0)) = true := decide_eq_true (cm_eq9.mp h2)
      refine z_rcs hc hH 7 (pc' := 11) (lv' := [(2, .int 2), (1, .int 0), (0, .ref 0)]) (st' := [.int 2, .ref 0]) (μ' := μ) (by rfl) ?_
      refine zq_call hc (z_cx_ok hH (by rfl)) (gc_at d' (by omega) μ 2 (by decide)) (by decide +kernel) (fun r9 μ9 hq => ?_)
      obtain ⟨hμ9, rfl⟩ := hq
      rw [hμ9]
      clear hμ9 μ9
      show Z 0 14 [(2, .int 2), (1, .int 0), (0, .ref 0)] [.ref 34] μ
      refine zq_gfr hc hH (by rfl) (ci := 1) (f := 0) (q := 35) (by rfl) (by decide +kernel) (by rfl) (by decide +kernel) ?_
      refine zq_call hc (z_cx_ok hH (by rfl)) (hw2 _ (TE_rf _) d' (by omega)) (by decide +kernel) (fun r9 μ9 hq => ?_)
      obtain ⟨hμ9, rfl⟩ := hq
      rw [hμ9]
      clear hμ9 μ9
      show Z 0 20 [(2, .int 2), (1, .int 0), (0, .ref 0)] [.long w2] μ
      refine z_rcs hc hH 2 (pc' := 22) (lv' := [(2, .int 2), (1, .int 0), (0, .ref 0)]) (st' := [.int (lg_cmp w2 0)]) (μ' := μ) (by rfl) ?_
      refine zq_if hc hH (by rfl) (tg := 28) (by rfl) (fun h3 => ?_) (fun h3 => ?_)
      · have h3 : (decide ((lg_cmp w2 0) = 0)) = true := decide_eq_true (cm_eq9.mp h3)
        refine z_rcs hc hH 7 (pc' := 11) (lv' := [(2, .int 3), (1, .int 0), (0, .ref 0)]) (st' := [.int 3, .ref 0]) (μ' := μ) (by rfl) ?_
        refine zq_call hc (z_cx_ok hH (by rfl)) (gc_at d' (by omega) μ 3 (by decide)) (by decide +kernel) (fun r9 μ9 hq => ?_)
        obtain ⟨hμ9, rfl⟩ := hq
        rw [hμ9]
        clear hμ9 μ9
        show Z 0 14 [(2, .int 3), (1, .int 0), (0, .ref 0)] [.ref 42] μ
        refine zq_gfr hc hH (by rfl) (ci := 1) (f := 0) (q := 43) (by rfl) (by decide +kernel) (by rfl) (by decide +kernel) ?_
        refine zq_call hc (z_cx_ok hH (by rfl)) (hw3 _ (TE_rf _) d' (by omega)) (by decide +kernel) (fun r9 μ9 hq => ?_)
        obtain ⟨hμ9, rfl⟩ := hq
        rw [hμ9]
        clear hμ9 μ9
        show Z 0 20 [(2, .int 3), (1, .int 0), (0, .ref 0)] [.long w3] μ
        refine z_rcs hc hH 2 (pc' := 22) (lv' := [(2, .int 3), (1, .int 0), (0, .ref 0)]) (st' := [.int (lg_cmp w3 0)]) (μ' := μ) (by rfl) ?_
        refine zq_if hc hH (by rfl) (tg := 28) (by rfl) (fun h4 => ?_) (fun h4 => ?_)
        · have h4 : (decide ((lg_cmp w3 0) = 0)) = true := decide_eq_true (cm_eq9.mp h4)
          exact absurd (Eq.trans (Eq.symm (hb3)) h4) (by decide)
        · have h4 : (decide ((lg_cmp w3 0) = 0)) = false := decide_eq_false (cn_eq.mp h4)
          refine z_rcs hc hH 8 (pc' := 36) (lv' := [(2, .int 4), (1, .int 1), (0, .ref 0)]) (st' := [.ref 0, .ref 0]) (μ' := μ) (by rfl) ?_
          refine zq_gfi hc hH (by rfl) (ci := 5) (f := 9) (by rfl) (by decide +kernel) (by rfl) ?_
          rw [hdl]
          refine zq_call hc (z_cx_ok hH (by rfl)) (gc_at4 d' (by omega) μ dl hdl4) (by decide +kernel) (fun r9 μ9 hq => ?_)
          obtain ⟨hμ9, rfl⟩ := hq
          rw [hμ9]
          clear hμ9 μ9
          show Z 0 42 [(2, .int 4), (1, .int 1), (0, .ref 0)] [.ref (18 + 8 * dl)] μ
          refine zq_gfr hc hH (by rfl) (ci := 1) (f := 0) (q := 19 + 8 * dl) (by rfl) (sj (P := fun i => okf 79 1 0 (18 + 8 * i)) hdl4 (by decide +kernel)) (by rfl) (sj (P := fun i => Nat.beq (z_gr (18 + 8 * i) 0) (19 + 8 * i)) hdl4 (by decide +kernel)) ?_
          refine zq_call hc (z_clv9 hH (by rfl) (by rfl) (by rfl) (by rfl) (sj (P := fun i => okr 79 2 (19 + 8 * i)) hdl4 (by decide +kernel)) (by rfl) (by rfl)) ((hwd _ (TE_rf _) d' (by omega))) (by decide +kernel) (fun r9 μ9 hq => ?_)
          obtain ⟨hμ9, rfl⟩ := hq
          rw [hμ9]
          clear hμ9 μ9
          show Z 0 48 [(2, .int 4), (1, .int 1), (0, .ref 0)] [.long wd] μ
          refine z_rcs hc hH 2 (pc' := 50) (lv' := [(2, .int 4), (1, .int 1), (0, .ref 0)]) (st' := [.int (lg_cmp wd 0)]) (μ' := μ) (by rfl) ?_
          have hJ5 : Z 0 58 [(2, .int 4), (1, .int 1), (0, .ref 0)] [.int (nB (!(decide ((lg_cmp wd 0) = 0))))] μ := by
            refine z_rcs hc hH 23 (pc' := 95) (lv' := [(5, .int 0), (4, .int 1000), (3, .int 3000), (2, .int (nB (!(decide ((lg_cmp wd 0) = 0))))), (1, .int 1), (0, .ref 0)]) (st' := [.int 0, .ref 0]) (μ' := μ) (by rfl) ?_
            refine zq_call hc (z_cx_ok hH (by rfl)) (gc_at d' (by omega) μ 0 (by decide)) (by decide +kernel) (fun r9 μ9 hq => ?_)
            obtain ⟨hμ9, rfl⟩ := hq
            rw [hμ9]
            clear hμ9 μ9
            show Z 0 98 [(5, .int 0), (4, .int 1000), (3, .int 3000), (2, .int (nB (!(decide ((lg_cmp wd 0) = 0))))), (1, .int 1), (0, .ref 0)] [.ref 18] μ
            refine z_rcs hc hH 1 (pc' := 99) (lv' := [(5, .int 0), (4, .int 1000), (3, .int 3000), (2, .int (nB (!(decide ((lg_cmp wd 0) = 0))))), (1, .int 1), (0, .ref 0)]) (st' := [.ref 18, .ref 18]) (μ' := μ) (by rfl) ?_
            refine zq_gfi hc hH (by rfl) (ci := 1) (f := 4) (by rfl) (by decide +kernel) (by rfl) ?_
            refine z_rcs hc hH 2 (pc' := 105) (lv' := [(5, .int 0), (4, .int 1000), (3, .int 3000), (2, .int (nB (!(decide ((lg_cmp wd 0) = 0))))), (1, .int 1), (0, .ref 0)]) (st' := [.int 0, .ref 0, .int (μ.1 18 4), .ref 18]) (μ' := μ) (by rfl) ?_
            refine zq_call hc (z_cx_ok hH (by rfl)) (gc_at d' (by omega) μ 0 (by decide)) (by decide +kernel) (fun r9 μ9 hq => ?_)
            obtain ⟨hμ9, rfl⟩ := hq
            rw [hμ9]
            clear hμ9 μ9
            show Z 0 108 [(5, .int 0), (4, .int 1000), (3, .int 3000), (2, .int (nB (!(decide ((lg_cmp wd 0) = 0))))), (1, .int 1), (0, .ref 0)] [.ref 18, .int (μ.1 18 4), .ref 18] μ
            refine zq_gfr hc hH (by rfl) (ci := 1) (f := 0) (q := 19) (by rfl) (by decide +kernel) (by rfl) (by decide +kernel) ?_
            refine zq_call hc (z_cx_ok hH (by rfl)) (hw0 _ (TE_rf _) d' (by omega)) (by decide +kernel) (fun r9 μ9 hq => ?_)
            obtain ⟨hμ9, rfl⟩ := hq
            rw [hμ9]
            clear hμ9 μ9
            show Z 0 114 [(5, .int 0), (4, .int 1000), (3, .int 3000), (2, .int (nB (!(decide ((lg_cmp wd 0) = 0))))), (1, .int 1), (0, .ref 0)] [.long w0, .int (μ.1 18 4), .ref 18] μ
            refine z_rcs hc hH 2 (pc' := 116) (lv' := [(5, .int 0), (4, .int 1000), (3, .int 3000), (2, .int (nB (!(decide ((lg_cmp wd 0) = 0))))), (1, .int 1), (0, .ref 0)]) (st' := [.int (lg_cmp w0 0), .int (μ.1 18 4), .ref 18]) (μ' := μ) (by rfl) ?_
            refine zq_if hc hH (by rfl) (tg := 123) (by rfl) (fun h6 => ?_) (fun h6 => ?_)
            · have h6 : (decide ((lg_cmp w0 0) = 0)) = true := decide_eq_true (cm_eq9.mp h6)
              refine z_rcs hc hH 3 (pc' := 127) (lv' := [(5, .int 0), (4, .int 1000), (3, .int 3000), (2, .int (nB (!(decide ((lg_cmp wd 0) = 0))))), (1, .int 1), (0, .ref 0)]) (st' := [.int ((μ.1 18 4) + (-1000)), .ref 18]) (μ' := μ) (by rfl) ?_
              refine zq_pfi hc hH (by rfl) (ci := 1) (f := 4) (by rfl) (by decide +kernel) (by rfl) ?_
              show Z 0 130 [(5, .int 0), (4, .int 1000), (3, .int 3000), (2, .int (nB (!(decide ((lg_cmp wd 0) = 0))))), (1, .int 1), (0, .ref 0)] [] (z_ui μ 18 4 ((μ.1 18 4) + (-1000)))
              refine z_rcs0 hc hH 7 (pc' := 95) (lv' := [(5, .int 1), (4, .int 1000), (3, .int 3000), (2, .int (nB (!(decide ((lg_cmp wd 0) = 0))))), (1, .int 1), (0, .ref 0)]) (st' := [.int 1, .ref 0]) (by rfl) ?_
              refine zq_call hc (z_cx_ok hH (by rfl)) (gc_at d' (by omega) (z_ui μ 18 4 ((μ.1 18 4) + (-1000))) 1 (by decide)) (by decide +kernel) (fun r9 μ9 hq => ?_)
              obtain ⟨hμ9, rfl⟩ := hq
              rw [hμ9]
              clear hμ9 μ9
              show Z 0 98 [(5, .int 1), (4, .int 1000), (3, .int 3000), (2, .int (nB (!(decide ((lg_cmp wd 0) = 0))))), (1, .int 1), (0, .ref 0)] [.ref 26] _
              refine z_rcs0 hc hH 1 (pc' := 99) (lv' := [(5, .int 1), (4, .int 1000), (3, .int 3000), (2, .int (nB (!(decide ((lg_cmp wd 0) = 0))))), (1, .int 1), (0, .ref 0)]) (st' := [.ref 26, .ref 26]) (by rfl) ?_
              refine zq_gfi hc hH (by rfl) (ci := 1) (f := 4) (by rfl) (by decide +kernel) (by rfl) ?_
              refine zV1 (Z := Z) (ui_o (by first | decide | omega)) ?_
              refine z_rcs0 hc hH 2 (pc' := 105) (lv' := [(5, .int 1), (4, .int 1000), (3, .int 3000), (2, .int (nB (!(decide ((lg_cmp wd 0) = 0))))), (1, .int 1), (0, .ref 0)]) (st' := [.int 1, .ref 0, .int (μ.1 26 4), .ref 26]) (by rfl) ?_
              refine zq_call hc (z_cx_ok hH (by rfl)) (gc_at d' (by omega) (z_ui μ 18 4 ((μ.1 18 4) + (-1000))) 1 (by decide)) (by decide +kernel) (fun r9 μ9 hq => ?_)
              obtain ⟨hμ9, rfl⟩ := hq
              rw [hμ9]
              clear hμ9 μ9
              show Z 0 108 [(5, .int 1), (4, .int 1000), (3, .int 3000), (2, .int (nB (!(decide ((lg_cmp wd 0) = 0))))), (1, .int 1), (0, .ref 0)] [.ref 26, .int (μ.1 26 4), .ref 26] _
              refine zq_gfr hc hH (by rfl) (ci := 1) (f := 0) (q := 27) (by rfl) (by decide +kernel) (by rfl) (by decide +kernel) ?_
              refine zq_call hc (z_cx_ok hH (by rfl)) (hw1 _ (TE_ui (TE_rf _) (by intro i a hi h1 h2; omega)) d' (by omega)) (by decide +kernel) (fun r9 μ9 hq => ?_)
              obtain ⟨hμ9, rfl⟩ := hq
              rw [hμ9]
              clear hμ9 μ9
              show Z 0 114 [(5, .int 1), (4, .int 1000), (3, .int 3000), (2, .int (nB (!(decide ((lg_cmp wd 0) = 0))))), (1, .int 1), (0, .ref 0)] [.long w1, .int (μ.1 26 4), .ref 26] _
              refine z_rcs0 hc hH 2 (pc' := 116) (lv' := [(5, .int 1), (4, .int 1000), (3, .int 3000), (2, .int (nB (!(decide ((lg_cmp wd 0) = 0))))), (1, .int 1), (0, .ref 0)]) (st' := [.int (lg_cmp w1 0), .int (μ.1 26 4), .ref 26]) (by rfl) ?_
              refine zq_if hc hH (by rfl) (tg := 123) (by rfl) (fun h7 => ?_) (fun h7 => ?_)
              · have h7 : (decide ((lg_cmp w1 0) = 0)) = true := decide_eq_true (cm_eq9.mp h7)
                refine z_rcs0 hc hH 3 (pc' := 127) (lv' := [(5, .int 1), (4, .int 1000), (3, .int 3000), (2, .int (nB (!(decide ((lg_cmp wd 0) = 0))))), (1, .int 1), (0, .ref 0)]) (st' := [.int ((μ.1 26 4) + (-1000)), .ref 26]) (by rfl) ?_
                refine zq_pfi hc hH (by rfl) (ci := 1) (f := 4) (by rfl) (by decide +kernel) (by rfl) ?_
                show Z 0 130 [(5, .int 1), (4, .int 1000), (3, .int 3000), (2, .int (nB (!(decide ((lg_cmp wd 0) = 0))))), (1, .int 1), (0, .ref 0)] [] (z_ui (z_ui μ 18 4 ((μ.1 18 4) + (-1000))) 26 4 ((μ.1 26 4) + (-1000)))
                refine z_rcs0 hc hH 7 (pc' := 95) (lv' := [(5, .int 2), (4, .int 1000), (3, .int 3000), (2, .int (nB (!(decide ((lg_cmp wd 0) = 0))))), (1, .int 1), (0, .ref 0)]) (st' := [.int 2, .ref 0]) (by rfl) ?_
                refine zq_call hc (z_cx_ok hH (by rfl)) (gc_at d' (by omega) (z_ui (z_ui μ 18 4 ((μ.1 18 4) + (-1000))) 26 4 ((μ.1 26 4) + (-1000))) 2 (by decide)) (by decide +kernel) (fun r9 μ9 hq => ?_)
                obtain ⟨hμ9, rfl⟩ := hq
                rw [hμ9]
                clear hμ9 μ9
                show Z 0 98 [(5, .int 2), (4, .int 1000), (3, .int 3000), (2, .int (nB (!(decide ((lg_cmp wd 0) = 0))))), (1, .int 1), (0, .ref 0)] [.ref 34] _
                refine z_rcs0 hc hH 1 (pc' := 99) (lv' := [(5, .int 2), (4, .int 1000), (3, .int 3000), (2, .int (nB (!(decide ((lg_cmp wd 0) = 0))))), (1, .int 1), (0, .ref 0)]) (st' := [.ref 34, .ref 34]) (by rfl) ?_
                refine zq_gfi hc hH (by rfl) (ci := 1) (f := 4) (by rfl) (by decide +kernel) (by rfl) ?_
                refine zV1 (Z := Z) (Eq.trans (ui_o (by first | decide | omega)) (ui_o (by first | decide | omega))) ?_
                refine z_rcs0 hc hH 2 (pc' := 105) (lv' := [(5, .int 2), (4, .int 1000), (3, .int 3000), (2, .int (nB (!(decide ((lg_cmp wd 0) = 0))))), (1, .int 1), (0, .ref 0)]) (st' := [.int 2, .ref 0, .int (μ.1 34 4), .ref 34]) (by rfl) ?_
                refine zq_call hc (z_cx_ok hH (by rfl)) (gc_at d' (by omega) (z_ui (z_ui μ 18 4 ((μ.1 18 4) + (-1000))) 26 4 ((μ.1 26 4) + (-1000))) 2 (by decide)) (by decide +kernel) (fun r9 μ9 hq => ?_)
                obtain ⟨hμ9, rfl⟩ := hq
                rw [hμ9]
                clear hμ9 μ9
                show Z 0 108 [(5, .int 2), (4, .int 1000), (3, .int 3000), (2, .int (nB (!(decide ((lg_cmp wd 0) = 0))))), (1, .int 1), (0, .ref 0)] [.ref 34, .int (μ.1 34 4), .ref 34] _
                refine zq_gfr hc hH (by rfl) (ci := 1) (f := 0) (q := 35) (by rfl) (by decide +kernel) (by rfl) (by decide +kernel) ?_
                refine zq_call hc (z_cx_ok hH (by rfl)) (hw2 _ (TE_ui (TE_ui (TE_rf _) (by intro i a hi h1 h2; omega)) (by intro i a hi h1 h2; omega)) d' (by omega)) (by decide +kernel) (fun r9 μ9 hq => ?_)
                obtain ⟨hμ9, rfl⟩ := hq
                rw [hμ9]
                clear hμ9 μ9
                show Z 0 114 [(5, .int 2), (4, .int 1000), (3, .int 3000), (2, .int (nB (!(decide ((lg_cmp wd 0) = 0))))), (1, .int 1), (0, .ref 0)] [.long w2, .int (μ.1 34 4), .ref 34] _
                refine z_rcs0 hc hH 2 (pc' := 116) (lv' := [(5, .int 2), (4, .int 1000), (3, .int 3000), (2, .int (nB (!(decide ((lg_cmp wd 0) = 0))))), (1, .int 1), (0, .ref 0)]) (st' := [.int (lg_cmp w2 0), .int (μ.1 34 4), .ref 34]) (by rfl) ?_
                refine zq_if hc hH (by rfl) (tg := 123) (by rfl) (fun h8 => ?_) (fun h8 => ?_)
                · have h8 : (decide ((lg_cmp w2 0) = 0)) = true := decide_eq_true (cm_eq9.mp h8)
                  refine z_rcs0 hc hH 3 (pc' := 127) (lv' := [(5, .int 2), (4, .int 1000), (3, .int 3000), (2, .int (nB (!(decide ((lg_cmp wd 0) = 0))))), (1, .int 1), (0, .ref 0)]) (st' := [.int ((μ.1 34 4) + (-1000)), .ref 34]) (by rfl) ?_
                  refine zq_pfi hc hH (by rfl) (ci := 1) (f := 4) (by rfl) (by decide +kernel) (by rfl) ?_
                  show Z 0 130 [(5, .int 2), (4, .int 1000), (3, .int 3000), (2, .int (nB (!(decide ((lg_cmp wd 0) = 0))))), (1, .int 1), (0, .ref 0)] [] (z_ui (z_ui (z_ui μ 18 4 ((μ.1 18 4) + (-1000))) 26 4 ((μ.1 26 4) + (-1000))) 34 4 ((μ.1 34 4) + (-1000)))
                  refine z_rcs0 hc hH 7 (pc' := 95) (lv' := [(5, .int 3), (4, .int 1000), (3, .int 3000), (2, .int (nB (!(decide ((lg_cmp wd 0) = 0))))), (1, .int 1), (0, .ref 0)]) (st' := [.int 3, .ref 0]) (by rfl) ?_
                  refine zq_call hc (z_cx_ok hH (by rfl)) (gc_at d' (by omega) (z_ui (z_ui (z_ui μ 18 4 ((μ.1 18 4) + (-1000))) 26 4 ((μ.1 26 4) + (-1000))) 34 4 ((μ.1 34 4) + (-1000))) 3 (by decide)) (by decide +kernel) (fun r9 μ9 hq => ?_)
                  obtain ⟨hμ9, rfl⟩ := hq
                  rw [hμ9]
                  clear hμ9 μ9
                  show Z 0 98 [(5, .int 3), (4, .int 1000), (3, .int 3000), (2, .int (nB (!(decide ((lg_cmp wd 0) = 0))))), (1, .int 1), (0, .ref 0)] [.ref 42] _
                  refine z_rcs0 hc hH 1 (pc' := 99) (lv' := [(5, .int 3), (4, .int 1000), (3, .int 3000), (2, .int (nB (!(decide ((lg_cmp wd 0) = 0))))), (1, .int 1), (0, .ref 0)]) (st' := [.ref 42, .ref 42]) (by rfl) ?_
                  refine zq_gfi hc hH (by rfl) (ci := 1) (f := 4) (by rfl) (by decide +kernel) (by rfl) ?_
                  refine zV1 (Z := Z) (Eq.trans (ui_o (by first | decide | omega)) (Eq.trans (ui_o (by first | decide | omega)) (ui_o (by first | decide | omega)))) ?_
                  refine z_rcs0 hc hH 2 (pc' := 105) (lv' := [(5, .int 3), (4, .int 1000), (3, .int 3000), (2, .int (nB (!(decide ((lg_cmp wd 0) = 0))))), (1, .int 1), (0, .ref 0)]) (st' := [.int 3, .ref 0, .int (μ.1 42 4), .ref 42]) (by rfl) ?_
                  refine zq_call hc (z_cx_ok hH (by rfl)) (gc_at d' (by omega) (z_ui (z_ui (z_ui μ 18 4 ((μ.1 18 4) + (-1000))) 26 4 ((μ.1 26 4) + (-1000))) 34 4 ((μ.1 34 4) + (-1000))) 3 (by decide)) (by decide +kernel) (fun r9 μ9 hq => ?_)
                  obtain ⟨hμ9, rfl⟩ := hq
                  rw [hμ9]
                  clear hμ9 μ9
                  show Z 0 108 [(5, .int 3), (4, .int 1000), (3, .int 3000), (2, .int (nB (!(decide ((lg_cmp wd 0) = 0))))), (1, .int 1), (0, .ref 0)] [.ref 42, .int (μ.1 42 4), .ref 42] _
                  refine zq_gfr hc hH (by rfl) (ci := 1) (f := 0) (q := 43) (by rfl) (by decide +kernel) (by rfl) (by decide +kernel) ?_
                  refine zq_call hc (z_cx_ok hH (by rfl)) (hw3 _ (TE_ui (TE_ui (TE_ui (TE_rf _) (by intro i a hi h1 h2; omega)) (by intro i a hi h1 h2; omega)) (by intro i a hi h1 h2; omega)) d' (by omega)) (by decide +kernel) (fun r9 μ9 hq => ?_)
                  obtain ⟨hμ9, rfl⟩ := hq
                  rw [hμ9]
                  clear hμ9 μ9
                  show Z 0 114 [(5, .int 3), (4, .int 1000), (3, .int 3000), (2, .int (nB (!(decide ((lg_cmp wd 0) = 0))))), (1, .int 1), (0, .ref 0)] [.long w3, .int (μ.1 42 4), .ref 42] _
                  refine z_rcs0 hc hH 2 (pc' := 116) (lv' := [(5, .int 3), (4, .int 1000), (3, .int 3000), (2, .int (nB (!(decide ((lg_cmp wd 0) = 0))))), (1, .int 1), (0, .ref 0)]) (st' := [.int (lg_cmp w3 0), .int (μ.1 42 4), .ref 42]) (by rfl) ?_
                  refine zq_if hc hH (by rfl) (tg := 123) (by rfl) (fun h9 => ?_) (fun h9 => ?_)
                  · have h9 : (decide ((lg_cmp w3 0) = 0)) = true := decide_eq_true (cm_eq9.mp h9)
                    exact absurd (Eq.trans (Eq.symm (hb3)) h9) (by decide)
                  · have h9 : (decide ((lg_cmp w3 0) = 0)) = false := decide_eq_false (cn_eq.mp h9)
                    refine z_rcs0 hc hH 3 (pc' := 127) (lv' := [(5, .int 3), (4, .int 1000), (3, .int 3000), (2, .int (nB (!(decide ((lg_cmp wd 0) = 0))))), (1, .int 1), (0, .ref 0)]) (st' := [.int ((μ.1 42 4) + 3000), .ref 42]) (by rfl) ?_
                    refine zq_pfi hc hH (by rfl) (ci := 1) (f := 4) (by rfl) (by decide +kernel) (by rfl) ?_
                    show Z 0 130 [(5, .int 3), (4, .int 1000), (3, .int 3000), (2, .int (nB (!(decide ((lg_cmp wd 0) = 0))))), (1, .int 1), (0, .ref 0)] [] (z_ui (z_ui (z_ui (z_ui μ 18 4 ((μ.1 18 4) + (-1000))) 26 4 ((μ.1 26 4) + (-1000))) 34 4 ((μ.1 34 4) + (-1000))) 42 4 ((μ.1 42 4) + 3000))
                    refine z_rcs0 hc hH 8 (pc' := 139) (lv' := [(5, .int 4), (4, .int 1000), (3, .int 3000), (2, .int (nB (!(decide ((lg_cmp wd 0) = 0))))), (1, .int 1), (0, .ref 0)]) (st' := [.int 0, .int (nB (!(decide ((lg_cmp wd 0) = 0)))), .ref 0]) (by rfl) ?_
                    refine zq_call hc (z_cx_ok hH (by rfl)) (gc_endHandB d' (by omega) (z_ui (z_ui (z_ui (z_ui μ 18 4 ((μ.1 18 4) + (-1000))) 26 4 ((μ.1 26 4) + (-1000))) 34 4 ((μ.1 34 4) + (-1000))) 42 4 ((μ.1 42 4) + 3000)) (!(decide ((lg_cmp wd 0) = 0))) false dl e (by rw [ui_o (by first | decide | omega), ui_o (by first | decide | omega), ui_o (by first | decide | omega), ui_o (by first | decide | omega)]; exact hdl) hdl4 he) (by decide +kernel) (fun r9 μ9 hq => ?_)
                    obtain ⟨rfl, rfl⟩ := hq
                    show Z 0 142 [(5, .int 4), (4, .int 1000), (3, .int 3000), (2, .int (nB (!(decide ((lg_cmp wd 0) = 0))))), (1, .int 1), (0, .ref 0)] [] (eHB (z_ui (z_ui (z_ui (z_ui μ 18 4 ((μ.1 18 4) + (-1000))) 26 4 ((μ.1 26 4) + (-1000))) 34 4 ((μ.1 34 4) + (-1000))) 42 4 ((μ.1 42 4) + 3000)) (!(decide ((lg_cmp wd 0) = 0))) false (xBk (z_ui (z_ui (z_ui (z_ui μ 18 4 ((μ.1 18 4) + (-1000))) 26 4 ((μ.1 26 4) + (-1000))) 34 4 ((μ.1 34 4) + (-1000))) 42 4 ((μ.1 42 4) + 3000))) dl e (rcM (z_ui (z_ui (z_ui (z_ui μ 18 4 ((μ.1 18 4) + (-1000))) 26 4 ((μ.1 26 4) + (-1000))) 34 4 ((μ.1 34 4) + (-1000))) 42 4 ((μ.1 42 4) + 3000))))
                    exact hr 0 142 _ _ _ none (by decide +kernel) (by rfl) (⟨rfl, rfl⟩)
                · have h8 : (decide ((lg_cmp w2 0) = 0)) = false := decide_eq_false (cn_eq.mp h8)
                  exact absurd (Eq.trans (Eq.symm (hb2)) h8) (by decide)
              · have h7 : (decide ((lg_cmp w1 0) = 0)) = false := decide_eq_false (cn_eq.mp h7)
                exact absurd (Eq.trans (Eq.symm (hb1)) h7) (by decide)
            · have h6 : (decide ((lg_cmp w0 0) = 0)) = false := decide_eq_false (cn_eq.mp h6)
              exact absurd (Eq.trans (Eq.symm (hb0)) h6) (by decide)
          refine zq_if hc hH (by rfl) (tg := 57) (by rfl) (fun h10 => ?_) (fun h10 => ?_)
          · have h10 : (decide ((lg_cmp wd 0) = 0)) = true := decide_eq_true (cm_eq9.mp h10)
            refine z_rcs hc hH 1 (pc' := 58) (lv' := [(2, .int 4), (1, .int 1), (0, .ref 0)]) (st' := [.int 0]) (μ' := μ) (by rfl) ?_
            exact zJ hJ5 rfl (by first | with_reducible rfl | (simp only [h10, lb_f, Int64.or_zero, Int32.add_zero, nB_t, nB_f, Bool.not_true, Bool.not_false, Bool.and_true, Bool.true_and, Bool.false_and, Bool.and_false, Bool.or_true, Bool.true_or, Bool.false_or, Bool.or_false, cond_true, cond_false]; done) | rfl) rfl
          · have h10 : (decide ((lg_cmp wd 0) = 0)) = false := decide_eq_false (cn_eq.mp h10)
            refine z_rcs hc hH 2 (pc' := 58) (lv' := [(2, .int 4), (1, .int 1), (0, .ref 0)]) (st' := [.int 1]) (μ' := μ) (by rfl) ?_
            exact zJ hJ5 rfl (by first | with_reducible rfl | (simp only [h10, lb_f, Int64.or_zero, Int32.add_zero, nB_t, nB_f, Bool.not_true, Bool.not_false, Bool.and_true, Bool.true_and, Bool.false_and, Bool.and_false, Bool.or_true, Bool.true_or, Bool.false_or, Bool.or_false, cond_true, cond_false]; done) | rfl) rfl
      · have h3 : (decide ((lg_cmp w2 0) = 0)) = false := decide_eq_false (cn_eq.mp h3)
        exact absurd (Eq.trans (Eq.symm (hb2)) h3) (by decide)
    · have h2 : (decide ((lg_cmp w1 0) = 0)) = false := decide_eq_false (cn_eq.mp h2)
      exact absurd (Eq.trans (Eq.symm (hb1)) h2) (by decide)
  · have h1 : (decide ((lg_cmp w0 0) = 0)) = false := decide_eq_false (cn_eq.mp h1)
    exact absurd (Eq.trans (Eq.symm (hb0)) h1) (by decide)
theorem gc_endUnwon0010 (d : Nat) (hd : 8 ≤ d) (μ : zM) (dl e : Nat) (hdl : μ.1 0 9 = nI dl) (hdl4 : dl < 4) (he : (dl + 1) % 4 = e) (w0 : Int64) (hw0 : ∀ μ1, TE μ μ1 → ∀ d, 7 ≤ d → z_C d mi_X3_waiting [.ref 19] μ1 (zR μ1 (.long w0))) (w1 : Int64) (hw1 : ∀ μ1, TE μ μ1 → ∀ d, 7 ≤ d → z_C d mi_X3_waiting [.ref 27] μ1 (zR μ1 (.long w1))) (w2 : Int64) (hw2 : ∀ μ1, TE μ μ1 → ∀ d, 7 ≤ d → z_C d mi_X3_waiting [.ref 35] μ1 (zR μ1 (.long w2))) (w3 : Int64) (hw3 : ∀ μ1, TE μ μ1 → ∀ d, 7 ≤ d → z_C d mi_X3_waiting [.ref 43] μ1 (zR μ1 (.long w3))) (wd : Int64) (hwd : ∀ μ1, TE μ μ1 → ∀ d, 7 ≤ d → z_C d mi_X3_waiting [.ref (19 + 8 * dl)] μ1 (zR μ1 (.long wd))) (hb0 : decide (lg_cmp w0 0 = 0) = true) (hb1 : decide (lg_cmp w1 0 = 0) = true) (hb2 : decide (lg_cmp w2 0 = 0) = false) (hb3 : decide (lg_cmp w3 0 = 0) = true) : z_C d mi_X6_endUnwon [.ref 0] μ (fun r μ' => r = none ∧ μ' = eHB (z_ui (z_ui (z_ui (z_ui μ 18 4 ((μ.1 18 4) + (-1000))) 26 4 ((μ.1 26 4) + (-1000))) 34 4 ((μ.1 34 4) + 3000)) 42 4 ((μ.1 42 4) + (-1000))) (!(decide ((lg_cmp wd 0) = 0))) false (xBk (z_ui (z_ui (z_ui (z_ui μ 18 4 ((μ.1 18 4) + (-1000))) 26 4 ((μ.1 26 4) + (-1000))) 34 4 ((μ.1 34 4) + 3000)) 42 4 ((μ.1 42 4) + (-1000)))) dl e (rcM (z_ui (z_ui (z_ui (z_ui μ 18 4 ((μ.1 18 4) + (-1000))) 26 4 ((μ.1 26 4) + (-1000))) 34 4 ((μ.1 34 4) + 3000)) 42 4 ((μ.1 42 4) + (-1000))))) := by
  refine z_C_in (by decide) (by omega) (fun d' Z ed hc hr => ?_)
  have hH : zH mi_X6_endUnwon zt_X6_endUnwon 79 6 6 := hh_X6_endUnwon
  refine z_rcs hc hH 9 (pc' := 11) (lv' := [(2, .int 0), (1, .int 0), (0, .ref 0)]) (st' := [.int 0, .ref 0]) (μ' := μ) (by rfl) ?_
  refine zq_call hc (z_cx_ok hH (by rfl)) (gc_at d' (by omega) μ 0 (by decide)) (by decide +kernel) (fun r9 μ9 hq => ?_)
  obtain ⟨hμ9, rfl⟩ := hq
  rw [hμ9]
  clear hμ9 μ9
  show Z 0 14 [(2, .int 0), (1, .int 0), (0, .ref 0)] [.ref 18] μ
  refine zq_gfr hc hH (by rfl) (ci := 1) (f := 0) (q := 19) (by rfl) (by decide +kernel) (by rfl) (by decide +kernel) ?_
  refine zq_call hc (z_cx_ok hH (by rfl)) (hw0 _ (TE_rf _) d' (by omega)) (by decide +kernel) (fun r9 μ9 hq => ?_)
  obtain ⟨hμ9, rfl⟩ := hq
  rw [hμ9]
  clear hμ9 μ9
  show Z 0 20 [(2, .int 0), (1, .int 0), (0, .ref 0)] [.long w0] μ
  refine z_rcs hc hH 2 (pc' := 22) (lv' := [(2, .int 0), (1, .int 0), (0, .ref 0)]) (st' := [.int (lg_cmp w0 0)]) (μ' := μ) (by rfl) ?_
  refine zq_if hc hH (by rfl) (tg := 28) (by rfl) (fun h1 => ?_) (fun h1 => ?_)
  · have h1 : (decide ((lg_cmp w0 0) = 0)) = true := decide_eq_true (cm_eq9.mp h1)
    refine z_rcs hc hH 7 (pc' := 11) (lv' := [(2, .int 1), (1, .int 0), (0, .ref 0)]) (st' := [.int 1, .ref 0]) (μ' := μ) (by rfl) ?_
    refine zq_call hc (z_cx_ok hH (by rfl)) (gc_at d' (by omega) μ 1 (by decide)) (by decide +kernel) (fun r9 μ9 hq => ?_)
    obtain ⟨hμ9, rfl⟩ := hq
    rw [hμ9]
    clear hμ9 μ9
    show Z 0 14 [(2, .int 1), (1, .int 0), (0, .ref 0)] [.ref 26] μ
    refine zq_gfr hc hH (by rfl) (ci := 1) (f := 0) (q := 27) (by rfl) (by decide +kernel) (by rfl) (by decide +kernel) ?_
    refine zq_call hc (z_cx_ok hH (by rfl)) (hw1 _ (TE_rf _) d' (by omega)) (by decide +kernel) (fun r9 μ9 hq => ?_)
    obtain ⟨hμ9, rfl⟩ := hq
    rw [hμ9]
    clear hμ9 μ9
    show Z 0 20 [(2, .int 1), (1, .int 0), (0, .ref 0)] [.long w1] μ
    refine z_rcs hc hH 2 (pc' := 22) (lv' := [(2, .int 1), (1, .int 0), (0, .ref 0)]) (st' := [.int (lg_cmp w1 0)]) (μ' := μ) (by rfl) ?_
    refine zq_if hc hH (by rfl) (tg := 28) (by rfl) (fun h2 => ?_) (fun h2 => ?_)
    · have h2 : (decide ((lg_cmp w1 0) = 0)) = true := decide_eq_true (cm_eq9.mp h2)
      refine z_rcs hc hH 7 (pc' := 11) (lv' := [(2, .int 2), (1, .int 0), (0, .ref 0)]) (st' := [.int 2, .ref 0]) (μ' := μ) (by rfl) ?_
      refine zq_call hc (z_cx_ok hH (by rfl)) (gc_at d' (by omega) μ 2 (by decide)) (by decide +kernel) (fun r9 μ9 hq => ?_)
      obtain ⟨hμ9, rfl⟩ := hq
      rw [hμ9]
      clear hμ9 μ9
      show Z 0 14 [(2, .int 2), (1, .int 0), (0, .ref 0)] [.ref 34] μ
      refine zq_gfr hc hH (by rfl) (ci := 1) (f := 0) (q := 35) (by rfl) (by decide +kernel) (by rfl) (by decide +kernel) ?_
      refine zq_call hc (z_cx_ok hH (by rfl)) (hw2 _ (TE_rf _) d' (by omega)) (by decide +kernel) (fun r9 μ9 hq => ?_)
      obtain ⟨hμ9, rfl⟩ := hq
      rw [hμ9]
      clear hμ9 μ9
      show Z 0 20 [(2, .int 2), (1, .int 0), (0, .ref 0)] [.long w2] μ
      refine z_rcs hc hH 2 (pc' := 22) (lv' := [(2, .int 2), (1, .int 0), (0, .ref 0)]) (st' := [.int (lg_cmp w2 0)]) (μ' := μ) (by rfl) ?_
      refine zq_if hc hH (by rfl) (tg := 28) (by rfl) (fun h3 => ?_) (fun h3 => ?_)
      · have h3 : (decide ((lg_cmp w2 0) = 0)) = true := decide_eq_true (cm_eq9.mp h3)
        exact absurd (Eq.trans (Eq.symm (hb2)) h3) (by decide)
      · have h3 : (decide ((lg_cmp w2 0) = 0)) = false := decide_eq_false (cn_eq.mp h3)
        refine z_rcs hc hH 8 (pc' := 11) (lv' := [(2, .int 3), (1, .int 1), (0, .ref 0)]) (st' := [.int 3, .ref 0]) (μ' := μ) (by rfl) ?_
        refine zq_call hc (z_cx_ok hH (by rfl)) (gc_at d' (by omega) μ 3 (by decide)) (by decide +kernel) (fun r9 μ9 hq => ?_)
        obtain ⟨hμ9, rfl⟩ := hq
        rw [hμ9]
        clear hμ9 μ9
        show Z 0 14 [(2, .int 3), (1, .int 1), (0, .ref 0)] [.ref 42] μ
        refine zq_gfr hc hH (by rfl) (ci := 1) (f := 0) (q := 43) (by rfl) (by decide +kernel) (by rfl) (by decide +kernel) ?_
        refine zq_call hc (z_cx_ok hH (by rfl)) (hw3 _ (TE_rf _) d' (by omega)) (by decide +kernel) (fun r9 μ9 hq => ?_)
        obtain ⟨hμ9, rfl⟩ := hq
        rw [hμ9]
        clear hμ9 μ9
        show Z 0 20 [(2, .int 3), (1, .int 1), (0, .ref 0)] [.long w3] μ
        refine z_rcs hc hH 2 (pc' := 22) (lv' := [(2, .int 3), (1, .int 1), (0, .ref 0)]) (st' := [.int (lg_cmp w3 0)]) (μ' := μ) (by rfl) ?_
        refine zq_if hc hH (by rfl) (tg := 28) (by rfl) (fun h4 => ?_) (fun h4 => ?_)
        · have h4 : (decide ((lg_cmp w3 0) = 0)) = true := decide_eq_true (cm_eq9.mp h4)
          refine z_rcs hc hH 7 (pc' := 36) (lv' := [(2, .int 4), (1, .int 1), (0, .ref 0)]) (st' := [.ref 0, .ref 0]) (μ' := μ) (by rfl) ?_
          refine zq_gfi hc hH (by rfl) (ci := 5) (f := 9) (by rfl) (by decide +kernel) (by rfl) ?_
          rw [hdl]
          refine zq_call hc (z_cx_ok hH (by rfl)) (gc_at4 d' (by omega) μ dl hdl4) (by decide +kernel) (fun r9 μ9 hq => ?_)
          obtain ⟨hμ9, rfl⟩ := hq
          rw [hμ9]
          clear hμ9 μ9
          show Z 0 42 [(2, .int 4), (1, .int 1), (0, .ref 0)] [.ref (18 + 8 * dl)] μ
          refine zq_gfr hc hH (by rfl) (ci := 1) (f := 0) (q := 19 + 8 * dl) (by rfl) (sj (P := fun i => okf 79 1 0 (18 + 8 * i)) hdl4 (by decide +kernel)) (by rfl) (sj (P := fun i => Nat.beq (z_gr (18 + 8 * i) 0) (19 + 8 * i)) hdl4 (by decide +kernel)) ?_
          refine zq_call hc (z_clv9 hH (by rfl) (by rfl) (by rfl) (by rfl) (sj (P := fun i => okr 79 2 (19 + 8 * i)) hdl4 (by decide +kernel)) (by rfl) (by rfl)) ((hwd _ (TE_rf _) d' (by omega))) (by decide +kernel) (fun r9 μ9 hq => ?_)
          obtain ⟨hμ9, rfl⟩ := hq
          rw [hμ9]
          clear hμ9 μ9
          show Z 0 48 [(2, .int 4), (1, .int 1), (0, .ref 0)] [.long wd] μ
          refine z_rcs hc hH 2 (pc' := 50) (lv' := [(2, .int 4), (1, .int 1), (0, .ref 0)]) (st' := [.int (lg_cmp wd 0)]) (μ' := μ) (by rfl) ?_
          have hJ5 : Z 0 58 [(2, .int 4), (1, .int 1), (0, .ref 0)] [.int (nB (!(decide ((lg_cmp wd 0) = 0))))] μ := by
            refine z_rcs hc hH 23 (pc' := 95) (lv' := [(5, .int 0), (4, .int 1000), (3, .int 3000), (2, .int (nB (!(decide ((lg_cmp wd 0) = 0))))), (1, .int 1), (0, .ref 0)]) (st' := [.int 0, .ref 0]) (μ' := μ) (by rfl) ?_
            refine zq_call hc (z_cx_ok hH (by rfl)) (gc_at d' (by omega) μ 0 (by decide)) (by decide +kernel) (fun r9 μ9 hq => ?_)
            obtain ⟨hμ9, rfl⟩ := hq
            rw [hμ9]
            clear hμ9 μ9
            show Z 0 98 [(5, .int 0), (4, .int 1000), (3, .int 3000), (2, .int (nB (!(decide ((lg_cmp wd 0) = 0))))), (1, .int 1), (0, .ref 0)] [.ref 18] μ
            refine z_rcs hc hH 1 (pc' := 99) (lv' := [(5, .int 0), (4, .int 1000), (3, .int 3000), (2, .int (nB (!(decide ((lg_cmp wd 0) = 0))))), (1, .int 1), (0, .ref 0)]) (st' := [.ref 18, .ref 18]) (μ' := μ) (by rfl) ?_
            refine zq_gfi hc hH (by rfl) (ci := 1) (f := 4) (by rfl) (by decide +kernel) (by rfl) ?_
            refine z_rcs hc hH 2 (pc' := 105) (lv' := [(5, .int 0), (4, .int 1000), (3, .int 3000), (2, .int (nB (!(decide ((lg_cmp wd 0) = 0))))), (1, .int 1), (0, .ref 0)]) (st' := [.int 0, .ref 0, .int (μ.1 18 4), .ref 18]) (μ' := μ) (by rfl) ?_
            refine zq_call hc (z_cx_ok hH (by rfl)) (gc_at d' (by omega) μ 0 (by decide)) (by decide +kernel) (fun r9 μ9 hq => ?_)
            obtain ⟨hμ9, rfl⟩ := hq
            rw [hμ9]
            clear hμ9 μ9
            show Z 0 108 [(5, .int 0), (4, .int 1000), (3, .int 3000), (2, .int (nB (!(decide ((lg_cmp wd 0) = 0))))), (1, .int 1), (0, .ref 0)] [.ref 18, .int (μ.1 18 4), .ref 18] μ
            refine zq_gfr hc hH (by rfl) (ci := 1) (f := 0) (q := 19) (by rfl) (by decide +kernel) (by rfl) (by decide +kernel) ?_
            refine zq_call hc (z_cx_ok hH (by rfl)) (hw0 _ (TE_rf _) d' (by omega)) (by decide +kernel) (fun r9 μ9 hq => ?_)
            obtain ⟨hμ9, rfl⟩ := hq
            rw [hμ9]
            clear hμ9 μ9
            show Z 0 114 [(5, .int 0), (4, .int 1000), (3, .int 3000), (2, .int (nB (!(decide ((lg_cmp wd 0) = 0))))), (1, .int 1), (0, .ref 0)] [.long w0, .int (μ.1 18 4), .ref 18] μ
            refine z_rcs hc hH 2 (pc' := 116) (lv' := [(5, .int 0), (4, .int 1000), (3, .int 3000), (2, .int (nB (!(decide ((lg_cmp wd 0) = 0))))), (1, .int 1), (0, .ref 0)]) (st' := [.int (lg_cmp w0 0), .int (μ.1 18 4), .ref 18]) (μ' := μ) (by rfl) ?_
            refine zq_if hc hH (by rfl) (tg := 123) (by rfl) (fun h6 => ?_) (fun h6 => ?_)
            · have h6 : (decide ((lg_cmp w0 0) = 0)) = true := decide_eq_true (cm_eq9.mp h6)
              refine z_rcs hc hH 3 (pc' := 127) (lv' := [(5, .int 0), (4, .int 1000), (3, .int 3000), (2, .int (nB (!(decide ((lg_cmp wd 0) = 0))))), (1, .int 1), (0, .ref 0)]) (st' := [.int ((μ.1 18 4) + (-1000)), .ref 18]) (μ' := μ) (by rfl) ?_
              refine zq_pfi hc hH (by rfl) (ci := 1) (f := 4) (by rfl) (by decide +kernel) (by rfl) ?_
              show Z 0 130 [(5, .int 0), (4, .int 1000), (3, .int 3000), (2, .int (nB (!(decide ((lg_cmp wd 0) = 0))))), (1, .int 1), (0, .ref 0)] [] (z_ui μ 18 4 ((μ.1 18 4) + (-1000)))
              refine z_rcs0 hc hH 7 (pc' := 95) (lv' := [(5, .int 1), (4, .int 1000), (3, .int 3000), (2, .int (nB (!(decide ((lg_cmp wd 0) = 0))))), (1, .int 1), (0, .ref 0)]) (st' := [.int 1, .ref 0]) (by rfl) ?_
              refine zq_call hc (z_cx_ok hH (by rfl)) (gc_at d' (by omega) (z_ui μ 18 4 ((μ.1 18 4) + (-1000))) 1 (by decide)) (by decide +kernel) (fun r9 μ9 hq => ?_)
              obtain ⟨hμ9, rfl⟩ := hq
              rw [hμ9]
              clear hμ9 μ9
              show Z 0 98 [(5, .int 1), (4, .int 1000), (3, .int 3000), (2, .int (nB (!(decide ((lg_cmp wd 0) = 0))))), (1, .int 1), (0, .ref 0)] [.ref 26] _
              refine z_rcs0 hc hH 1 (pc' := 99) (lv' := [(5, .int 1), (4, .int 1000), (3, .int 3000), (2, .int (nB (!(decide ((lg_cmp wd 0) = 0))))), (1, .int 1), (0, .ref 0)]) (st' := [.ref 26, .ref 26]) (by rfl) ?_
              refine zq_gfi hc hH (by rfl) (ci := 1) (f := 4) (by rfl) (by decide +kernel) (by rfl) ?_
              refine zV1 (Z := Z) (ui_o (by first | decide | omega)) ?_
              refine z_rcs0 hc hH 2 (pc' := 105) (lv' := [(5, .int 1), (4, .int 1000), (3, .int 3000), (2, .int (nB (!(decide ((lg_cmp wd 0) = 0))))), (1, .int 1), (0, .ref 0)]) (st' := [.int 1, .ref 0, .int (μ.1 26 4), .ref 26]) (by rfl) ?_
              refine zq_call hc (z_cx_ok hH (by rfl)) (gc_at d' (by omega) (z_ui μ 18 4 ((μ.1 18 4) + (-1000))) 1 (by decide)) (by decide +kernel) (fun r9 μ9 hq => ?_)
              obtain ⟨hμ9, rfl⟩ := hq
              rw [hμ9]
              clear hμ9 μ9
              show Z 0 108 [(5, .int 1), (4, .int 1000), (3, .int 3000), (2, .int (nB (!(decide ((lg_cmp wd 0) = 0))))), (1, .int 1), (0, .ref 0)] [.ref 26, .int (μ.1 26 4), .ref 26] _
              refine zq_gfr hc hH (by rfl) (ci := 1) (f := 0) (q := 27) (by rfl) (by decide +kernel) (by rfl) (by decide +kernel) ?_
              refine zq_call hc (z_cx_ok hH (by rfl)) (hw1 _ (TE_ui (TE_rf _) (by intro i a hi h1 h2; omega)) d' (by omega)) (by decide +kernel) (fun r9 μ9 hq => ?_)
              obtain ⟨hμ9, rfl⟩ := hq
              rw [hμ9]
              clear hμ9 μ9
              show Z 0 114 [(5, .int 1), (4, .int 1000), (3, .int 3000), (2, .int (nB (!(decide ((lg_cmp wd 0) = 0))))), (1, .int 1), (0, .ref 0)] [.long w1, .int (μ.1 26 4), .ref 26] _
              refine z_rcs0 hc hH 2 (pc' := 116) (lv' := [(5, .int 1), (4, .int 1000), (3, .int 3000), (2, .int (nB (!(decide ((lg_cmp wd 0) = 0))))), (1, .int 1), (0, .ref 0)]) (st' := [.int (lg_cmp w1 0), .int (μ.1 26 4), .ref 26]) (by rfl) ?_
              refine zq_if hc hH (by rfl) (tg := 123) (by rfl) (fun h7 => ?_) (fun h7 => ?_)
              · have h7 : (decide ((lg_cmp w1 0) = 0)) = true := decide_eq_true (cm_eq9.mp h7)
                refine z_rcs0 hc hH 3 (pc' := 127) (lv' := [(5, .int 1), (4, .int 1000), (3, .int 3000), (2, .int (nB (!(decide ((lg_cmp wd 0) = 0))))), (1, .int 1), (0, .ref 0)]) (st' := [.int ((μ.1 26 4) + (-1000)), .ref 26]) (by rfl) ?_
                refine zq_pfi hc hH (by rfl) (ci := 1) (f := 4) (by rfl) (by decide +kernel) (by rfl) ?_
                show Z 0 130 [(5, .int 1), (4, .int 1000), (3, .int 3000), (2, .int (nB (!(decide ((lg_cmp wd 0) = 0))))), (1, .int 1), (0, .ref 0)] [] (z_ui (z_ui μ 18 4 ((μ.1 18 4) + (-1000))) 26 4 ((μ.1 26 4) + (-1000)))
                refine z_rcs0 hc hH 7 (pc' := 95) (lv' := [(5, .int 2), (4, .int 1000), (3, .int 3000), (2, .int (nB (!(decide ((lg_cmp wd 0) = 0))))), (1, .int 1), (0, .ref 0)]) (st' := [.int 2, .ref 0]) (by rfl) ?_
                refine zq_call hc (z_cx_ok hH (by rfl)) (gc_at d' (by omega) (z_ui (z_ui μ 18 4 ((μ.1 18 4) + (-1000))) 26 4 ((μ.1 26 4) + (-1000))) 2 (by decide)) (by decide +kernel) (fun r9 μ9 hq => ?_)
                obtain ⟨hμ9, rfl⟩ := hq
                rw [hμ9]
                clear hμ9 μ9
                show Z 0 98 [(5, .int 2), (4, .int 1000), (3, .int 3000), (2, .int (nB (!(decide ((lg_cmp wd 0) = 0))))), (1, .int 1), (0, .ref 0)] [.ref 34] _
                refine z_rcs0 hc hH 1 (pc' := 99) (lv' := [(5, .int 2), (4, .int 1000), (3, .int 3000), (2, .int (nB (!(decide ((lg_cmp wd 0) = 0))))), (1, .int 1), (0, .ref 0)]) (st' := [.ref 34, .ref 34]) (by rfl) ?_
                refine zq_gfi hc hH (by rfl) (ci := 1) (f := 4) (by rfl) (by decide +kernel) (by rfl) ?_
                refine zV1 (Z := Z) (Eq.trans (ui_o (by first | decide | omega)) (ui_o (by first | decide | omega))) ?_
                refine z_rcs0 hc hH 2 (pc' := 105) (lv' := [(5, .int 2), (4, .int 1000), (3, .int 3000), (2, .int (nB (!(decide ((lg_cmp wd 0) = 0))))), (1, .int 1), (0, .ref 0)]) (st' := [.int 2, .ref 0, .int (μ.1 34 4), .ref 34]) (by rfl) ?_
                refine zq_call hc (z_cx_ok hH (by rfl)) (gc_at d' (by omega) (z_ui (z_ui μ 18 4 ((μ.1 18 4) + (-1000))) 26 4 ((μ.1 26 4) + (-1000))) 2 (by decide)) (by decide +kernel) (fun r9 μ9 hq => ?_)
                obtain ⟨hμ9, rfl⟩ := hq
                rw [hμ9]
                clear hμ9 μ9
                show Z 0 108 [(5, .int 2), (4, .int 1000), (3, .int 3000), (2, .int (nB (!(decide ((lg_cmp wd 0) = 0))))), (1, .int 1), (0, .ref 0)] [.ref 34, .int (μ.1 34 4), .ref 34] _
                refine zq_gfr hc hH (by rfl) (ci := 1) (f := 0) (q := 35) (by rfl) (by decide +kernel) (by rfl) (by decide +kernel) ?_
                refine zq_call hc (z_cx_ok hH (by rfl)) (hw2 _ (TE_ui (TE_ui (TE_rf _) (by intro i a hi h1 h2; omega)) (by intro i a hi h1 h2; omega)) d' (by omega)) (by decide +kernel) (fun r9 μ9 hq => ?_)
                obtain ⟨hμ9, rfl⟩ := hq
                rw [hμ9]
                clear hμ9 μ9
                show Z 0 114 [(5, .int 2), (4, .int 1000), (3, .int 3000), (2, .int (nB (!(decide ((lg_cmp wd 0) = 0))))), (1, .int 1), (0, .ref 0)] [.long w2, .int (μ.1 34 4), .ref 34] _
                refine z_rcs0 hc hH 2 (pc' := 116) (lv' := [(5, .int 2), (4, .int 1000), (3, .int 3000), (2, .int (nB (!(decide ((lg_cmp wd 0) = 0))))), (1, .int 1), (0, .ref 0)]) (st' := [.int (lg_cmp w2 0), .int (μ.1 34 4), .ref 34]) (by rfl) ?_
                refine zq_if hc hH (by rfl) (tg := 123) (by rfl) (fun h8 => ?_) (fun h8 => ?_)
                · have h8 : (decide ((lg_cmp w2 0) = 0)) = true := decide_eq_true (cm_eq9.mp h8)
                  exact absurd (Eq.trans (Eq.symm (hb2)) h8) (by decide)
                · have h8 : (decide ((lg_cmp w2 0) = 0)) = false := decide_eq_false (cn_eq.mp h8)
                  refine z_rcs0 hc hH 3 (pc' := 127) (lv' := [(5, .int 2), (4, .int 1000), (3, .int 3000), (2, .int (nB (!(decide ((lg_cmp wd 0) = 0))))), (1, .int 1), (0, .ref 0)]) (st' := [.int ((μ.1 34 4) + 3000), .ref 34]) (by rfl) ?_
                  refine zq_pfi hc hH (by rfl) (ci := 1) (f := 4) (by rfl) (by decide +kernel) (by rfl) ?_
                  show Z 0 130 [(5, .int 2), (4, .int 1000), (3, .int 3000), (2, .int (nB (!(decide ((lg_cmp wd 0) = 0))))), (1, .int 1), (0, .ref 0)] [] (z_ui (z_ui (z_ui μ 18 4 ((μ.1 18 4) + (-1000))) 26 4 ((μ.1 26 4) + (-1000))) 34 4 ((μ.1 34 4) + 3000))
                  refine z_rcs0 hc hH 7 (pc' := 95) (lv' := [(5, .int 3), (4, .int 1000), (3, .int 3000), (2, .int (nB (!(decide ((lg_cmp wd 0) = 0))))), (1, .int 1), (0, .ref 0)]) (st' := [.int 3, .ref 0]) (by rfl) ?_
                  refine zq_call hc (z_cx_ok hH (by rfl)) (gc_at d' (by omega) (z_ui (z_ui (z_ui μ 18 4 ((μ.1 18 4) + (-1000))) 26 4 ((μ.1 26 4) + (-1000))) 34 4 ((μ.1 34 4) + 3000)) 3 (by decide)) (by decide +kernel) (fun r9 μ9 hq => ?_)
                  obtain ⟨hμ9, rfl⟩ := hq
                  rw [hμ9]
                  clear hμ9 μ9
                  show Z 0 98 [(5, .int 3), (4, .int 1000), (3, .int 3000), (2, .int (nB (!(decide ((lg_cmp wd 0) = 0))))), (1, .int 1), (0, .ref 0)] [.ref 42] _
                  refine z_rcs0 hc hH 1 (pc' := 99) (lv' := [(5, .int 3), (4, .int 1000), (3, .int 3000), (2, .int (nB (!(decide ((lg_cmp wd 0) = 0))))), (1, .int 1), (0, .ref 0)]) (st' := [.ref 42, .ref 42]) (by rfl) ?_
                  refine zq_gfi hc hH (by rfl) (ci := 1) (f := 4) (by rfl) (by decide +kernel) (by rfl) ?_
                  refine zV1 (Z := Z) (Eq.trans (ui_o (by first | decide | omega)) (Eq.trans (ui_o (by first | decide | omega)) (ui_o (by first | decide | omega)))) ?_
                  refine z_rcs0 hc hH 2 (pc' := 105) (lv' := [(5, .int 3), (4, .int 1000), (3, .int 3000), (2, .int (nB (!(decide ((lg_cmp wd 0) = 0))))), (1, .int 1), (0, .ref 0)]) (st' := [.int 3, .ref 0, .int (μ.1 42 4), .ref 42]) (by rfl) ?_
                  refine zq_call hc (z_cx_ok hH (by rfl)) (gc_at d' (by omega) (z_ui (z_ui (z_ui μ 18 4 ((μ.1 18 4) + (-1000))) 26 4 ((μ.1 26 4) + (-1000))) 34 4 ((μ.1 34 4) + 3000)) 3 (by decide)) (by decide +kernel) (fun r9 μ9 hq => ?_)
                  obtain ⟨hμ9, rfl⟩ := hq
                  rw [hμ9]
                  clear hμ9 μ9
                  show Z 0 108 [(5, .int 3), (4, .int 1000), (3, .int 3000), (2, .int (nB (!(decide ((lg_cmp wd 0) = 0))))), (1, .int 1), (0, .ref 0)] [.ref 42, .int (μ.1 42 4), .ref 42] _
                  refine zq_gfr hc hH (by rfl) (ci := 1) (f := 0) (q := 43) (by rfl) (by decide +kernel) (by rfl) (by decide +kernel) ?_
                  refine zq_call hc (z_cx_ok hH (by rfl)) (hw3 _ (TE_ui (TE_ui (TE_ui (TE_rf _) (by intro i a hi h1 h2; omega)) (by intro i a hi h1 h2; omega)) (by intro i a hi h1 h2; omega)) d' (by omega)) (by decide +kernel) (fun r9 μ9 hq => ?_)
                  obtain ⟨hμ9, rfl⟩ := hq
                  rw [hμ9]
                  clear hμ9 μ9
                  show Z 0 114 [(5, .int 3), (4, .int 1000), (3, .int 3000), (2, .int (nB (!(decide ((lg_cmp wd 0) = 0))))), (1, .int 1), (0, .ref 0)] [.long w3, .int (μ.1 42 4), .ref 42] _
                  refine z_rcs0 hc hH 2 (pc' := 116) (lv' := [(5, .int 3), (4, .int 1000), (3, .int 3000), (2, .int (nB (!(decide ((lg_cmp wd 0) = 0))))), (1, .int 1), (0, .ref 0)]) (st' := [.int (lg_cmp w3 0), .int (μ.1 42 4), .ref 42]) (by rfl) ?_
                  refine zq_if hc hH (by rfl) (tg := 123) (by rfl) (fun h9 => ?_) (fun h9 => ?_)
                  · have h9 : (decide ((lg_cmp w3 0) = 0)) = true := decide_eq_true (cm_eq9.mp h9)
                    refine z_rcs0 hc hH 3 (pc' := 127) (lv' := [(5, .int 3), (4, .int 1000), (3, .int 3000), (2, .int (nB (!(decide ((lg_cmp wd 0) = 0))))), (1, .int 1), (0, .ref 0)]) (st' := [.int ((μ.1 42 4) + (-1000)), .ref 42]) (by rfl) ?_
                    refine zq_pfi hc hH (by rfl) (ci := 1) (f := 4) (by rfl) (by decide +kernel) (by rfl) ?_
                    show Z 0 130 [(5, .int 3), (4, .int 1000), (3, .int 3000), (2, .int (nB (!(decide ((lg_cmp wd 0) = 0))))), (1, .int 1), (0, .ref 0)] [] (z_ui (z_ui (z_ui (z_ui μ 18 4 ((μ.1 18 4) + (-1000))) 26 4 ((μ.1 26 4) + (-1000))) 34 4 ((μ.1 34 4) + 3000)) 42 4 ((μ.1 42 4) + (-1000)))
                    refine z_rcs0 hc hH 8 (pc' := 139) (lv' := [(5, .int 4), (4, .int 1000), (3, .int 3000), (2, .int (nB (!(decide ((lg_cmp wd 0) = 0))))), (1, .int 1), (0, .ref 0)]) (st' := [.int 0, .int (nB (!(decide ((lg_cmp wd 0) = 0)))), .ref 0]) (by rfl) ?_
                    refine zq_call hc (z_cx_ok hH (by rfl)) (gc_endHandB d' (by omega) (z_ui (z_ui (z_ui (z_ui μ 18 4 ((μ.1 18 4) + (-1000))) 26 4 ((μ.1 26 4) + (-1000))) 34 4 ((μ.1 34 4) + 3000)) 42 4 ((μ.1 42 4) + (-1000))) (!(decide ((lg_cmp wd 0) = 0))) false dl e (by rw [ui_o (by first | decide | omega), ui_o (by first | decide | omega), ui_o (by first | decide | omega), ui_o (by first | decide | omega)]; exact hdl) hdl4 he) (by decide +kernel) (fun r9 μ9 hq => ?_)
                    obtain ⟨rfl, rfl⟩ := hq
                    show Z 0 142 [(5, .int 4), (4, .int 1000), (3, .int 3000), (2, .int (nB (!(decide ((lg_cmp wd 0) = 0))))), (1, .int 1), (0, .ref 0)] [] (eHB (z_ui (z_ui (z_ui (z_ui μ 18 4 ((μ.1 18 4) + (-1000))) 26 4 ((μ.1 26 4) + (-1000))) 34 4 ((μ.1 34 4) + 3000)) 42 4 ((μ.1 42 4) + (-1000))) (!(decide ((lg_cmp wd 0) = 0))) false (xBk (z_ui (z_ui (z_ui (z_ui μ 18 4 ((μ.1 18 4) + (-1000))) 26 4 ((μ.1 26 4) + (-1000))) 34 4 ((μ.1 34 4) + 3000)) 42 4 ((μ.1 42 4) + (-1000)))) dl e (rcM (z_ui (z_ui (z_ui (z_ui μ 18 4 ((μ.1 18 4) + (-1000))) 26 4 ((μ.1 26 4) + (-1000))) 34 4 ((μ.1 34 4) + 3000)) 42 4 ((μ.1 42 4) + (-1000)))))
                    exact hr 0 142 _ _ _ none (by decide +kernel) (by rfl) (⟨rfl, rfl⟩)
                  · have h9 : (decide ((lg_cmp w3 0) = 0)) = false := decide_eq_false (cn_eq.mp h9)
                    exact absurd (Eq.trans (Eq.symm (hb3)) h9) (by decide)
              · have h7 : (decide ((lg_cmp w1 0) = 0)) = false := decide_eq_false (cn_eq.mp h7)
                exact absurd (Eq.trans (Eq.symm (hb1)) h7) (by decide)
            · have h6 : (decide ((lg_cmp w0 0) = 0)) = false := decide_eq_false (cn_eq.mp h6)
              exact absurd (Eq.trans (Eq.symm (hb0)) h6) (by decide)
          refine zq_if hc hH (by rfl) (tg := 57) (by rfl) (fun h10 => ?_) (fun h10 => ?_)
          · have h10 : (decide ((lg_cmp wd 0) = 0)) = true := decide_eq_true (cm_eq9.mp h10)
            refine z_rcs hc hH 1 (pc' := 58) (lv' := [(2, .int 4), (1, .int 1), (0, .ref 0)]) (st' := [.int 0]) (μ' := μ) (by rfl) ?_
            exact zJ hJ5 rfl (by first | with_reducible rfl | (simp only [h10, lb_f, Int64.or_zero, Int32.add_zero, nB_t, nB_f, Bool.not_true, Bool.not_false, Bool.and_true, Bool.true_and, Bool.false_and, Bool.and_false, Bool.or_true, Bool.true_or, Bool.false_or, Bool.or_false, cond_true, cond_false]; done) | rfl) rfl
          · have h10 : (decide ((lg_cmp wd 0) = 0)) = false := decide_eq_false (cn_eq.mp h10)
            refine z_rcs hc hH 2 (pc' := 58) (lv' := [(2, .int 4), (1, .int 1), (0, .ref 0)]) (st' := [.int 1]) (μ' := μ) (by rfl) ?_
            exact zJ hJ5 rfl (by first | with_reducible rfl | (simp only [h10, lb_f, Int64.or_zero, Int32.add_zero, nB_t, nB_f, Bool.not_true, Bool.not_false, Bool.and_true, Bool.true_and, Bool.false_and, Bool.and_false, Bool.or_true, Bool.true_or, Bool.false_or, Bool.or_false, cond_true, cond_false]; done) | rfl) rfl
        · have h4 : (decide ((lg_cmp w3 0) = 0)) = false := decide_eq_false (cn_eq.mp h4)
          exact absurd (Eq.trans (Eq.symm (hb3)) h4) (by decide)
    · have h2 : (decide ((lg_cmp w1 0) = 0)) = false := decide_eq_false (cn_eq.mp h2)
      exact absurd (Eq.trans (Eq.symm (hb1)) h2) (by decide)
  · have h1 : (decide ((lg_cmp w0 0) = 0)) = false := decide_eq_false (cn_eq.mp h1)
    exact absurd (Eq.trans (Eq.symm (hb0)) h1) (by decide)
theorem gc_endUnwon0011 (d : Nat) (hd : 8 ≤ d) (μ : zM) (dl e : Nat) (hdl : μ.1 0 9 = nI dl) (hdl4 : dl < 4) (he : (dl + 1) % 4 = e) (w0 : Int64) (hw0 : ∀ μ1, TE μ μ1 → ∀ d, 7 ≤ d → z_C d mi_X3_waiting [.ref 19] μ1 (zR μ1 (.long w0))) (w1 : Int64) (hw1 : ∀ μ1, TE μ μ1 → ∀ d, 7 ≤ d → z_C d mi_X3_waiting [.ref 27] μ1 (zR μ1 (.long w1))) (w2 : Int64) (hw2 : ∀ μ1, TE μ μ1 → ∀ d, 7 ≤ d → z_C d mi_X3_waiting [.ref 35] μ1 (zR μ1 (.long w2))) (w3 : Int64) (hw3 : ∀ μ1, TE μ μ1 → ∀ d, 7 ≤ d → z_C d mi_X3_waiting [.ref 43] μ1 (zR μ1 (.long w3))) (wd : Int64) (hwd : ∀ μ1, TE μ μ1 → ∀ d, 7 ≤ d → z_C d mi_X3_waiting [.ref (19 + 8 * dl)] μ1 (zR μ1 (.long wd))) (hb0 : decide (lg_cmp w0 0 = 0) = true) (hb1 : decide (lg_cmp w1 0 = 0) = true) (hb2 : decide (lg_cmp w2 0 = 0) = false) (hb3 : decide (lg_cmp w3 0 = 0) = false) : z_C d mi_X6_endUnwon [.ref 0] μ (fun r μ' => r = none ∧ μ' = eHB (z_ui (z_ui (z_ui (z_ui μ 18 4 ((μ.1 18 4) + (-1500))) 26 4 ((μ.1 26 4) + (-1500))) 34 4 ((μ.1 34 4) + 1500)) 42 4 ((μ.1 42 4) + 1500)) (!(decide ((lg_cmp wd 0) = 0))) false (xBk (z_ui (z_ui (z_ui (z_ui μ 18 4 ((μ.1 18 4) + (-1500))) 26 4 ((μ.1 26 4) + (-1500))) 34 4 ((μ.1 34 4) + 1500)) 42 4 ((μ.1 42 4) + 1500))) dl e (rcM (z_ui (z_ui (z_ui (z_ui μ 18 4 ((μ.1 18 4) + (-1500))) 26 4 ((μ.1 26 4) + (-1500))) 34 4 ((μ.1 34 4) + 1500)) 42 4 ((μ.1 42 4) + 1500)))) := by
  refine z_C_in (by decide) (by omega) (fun d' Z ed hc hr => ?_)
  have hH : zH mi_X6_endUnwon zt_X6_endUnwon 79 6 6 := hh_X6_endUnwon
  refine z_rcs hc hH 9 (pc' := 11) (lv' := [(2, .int 0), (1, .int 0), (0, .ref 0)]) (st' := [.int 0, .ref 0]) (μ' := μ) (by rfl) ?_
  refine zq_call hc (z_cx_ok hH (by rfl)) (gc_at d' (by omega) μ 0 (by decide)) (by decide +kernel) (fun r9 μ9 hq => ?_)
  obtain ⟨hμ9, rfl⟩ := hq
  rw [hμ9]
  clear hμ9 μ9
  show Z 0 14 [(2, .int 0), (1, .int 0), (0, .ref 0)] [.ref 18] μ
  refine zq_gfr hc hH (by rfl) (ci := 1) (f := 0) (q := 19) (by rfl) (by decide +kernel) (by rfl) (by decide +kernel) ?_
  refine zq_call hc (z_cx_ok hH (by rfl)) (hw0 _ (TE_rf _) d' (by omega)) (by decide +kernel) (fun r9 μ9 hq => ?_)
  obtain ⟨hμ9, rfl⟩ := hq
  rw [hμ9]
  clear hμ9 μ9
  show Z 0 20 [(2, .int 0), (1, .int 0), (0, .ref 0)] [.long w0] μ
  refine z_rcs hc hH 2 (pc' := 22) (lv' := [(2, .int 0), (1, .int 0), (0, .ref 0)]) (st' := [.int (lg_cmp w0 0)]) (μ' := μ) (by rfl) ?_
  refine zq_if hc hH (by rfl) (tg := 28) (by rfl) (fun h1 => ?_) (fun h1 => ?_)
  · have h1 : (decide ((lg_cmp w0 0) = 0)) = true := decide_eq_true (cm_eq9.mp h1)
    refine z_rcs hc hH 7 (pc' := 11) (lv' := [(2, .int 1), (1, .int 0), (0, .ref 0)]) (st' := [.int 1, .ref 0]) (μ' := μ) (by rfl) ?_
    refine zq_call hc (z_cx_ok hH (by rfl)) (gc_at d' (by omega) μ 1 (by decide)) (by decide +kernel) (fun r9 μ9 hq => ?_)
    obtain ⟨hμ9, rfl⟩ := hq
    rw [hμ9]
    clear hμ9 μ9
    show Z 0 14 [(2, .int 1), (1, .int 0), (0, .ref 0)] [.ref 26] μ
    refine zq_gfr hc hH (by rfl) (ci := 1) (f := 0) (q := 27) (by rfl) (by decide +kernel) (by rfl) (by decide +kernel) ?_
    refine zq_call hc (z_cx_ok hH (by rfl)) (hw1 _ (TE_rf _) d' (by omega)) (by decide +kernel) (fun r9 μ9 hq => ?_)
    obtain ⟨hμ9, rfl⟩ := hq
    rw [hμ9]
    clear hμ9 μ9
    show Z 0 20 [(2, .int 1), (1, .int 0), (0, .ref 0)] [.long w1] μ
    refine z_rcs hc hH 2 (pc' := 22) (lv' := [(2, .int 1), (1, .int 0), (0, .ref 0)]) (st' := [.int (lg_cmp w1 0)]) (μ' := μ) (by rfl) ?_
    refine zq_if hc hH (by rfl) (tg := 28) (by rfl) (fun h2 => ?_) (fun h2 => ?_)
    · have h2 : (decide ((lg_cmp w1 0) = 0)) = true := decide_eq_true (cm_eq9.mp h2)
      refine z_rcs hc hH 7 (pc' := 11) (lv' := [(2, .int 2), (1, .int 0), (0, .ref 0)]) (st' := [.int 2, .ref 0]) (μ' := μ) (by rfl) ?_
      refine zq_call hc (z_cx_ok hH (by rfl)) (gc_at d' (by omega) μ 2 (by decide)) (by decide +kernel) (fun r9 μ9 hq => ?_)
      obtain ⟨hμ9, rfl⟩ := hq
      rw [hμ9]
      clear hμ9 μ9
      show Z 0 14 [(2, .int 2), (1, .int 0), (0, .ref 0)] [.ref 34] μ
      refine zq_gfr hc hH (by rfl) (ci := 1) (f := 0) (q := 35) (by rfl) (by decide +kernel) (by rfl) (by decide +kernel) ?_
      refine zq_call hc (z_cx_ok hH (by rfl)) (hw2 _ (TE_rf _) d' (by omega)) (by decide +kernel) (fun r9 μ9 hq => ?_)
      obtain ⟨hμ9, rfl⟩ := hq
      rw [hμ9]
      clear hμ9 μ9
      show Z 0 20 [(2, .int 2), (1, .int 0), (0, .ref 0)] [.long w2] μ
      refine z_rcs hc hH 2 (pc' := 22) (lv' := [(2, .int 2), (1, .int 0), (0, .ref 0)]) (st' := [.int (lg_cmp w2 0)]) (μ' := μ) (by rfl) ?_
      refine zq_if hc hH (by rfl) (tg := 28) (by rfl) (fun h3 => ?_) (fun h3 => ?_)
      · have h3 : (decide ((lg_cmp w2 0) = 0)) = true := decide_eq_true (cm_eq9.mp h3)
        exact absurd (Eq.trans (Eq.symm (hb2)) h3) (by decide)
      · have h3 : (decide ((lg_cmp w2 0) = 0)) = false := decide_eq_false (cn_eq.mp h3)
        refine z_rcs hc hH 8 (pc' := 11) (lv' := [(2, .int 3), (1, .int 1), (0, .ref 0)]) (st' := [.int 3, .ref 0]) (μ' := μ) (by rfl) ?_
        refine zq_call hc (z_cx_ok hH (by rfl)) (gc_at d' (by omega) μ 3 (by decide)) (by decide +kernel) (fun r9 μ9 hq => ?_)
        obtain ⟨hμ9, rfl⟩ := hq
        rw [hμ9]
        clear hμ9 μ9
        show Z 0 14 [(2, .int 3), (1, .int 1), (0, .ref 0)] [.ref 42] μ
        refine zq_gfr hc hH (by rfl) (ci := 1) (f := 0) (q := 43) (by rfl) (by decide +kernel) (by rfl) (by decide +kernel) ?_
        refine zq_call hc (z_cx_ok hH (by rfl)) (hw3 _ (TE_rf _) d' (by omega)) (by decide +kernel) (fun r9 μ9 hq => ?_)
        obtain ⟨hμ9, rfl⟩ := hq
        rw [hμ9]
        clear hμ9 μ9
        show Z 0 20 [(2, .int 3), (1, .int 1), (0, .ref 0)] [.long w3] μ
        refine z_rcs hc hH 2 (pc' := 22) (lv' := [(2, .int 3), (1, .int 1), (0, .ref 0)]) (st' := [.int (lg_cmp w3 0)]) (μ' := μ) (by rfl) ?_
        refine zq_if hc hH (by rfl) (tg := 28) (by rfl) (fun h4 => ?_) (fun h4 => ?_)
        · have h4 : (decide ((lg_cmp w3 0) = 0)) = true := decide_eq_true (cm_eq9.mp h4)
          exact absurd (Eq.trans (Eq.symm (hb3)) h4) (by decide)
        · have h4 : (decide ((lg_cmp w3 0) = 0)) = false := decide_eq_false (cn_eq.mp h4)
          refine z_rcs hc hH 8 (pc' := 36) (lv' := [(2, .int 4), (1, .int 2), (0, .ref 0)]) (st' := [.ref 0, .ref 0]) (μ' := μ) (by rfl) ?_
          refine zq_gfi hc hH (by rfl) (ci := 5) (f := 9) (by rfl) (by decide +kernel) (by rfl) ?_
          rw [hdl]
          refine zq_call hc (z_cx_ok hH (by rfl)) (gc_at4 d' (by omega) μ dl hdl4) (by decide +kernel) (fun r9 μ9 hq => ?_)
          obtain ⟨hμ9, rfl⟩ := hq
          rw [hμ9]
          clear hμ9 μ9
          show Z 0 42 [(2, .int 4), (1, .int 2), (0, .ref 0)] [.ref (18 + 8 * dl)] μ
          refine zq_gfr hc hH (by rfl) (ci := 1) (f := 0) (q := 19 + 8 * dl) (by rfl) (sj (P := fun i => okf 79 1 0 (18 + 8 * i)) hdl4 (by decide +kernel)) (by rfl) (sj (P := fun i => Nat.beq (z_gr (18 + 8 * i) 0) (19 + 8 * i)) hdl4 (by decide +kernel)) ?_
          refine zq_call hc (z_clv9 hH (by rfl) (by rfl) (by rfl) (by rfl) (sj (P := fun i => okr 79 2 (19 + 8 * i)) hdl4 (by decide +kernel)) (by rfl) (by rfl)) ((hwd _ (TE_rf _) d' (by omega))) (by decide +kernel) (fun r9 μ9 hq => ?_)
          obtain ⟨hμ9, rfl⟩ := hq
          rw [hμ9]
          clear hμ9 μ9
          show Z 0 48 [(2, .int 4), (1, .int 2), (0, .ref 0)] [.long wd] μ
          refine z_rcs hc hH 2 (pc' := 50) (lv' := [(2, .int 4), (1, .int 2), (0, .ref 0)]) (st' := [.int (lg_cmp wd 0)]) (μ' := μ) (by rfl) ?_
          have hJ5 : Z 0 58 [(2, .int 4), (1, .int 2), (0, .ref 0)] [.int (nB (!(decide ((lg_cmp wd 0) = 0))))] μ := by
            refine z_rcs hc hH 23 (pc' := 95) (lv' := [(5, .int 0), (4, .int 1500), (3, .int 1500), (2, .int (nB (!(decide ((lg_cmp wd 0) = 0))))), (1, .int 2), (0, .ref 0)]) (st' := [.int 0, .ref 0]) (μ' := μ) (by rfl) ?_
            refine zq_call hc (z_cx_ok hH (by rfl)) (gc_at d' (by omega) μ 0 (by decide)) (by decide +kernel) (fun r9 μ9 hq => ?_)
            obtain ⟨hμ9, rfl⟩ := hq
            rw [hμ9]
            clear hμ9 μ9
            show Z 0 98 [(5, .int 0), (4, .int 1500), (3, .int 1500), (2, .int (nB (!(decide ((lg_cmp wd 0) = 0))))), (1, .int 2), (0, .ref 0)] [.ref 18] μ
            refine z_rcs hc hH 1 (pc' := 99) (lv' := [(5, .int 0), (4, .int 1500), (3, .int 1500), (2, .int (nB (!(decide ((lg_cmp wd 0) = 0))))), (1, .int 2), (0, .ref 0)]) (st' := [.ref 18, .ref 18]) (μ' := μ) (by rfl) ?_
            refine zq_gfi hc hH (by rfl) (ci := 1) (f := 4) (by rfl) (by decide +kernel) (by rfl) ?_
            refine z_rcs hc hH 2 (pc' := 105) (lv' := [(5, .int 0), (4, .int 1500), (3, .int 1500), (2, .int (nB (!(decide ((lg_cmp wd 0) = 0))))), (1, .int 2), (0, .ref 0)]) (st' := [.int 0, .ref 0, .int (μ.1 18 4), .ref 18]) (μ' := μ) (by rfl) ?_
            refine zq_call hc (z_cx_ok hH (by rfl)) (gc_at d' (by omega) μ 0 (by decide)) (by decide +kernel) (fun r9 μ9 hq => ?_)
            obtain ⟨hμ9, rfl⟩ := hq
            rw [hμ9]
            clear hμ9 μ9
            show Z 0 108 [(5, .int 0), (4, .int 1500), (3, .int 1500), (2, .int (nB (!(decide ((lg_cmp wd 0) = 0))))), (1, .int 2), (0, .ref 0)] [.ref 18, .int (μ.1 18 4), .ref 18] μ
            refine zq_gfr hc hH (by rfl) (ci := 1) (f := 0) (q := 19) (by rfl) (by decide +kernel) (by rfl) (by decide +kernel) ?_
            refine zq_call hc (z_cx_ok hH (by rfl)) (hw0 _ (TE_rf _) d' (by omega)) (by decide +kernel) (fun r9 μ9 hq => ?_)
            obtain ⟨hμ9, rfl⟩ := hq
            rw [hμ9]
            clear hμ9 μ9
            show Z 0 114 [(5, .int 0), (4, .int 1500), (3, .int 1500), (2, .int (nB (!(decide ((lg_cmp wd 0) = 0))))), (1, .int 2), (0, .ref 0)] [.long w0, .int (μ.1 18 4), .ref 18] μ
            refine z_rcs hc hH 2 (pc' := 116) (lv' := [(5, .int 0), (4, .int 1500), (3, .int 1500), (2, .int (nB (!(decide ((lg_cmp wd 0) = 0))))), (1, .int 2), (0, .ref 0)]) (st' := [.int (lg_cmp w0 0), .int (μ.1 18 4), .ref 18]) (μ' := μ) (by rfl) ?_
            refine zq_if hc hH (by rfl) (tg := 123) (by rfl) (fun h6 => ?_) (fun h6 => ?_)
            · have h6 : (decide ((lg_cmp w0 0) = 0)) = true := decide_eq_true (cm_eq9.mp h6)
              refine z_rcs hc hH 3 (pc' := 127) (lv' := [(5, .int 0), (4, .int 1500), (3, .int 1500), (2, .int (nB (!(decide ((lg_cmp wd 0) = 0))))), (1, .int 2), (0, .ref 0)]) (st' := [.int ((μ.1 18 4) + (-1500)), .ref 18]) (μ' := μ) (by rfl) ?_
              refine zq_pfi hc hH (by rfl) (ci := 1) (f := 4) (by rfl) (by decide +kernel) (by rfl) ?_
              show Z 0 130 [(5, .int 0), (4, .int 1500), (3, .int 1500), (2, .int (nB (!(decide ((lg_cmp wd 0) = 0))))), (1, .int 2), (0, .ref 0)] [] (z_ui μ 18 4 ((μ.1 18 4) + (-1500)))
              refine z_rcs0 hc hH 7 (pc' := 95) (lv' := [(5, .int 1), (4, .int 1500), (3, .int 1500), (2, .int (nB (!(decide ((lg_cmp wd 0) = 0))))), (1, .int 2), (0, .ref 0)]) (st' := [.int 1, .ref 0]) (by rfl) ?_
              refine zq_call hc (z_cx_ok hH (by rfl)) (gc_at d' (by omega) (z_ui μ 18 4 ((μ.1 18 4) + (-1500))) 1 (by decide)) (by decide +kernel) (fun r9 μ9 hq => ?_)
              obtain ⟨hμ9, rfl⟩ := hq
              rw [hμ9]
              clear hμ9 μ9
              show Z 0 98 [(5, .int 1), (4, .int 1500), (3, .int 1500), (2, .int (nB (!(decide ((lg_cmp wd 0) = 0))))), (1, .int 2), (0, .ref 0)] [.ref 26] _
              refine z_rcs0 hc hH 1 (pc' := 99) (lv' := [(5, .int 1), (4, .int 1500), (3, .int 1500), (2, .int (nB (!(decide ((lg_cmp wd 0) = 0))))), (1, .int 2), (0, .ref 0)]) (st' := [.ref 26, .ref 26]) (by rfl) ?_
              refine zq_gfi hc hH (by rfl) (ci := 1) (f := 4) (by rfl) (by decide +kernel) (by rfl) ?_
              refine zV1 (Z := Z) (ui_o (by first | decide | omega)) ?_
              refine z_rcs0 hc hH 2 (pc' := 105) (lv' := [(5, .int 1), (4, .int 1500), (3, .int 1500), (2, .int (nB (!(decide ((lg_cmp wd 0) = 0))))), (1, .int 2), (0, .ref 0)]) (st' := [.int 1, .ref 0, .int (μ.1 26 4), .ref 26]) (by rfl) ?_
              refine zq_call hc (z_cx_ok hH (by rfl)) (gc_at d' (by omega) (z_ui μ 18 4 ((μ.1 18 4) + (-1500))) 1 (by decide)) (by decide +kernel) (fun r9 μ9 hq => ?_)
              obtain ⟨hμ9, rfl⟩ := hq
              rw [hμ9]
              clear hμ9 μ9
              show Z 0 108 [(5, .int 1), (4, .int 1500), (3, .int 1500), (2, .int (nB (!(decide ((lg_cmp wd 0) = 0))))), (1, .int 2), (0, .ref 0)] [.ref 26, .int (μ.1 26 4), .ref 26] _
              refine zq_gfr hc hH (by rfl) (ci := 1) (f := 0) (q := 27) (by rfl) (by decide +kernel) (by rfl) (by decide +kernel) ?_
              refine zq_call hc (z_cx_ok hH (by rfl)) (hw1 _ (TE_ui (TE_rf _) (by intro i a hi h1 h2; omega)) d' (by omega)) (by decide +kernel) (fun r9 μ9 hq => ?_)
              obtain ⟨hμ9, rfl⟩ := hq
              rw [hμ9]
              clear hμ9 μ9
              show Z 0 114 [(5, .int 1), (4, .int 1500), (3, .int 1500), (2, .int (nB (!(decide ((lg_cmp wd 0) = 0))))), (1, .int 2), (0, .ref 0)] [.long w1, .int (μ.1 26 4), .ref 26] _
              refine z_rcs0 hc hH 2 (pc' := 116) (lv' := [(5, .int 1), (4, .int 1500), (3, .int 1500), (2, .int (nB (!(decide ((lg_cmp wd 0) = 0))))), (1, .int 2), (0, .ref 0)]) (st' := [.int (lg_cmp w1 0), .int (μ.1 26 4), .ref 26]) (by rfl) ?_
              refine zq_if hc hH (by rfl) (tg := 123) (by rfl) (fun h7 => ?_) (fun h7 => ?_)
              · have h7 : (decide ((lg_cmp w1 0) = 0)) = true := decide_eq_true (cm_eq9.mp h7)
                refine z_rcs0 hc hH 3 (pc' := 127) (lv' := [(5, .int 1), (4, .int 1500), (3, .int 1500), (2, .int (nB (!(decide ((lg_cmp wd 0) = 0))))), (1, .int 2), (0, .ref 0)]) (st' := [.int ((μ.1 26 4) + (-1500)), .ref 26]) (by rfl) ?_
                refine zq_pfi hc hH (by rfl) (ci := 1) (f := 4) (by rfl) (by decide +kernel) (by rfl) ?_
                show Z 0 130 [(5, .int 1), (4, .int 1500), (3, .int 1500), (2, .int (nB (!(decide ((lg_cmp wd 0) = 0))))), (1, .int 2), (0, .ref 0)] [] (z_ui (z_ui μ 18 4 ((μ.1 18 4) + (-1500))) 26 4 ((μ.1 26 4) + (-1500)))
                refine z_rcs0 hc hH 7 (pc' := 95) (lv' := [(5, .int 2), (4, .int 1500), (3, .int 1500), (2, .int (nB (!(decide ((lg_cmp wd 0) = 0))))), (1, .int 2), (0, .ref 0)]) (st' := [.int 2, .ref 0]) (by rfl) ?_
                refine zq_call hc (z_cx_ok hH (by rfl)) (gc_at d' (by omega) (z_ui (z_ui μ 18 4 ((μ.1 18 4) + (-1500))) 26 4 ((μ.1 26 4) + (-1500))) 2 (by decide)) (by decide +kernel) (fun r9 μ9 hq => ?_)
                obtain ⟨hμ9, rfl⟩ := hq
                rw [hμ9]
                clear hμ9 μ9
                show Z 0 98 [(5, .int 2), (4, .int 1500), (3, .int 1500), (2, .int (nB (!(decide ((lg_cmp wd 0) = 0))))), (1, .int 2), (0, .ref 0)] [.ref 34] _
                refine z_rcs0 hc hH 1 (pc' := 99) (lv' := [(5, .int 2), (4, .int 1500), (3, .int 1500), (2, .int (nB (!(decide ((lg_cmp wd 0) = 0))))), (1, .int 2), (0, .ref 0)]) (st' := [.ref 34, .ref 34]) (by rfl) ?_
                refine zq_gfi hc hH (by rfl) (ci := 1) (f := 4) (by rfl) (by decide +kernel) (by rfl) ?_
                refine zV1 (Z := Z) (Eq.trans (ui_o (by first | decide | omega)) (ui_o (by first | decide | omega))) ?_
                refine z_rcs0 hc hH 2 (pc' := 105) (lv' := [(5, .int 2), (4, .int 1500), (3, .int 1500), (2, .int (nB (!(decide ((lg_cmp wd 0) = 0))))), (1, .int 2), (0, .ref 0)]) (st' := [.int 2, .ref 0, .int (μ.1 34 4), .ref 34]) (by rfl) ?_
                refine zq_call hc (z_cx_ok hH (by rfl)) (gc_at d' (by omega) (z_ui (z_ui μ 18 4 ((μ.1 18 4) + (-1500))) 26 4 ((μ.1 26 4) + (-1500))) 2 (by decide)) (by decide +kernel) (fun r9 μ9 hq => ?_)
                obtain ⟨hμ9, rfl⟩ := hq
                rw [hμ9]
                clear hμ9 μ9
                show Z 0 108 [(5, .int 2), (4, .int 1500), (3, .int 1500), (2, .int (nB (!(decide ((lg_cmp wd 0) = 0))))), (1, .int 2), (0, .ref 0)] [.ref 34, .int (μ.1 34 4), .ref 34] _
                refine zq_gfr hc hH (by rfl) (ci := 1) (f := 0) (q := 35) (by rfl) (by decide +kernel) (by rfl) (by decide +kernel) ?_
                refine zq_call hc (z_cx_ok hH (by rfl)) (hw2 _ (TE_ui (TE_ui (TE_rf _) (by intro i a hi h1 h2; omega)) (by intro i a hi h1 h2; omega)) d' (by omega)) (by decide +kernel) (fun r9 μ9 hq => ?_)
                obtain ⟨hμ9, rfl⟩ := hq
                rw [hμ9]
                clear hμ9 μ9
                show Z 0 114 [(5, .int 2), (4, .int 1500), (3, .int 1500), (2, .int (nB (!(decide ((lg_cmp wd 0) = 0))))), (1, .int 2), (0, .ref 0)] [.long w2, .int (μ.1 34 4), .ref 34] _
                refine z_rcs0 hc hH 2 (pc' := 116) (lv' := [(5, .int 2), (4, .int 1500), (3, .int 1500), (2, .int (nB (!(decide ((lg_cmp wd 0) = 0))))), (1, .int 2), (0, .ref 0)]) (st' := [.int (lg_cmp w2 0), .int (μ.1 34 4), .ref 34]) (by rfl) ?_
                refine zq_if hc hH (by rfl) (tg := 123) (by rfl) (fun h8 => ?_) (fun h8 => ?_)
                · have h8 : (decide ((lg_cmp w2 0) = 0)) = true := decide_eq_true (cm_eq9.mp h8)
                  exact absurd (Eq.trans (Eq.symm (hb2)) h8) (by decide)
                · have h8 : (decide ((lg_cmp w2 0) = 0)) = false := decide_eq_false (cn_eq.mp h8)
                  refine z_rcs0 hc hH 3 (pc' := 127) (lv' := [(5, .int 2), (4, .int 1500), (3, .int 1500), (2, .int (nB (!(decide ((lg_cmp wd 0) = 0))))), (1, .int 2), (0, .ref 0)]) (st' := [.int ((μ.1 34 4) + 1500), .ref 34]) (by rfl) ?_
                  refine zq_pfi hc hH (by rfl) (ci := 1) (f := 4) (by rfl) (by decide +kernel) (by rfl) ?_
                  show Z 0 130 [(5, .int 2), (4, .int 1500), (3, .int 1500), (2, .int (nB (!(decide ((lg_cmp wd 0) = 0))))), (1, .int 2), (0, .ref 0)] [] (z_ui (z_ui (z_ui μ 18 4 ((μ.1 18 4) + (-1500))) 26 4 ((μ.1 26 4) + (-1500))) 34 4 ((μ.1 34 4) + 1500))
                  refine z_rcs0 hc hH 7 (pc' := 95) (lv' := [(5, .int 3), (4, .int 1500), (3, .int 1500), (2, .int (nB (!(decide ((lg_cmp wd 0) = 0))))), (1, .int 2), (0, .ref 0)]) (st' := [.int 3, .ref 0]) (by rfl) ?_
                  refine zq_call hc (z_cx_ok hH (by rfl)) (gc_at d' (by omega) (z_ui (z_ui (z_ui μ 18 4 ((μ.1 18 4) + (-1500))) 26 4 ((μ.1 26 4) + (-1500))) 34 4 ((μ.1 34 4) + 1500)) 3 (by decide)) (by decide +kernel) (fun r9 μ9 hq => ?_)
                  obtain ⟨hμ9, rfl⟩ := hq
                  rw [hμ9]
                  clear hμ9 μ9
                  show Z 0 98 [(5, .int 3), (4, .int 1500), (3, .int 1500), (2, .int (nB (!(decide ((lg_cmp wd 0) = 0))))), (1, .int 2), (0, .ref 0)] [.ref 42] _
                  refine z_rcs0 hc hH 1 (pc' := 99) (lv' := [(5, .int 3), (4, .int 1500), (3, .int 1500), (2, .int (nB (!(decide ((lg_cmp wd 0) = 0))))), (1, .int 2), (0, .ref 0)]) (st' := [.ref 42, .ref 42]) (by rfl) ?_
                  refine zq_gfi hc hH (by rfl) (ci := 1) (f := 4) (by rfl) (by decide +kernel) (by rfl) ?_
                  refine zV1 (Z := Z) (Eq.trans (ui_o (by first | decide | omega)) (Eq.trans (ui_o (by first | decide | omega)) (ui_o (by first | decide | omega)))) ?_
                  refine z_rcs0 hc hH 2 (pc' := 105) (lv' := [(5, .int 3), (4, .int 1500), (3, .int 1500), (2, .int (nB (!(decide ((lg_cmp wd 0) = 0))))), (1, .int 2), (0, .ref 0)]) (st' := [.int 3, .ref 0, .int (μ.1 42 4), .ref 42]) (by rfl) ?_
                  refine zq_call hc (z_cx_ok hH (by rfl)) (gc_at d' (by omega) (z_ui (z_ui (z_ui μ 18 4 ((μ.1 18 4) + (-1500))) 26 4 ((μ.1 26 4) + (-1500))) 34 4 ((μ.1 34 4) + 1500)) 3 (by decide)) (by decide +kernel) (fun r9 μ9 hq => ?_)
                  obtain ⟨hμ9, rfl⟩ := hq
                  rw [hμ9]
                  clear hμ9 μ9
                  show Z 0 108 [(5, .int 3), (4, .int 1500), (3, .int 1500), (2, .int (nB (!(decide ((lg_cmp wd 0) = 0))))), (1, .int 2), (0, .ref 0)] [.ref 42, .int (μ.1 42 4), .ref 42] _
                  refine zq_gfr hc hH (by rfl) (ci := 1) (f := 0) (q := 43) (by rfl) (by decide +kernel) (by rfl) (by decide +kernel) ?_
                  refine zq_call hc (z_cx_ok hH (by rfl)) (hw3 _ (TE_ui (TE_ui (TE_ui (TE_rf _) (by intro i a hi h1 h2; omega)) (by intro i a hi h1 h2; omega)) (by intro i a hi h1 h2; omega)) d' (by omega)) (by decide +kernel) (fun r9 μ9 hq => ?_)
                  obtain ⟨hμ9, rfl⟩ := hq
                  rw [hμ9]
                  clear hμ9 μ9
                  show Z 0 114 [(5, .int 3), (4, .int 1500), (3, .int 1500), (2, .int (nB (!(decide ((lg_cmp wd 0) = 0))))), (1, .int 2), (0, .ref 0)] [.long w3, .int (μ.1 42 4), .ref 42] _
                  refine z_rcs0 hc hH 2 (pc' := 116) (lv' := [(5, .int 3), (4, .int 1500), (3, .int 1500), (2, .int (nB (!(decide ((lg_cmp wd 0) = 0))))), (1, .int 2), (0, .ref 0)]) (st' := [.int (lg_cmp w3 0), .int (μ.1 42 4), .ref 42]) (by rfl) ?_
                  refine zq_if hc hH (by rfl) (tg := 123) (by rfl) (fun h9 => ?_) (fun h9 => ?_)
                  · have h9 : (decide ((lg_cmp w3 0) = 0)) = true := decide_eq_true (cm_eq9.mp h9)
                    exact absurd (Eq.trans (Eq.symm (hb3)) h9) (by decide)
                  · have h9 : (decide ((lg_cmp w3 0) = 0)) = false := decide_eq_false (cn_eq.mp h9)
                    refine z_rcs0 hc hH 3 (pc' := 127) (lv' := [(5, .int 3), (4, .int 1500), (3, .int 1500), (2, .int (nB (!(decide ((lg_cmp wd 0) = 0))))), (1, .int 2), (0, .ref 0)]) (st' := [.int ((μ.1 42 4) + 1500), .ref 42]) (by rfl) ?_
                    refine zq_pfi hc hH (by rfl) (ci := 1) (f := 4) (by rfl) (by decide +kernel) (by rfl) ?_
                    show Z 0 130 [(5, .int 3), (4, .int 1500), (3, .int 1500), (2, .int (nB (!(decide ((lg_cmp wd 0) = 0))))), (1, .int 2), (0, .ref 0)] [] (z_ui (z_ui (z_ui (z_ui μ 18 4 ((μ.1 18 4) + (-1500))) 26 4 ((μ.1 26 4) + (-1500))) 34 4 ((μ.1 34 4) + 1500)) 42 4 ((μ.1 42 4) + 1500))
                    refine z_rcs0 hc hH 8 (pc' := 139) (lv' := [(5, .int 4), (4, .int 1500), (3, .int 1500), (2, .int (nB (!(decide ((lg_cmp wd 0) = 0))))), (1, .int 2), (0, .ref 0)]) (st' := [.int 0, .int (nB (!(decide ((lg_cmp wd 0) = 0)))), .ref 0]) (by rfl) ?_
                    refine zq_call hc (z_cx_ok hH (by rfl)) (gc_endHandB d' (by omega) (z_ui (z_ui (z_ui (z_ui μ 18 4 ((μ.1 18 4) + (-1500))) 26 4 ((μ.1 26 4) + (-1500))) 34 4 ((μ.1 34 4) + 1500)) 42 4 ((μ.1 42 4) + 1500)) (!(decide ((lg_cmp wd 0) = 0))) false dl e (by rw [ui_o (by first | decide | omega), ui_o (by first | decide | omega), ui_o (by first | decide | omega), ui_o (by first | decide | omega)]; exact hdl) hdl4 he) (by decide +kernel) (fun r9 μ9 hq => ?_)
                    obtain ⟨rfl, rfl⟩ := hq
                    show Z 0 142 [(5, .int 4), (4, .int 1500), (3, .int 1500), (2, .int (nB (!(decide ((lg_cmp wd 0) = 0))))), (1, .int 2), (0, .ref 0)] [] (eHB (z_ui (z_ui (z_ui (z_ui μ 18 4 ((μ.1 18 4) + (-1500))) 26 4 ((μ.1 26 4) + (-1500))) 34 4 ((μ.1 34 4) + 1500)) 42 4 ((μ.1 42 4) + 1500)) (!(decide ((lg_cmp wd 0) = 0))) false (xBk (z_ui (z_ui (z_ui (z_ui μ 18 4 ((μ.1 18 4) + (-1500))) 26 4 ((μ.1 26 4) + (-1500))) 34 4 ((μ.1 34 4) + 1500)) 42 4 ((μ.1 42 4) + 1500))) dl e (rcM (z_ui (z_ui (z_ui (z_ui μ 18 4 ((μ.1 18 4) + (-1500))) 26 4 ((μ.1 26 4) + (-1500))) 34 4 ((μ.1 34 4) + 1500)) 42 4 ((μ.1 42 4) + 1500))))
                    exact hr 0 142 _ _ _ none (by decide +kernel) (by rfl) (⟨rfl, rfl⟩)
              · have h7 : (decide ((lg_cmp w1 0) = 0)) = false := decide_eq_false (cn_eq.mp h7)
                exact absurd (Eq.trans (Eq.symm (hb1)) h7) (by decide)
            · have h6 : (decide ((lg_cmp w0 0) = 0)) = false := decide_eq_false (cn_eq.mp h6)
              exact absurd (Eq.trans (Eq.symm (hb0)) h6) (by decide)
          refine zq_if hc hH (by rfl) (tg := 57) (by rfl) (fun h10 => ?_) (fun h10 => ?_)
          · have h10 : (decide ((lg_cmp wd 0) = 0)) = true := decide_eq_true (cm_eq9.mp h10)
            refine z_rcs hc hH 1 (pc' := 58) (lv' := [(2, .int 4), (1, .int 2), (0, .ref 0)]) (st' := [.int 0]) (μ' := μ) (by rfl) ?_
            exact zJ hJ5 rfl (by first | with_reducible rfl | (simp only [h10, lb_f, Int64.or_zero, Int32.add_zero, nB_t, nB_f, Bool.not_true, Bool.not_false, Bool.and_true, Bool.true_and, Bool.false_and, Bool.and_false, Bool.or_true, Bool.true_or, Bool.false_or, Bool.or_false, cond_true, cond_false]; done) | rfl) rfl
          · have h10 : (decide ((lg_cmp wd 0) = 0)) = false := decide_eq_false (cn_eq.mp h10)
            refine z_rcs hc hH 2 (pc' := 58) (lv' := [(2, .int 4), (1, .int 2), (0, .ref 0)]) (st' := [.int 1]) (μ' := μ) (by rfl) ?_
            exact zJ hJ5 rfl (by first | with_reducible rfl | (simp only [h10, lb_f, Int64.or_zero, Int32.add_zero, nB_t, nB_f, Bool.not_true, Bool.not_false, Bool.and_true, Bool.true_and, Bool.false_and, Bool.and_false, Bool.or_true, Bool.true_or, Bool.false_or, Bool.or_false, cond_true, cond_false]; done) | rfl) rfl
    · have h2 : (decide ((lg_cmp w1 0) = 0)) = false := decide_eq_false (cn_eq.mp h2)
      exact absurd (Eq.trans (Eq.symm (hb1)) h2) (by decide)
  · have h1 : (decide ((lg_cmp w0 0) = 0)) = false := decide_eq_false (cn_eq.mp h1)
    exact absurd (Eq.trans (Eq.symm (hb0)) h1) (by decide)
theorem gc_endUnwon0100 (d : Nat) (hd : 8 ≤ d) (μ : zM) (dl e : Nat) (hdl : μ.1 0 9 = nI dl) (hdl4 : dl < 4) (he : (dl + 1) % 4 = e) (w0 : Int64) (hw0 : ∀ μ1, TE μ μ1 → ∀ d, 7 ≤ d → z_C d mi_X3_waiting [.ref 19] μ1 (zR μ1 (.long w0))) (w1 : Int64) (hw1 : ∀ μ1, TE μ μ1 → ∀ d, 7 ≤ d → z_C d mi_X3_waiting [.ref 27] μ1 (zR μ1 (.long w1))) (w2 : Int64) (hw2 : ∀ μ1, TE μ μ1 → ∀ d, 7 ≤ d → z_C d mi_X3_waiting [.ref 35] μ1 (zR μ1 (.long w2))) (w3 : Int64) (hw3 : ∀ μ1, TE μ μ1 → ∀ d, 7 ≤ d → z_C d mi_X3_waiting [.ref 43] μ1 (zR μ1 (.long w3))) (wd : Int64) (hwd : ∀ μ1, TE μ μ1 → ∀ d, 7 ≤ d → z_C d mi_X3_waiting [.ref (19 + 8 * dl)] μ1 (zR μ1 (.long wd))) (hb0 : decide (lg_cmp w0 0 = 0) = true) (hb1 : decide (lg_cmp w1 0 = 0) = false) (hb2 : decide (lg_cmp w2 0 = 0) = true) (hb3 : decide (lg_cmp w3 0 = 0) = true) : z_C d mi_X6_endUnwon [.ref 0] μ (fun r μ' => r = none ∧ μ' = eHB (z_ui (z_ui (z_ui (z_ui μ 18 4 ((μ.1 18 4) + (-1000))) 26 4 ((μ.1 26 4) + 3000)) 34 4 ((μ.1 34 4) + (-1000))) 42 4 ((μ.1 42 4) + (-1000))) (!(decide ((lg_cmp wd 0) = 0))) false (xBk (z_ui (z_ui (z_ui (z_ui μ 18 4 ((μ.1 18 4) + (-1000))) 26 4 ((μ.1 26 4) + 3000)) 34 4 ((μ.1 34 4) + (-1000))) 42 4 ((μ.1 42 4) + (-1000)))) dl e (rcM (z_ui (z_ui (z_ui (z_ui μ 18 4 ((μ.1 18 4) + (-1000))) 26 4 ((μ.1 26 4) + 3000)) 34 4 ((μ.1 34 4) + (-1000))) 42 4 ((μ.1 42 4) + (-1000))))) := by
  refine z_C_in (by decide) (by omega) (fun d' Z ed hc hr => ?_)
  have hH : zH mi_X6_endUnwon zt_X6_endUnwon 79 6 6 := hh_X6_endUnwon
  refine z_rcs hc hH 9 (pc' := 11) (lv' := [(2, .int 0), (1, .int 0), (0, .ref 0)]) (st' := [.int 0, .ref 0]) (μ' := μ) (by rfl) ?_
  refine zq_call hc (z_cx_ok hH (by rfl)) (gc_at d' (by omega) μ 0 (by decide)) (by decide +kernel) (fun r9 μ9 hq => ?_)
  obtain ⟨hμ9, rfl⟩ := hq
  rw [hμ9]
  clear hμ9 μ9
  show Z 0 14 [(2, .int 0), (1, .int 0), (0, .ref 0)] [.ref 18] μ
  refine zq_gfr hc hH (by rfl) (ci := 1) (f := 0) (q := 19) (by rfl) (by decide +kernel) (by rfl) (by decide +kernel) ?_
  refine zq_call hc (z_cx_ok hH (by rfl)) (hw0 _ (TE_rf _) d' (by omega)) (by decide +kernel) (fun r9 μ9 hq => ?_)
  obtain ⟨hμ9, rfl⟩ := hq
  rw [hμ9]
  clear hμ9 μ9
  show Z 0 20 [(2, .int 0), (1, .int 0), (0, .ref 0)] [.long w0] μ
  refine z_rcs hc hH 2 (pc' := 22) (lv' := [(2, .int 0), (1, .int 0), (0, .ref 0)]) (st' := [.int (lg_cmp w0 0)]) (μ' := μ) (by rfl) ?_
  refine zq_if hc hH (by rfl) (tg := 28) (by rfl) (fun h1 => ?_) (fun h1 => ?_)
  · have h1 : (decide ((lg_cmp w0 0) = 0)) = true := decide_eq_true (cm_eq9.mp h1)
    refine z_rcs hc hH 7 (pc' := 11) (lv' := [(2, .int 1), (1, .int 0), (0, .ref 0)]) (st' := [.int 1, .ref 0]) (μ' := μ) (by rfl) ?_
    refine zq_call hc (z_cx_ok hH (by rfl)) (gc_at d' (by omega) μ 1 (by decide)) (by decide +kernel) (fun r9 μ9 hq => ?_)
    obtain ⟨hμ9, rfl⟩ := hq
    rw [hμ9]
    clear hμ9 μ9
    show Z 0 14 [(2, .int 1), (1, .int 0), (0, .ref 0)] [.ref 26] μ
    refine zq_gfr hc hH (by rfl) (ci := 1) (f := 0) (q := 27) (by rfl) (by decide +kernel) (by rfl) (by decide +kernel) ?_
    refine zq_call hc (z_cx_ok hH (by rfl)) (hw1 _ (TE_rf _) d' (by omega)) (by decide +kernel) (fun r9 μ9 hq => ?_)
    obtain ⟨hμ9, rfl⟩ := hq
    rw [hμ9]
    clear hμ9 μ9
    show Z 0 20 [(2, .int 1), (1, .int 0), (0, .ref 0)] [.long w1] μ
    refine z_rcs hc hH 2 (pc' := 22) (lv' := [(2, .int 1), (1, .int 0), (0, .ref 0)]) (st' := [.int (lg_cmp w1 0)]) (μ' := μ) (by rfl) ?_
    refine zq_if hc hH (by rfl) (tg := 28) (by rfl) (fun h2 => ?_) (fun h2 => ?_)
    · have h2 : (decide ((lg_cmp w1 0) = 0)) = true := decide_eq_true (cm_eq9.mp h2)
      exact absurd (Eq.trans (Eq.symm (hb1)) h2) (by decide)
    · have h2 : (decide ((lg_cmp w1 0) = 0)) = false := decide_eq_false (cn_eq.mp h2)
      refine z_rcs hc hH 8 (pc' := 11) (lv' := [(2, .int 2), (1, .int 1), (0, .ref 0)]) (st' := [.int 2, .ref 0]) (μ' := μ) (by rfl) ?_
      refine zq_call hc (z_cx_ok hH (by rfl)) (gc_at d' (by omega) μ 2 (by decide)) (by decide +kernel) (fun r9 μ9 hq => ?_)
      obtain ⟨hμ9, rfl⟩ := hq
      rw [hμ9]
      clear hμ9 μ9
      show Z 0 14 [(2, .int 2), (1, .int 1), (0, .ref 0)] [.ref 34] μ
      refine zq_gfr hc hH (by rfl) (ci := 1) (f := 0) (q := 35) (by rfl) (by decide +kernel) (by rfl) (by decide +kernel) ?_
      refine zq_call hc (z_cx_ok hH (by rfl)) (hw2 _ (TE_rf _) d' (by omega)) (by decide +kernel) (fun r9 μ9 hq => ?_)
      obtain ⟨hμ9, rfl⟩ := hq
      rw [hμ9]
      clear hμ9 μ9
      show Z 0 20 [(2, .int 2), (1, .int 1), (0, .ref 0)] [.long w2] μ
      refine z_rcs hc hH 2 (pc' := 22) (lv' := [(2, .int 2), (1, .int 1), (0, .ref 0)]) (st' := [.int (lg_cmp w2 0)]) (μ' := μ) (by rfl) ?_
      refine zq_if hc hH (by rfl) (tg := 28) (by rfl) (fun h3 => ?_) (fun h3 => ?_)
      · have h3 : (decide ((lg_cmp w2 0) = 0)) = true := decide_eq_true (cm_eq9.mp h3)
        refine z_rcs hc hH 7 (pc' := 11) (lv' := [(2, .int 3), (1, .int 1), (0, .ref 0)]) (st' := [.int 3, .ref 0]) (μ' := μ) (by rfl) ?_
        refine zq_call hc (z_cx_ok hH (by rfl)) (gc_at d' (by omega) μ 3 (by decide)) (by decide +kernel) (fun r9 μ9 hq => ?_)
        obtain ⟨hμ9, rfl⟩ := hq
        rw [hμ9]
        clear hμ9 μ9
        show Z 0 14 [(2, .int 3), (1, .int 1), (0, .ref 0)] [.ref 42] μ
        refine zq_gfr hc hH (by rfl) (ci := 1) (f := 0) (q := 43) (by rfl) (by decide +kernel) (by rfl) (by decide +kernel) ?_
        refine zq_call hc (z_cx_ok hH (by rfl)) (hw3 _ (TE_rf _) d' (by omega)) (by decide +kernel) (fun r9 μ9 hq => ?_)
        obtain ⟨hμ9, rfl⟩ := hq
        rw [hμ9]
        clear hμ9 μ9
        show Z 0 20 [(2, .int 3), (1, .int 1), (0, .ref 0)] [.long w3] μ
        refine z_rcs hc hH 2 (pc' := 22) (lv' := [(2, .int 3), (1, .int 1), (0, .ref 0)]) (st' := [.int (lg_cmp w3 0)]) (μ' := μ) (by rfl) ?_
        refine zq_if hc hH (by rfl) (tg := 28) (by rfl) (fun h4 => ?_) (fun h4 => ?_)
        · have h4 : (decide ((lg_cmp w3 0) = 0)) = true := decide_eq_true (cm_eq9.mp h4)
          refine z_rcs hc hH 7 (pc' := 36) (lv' := [(2, .int 4), (1, .int 1), (0, .ref 0)]) (st' := [.ref 0, .ref 0]) (μ' := μ) (by rfl) ?_
          refine zq_gfi hc hH (by rfl) (ci := 5) (f := 9) (by rfl) (by decide +kernel) (by rfl) ?_
          rw [hdl]
          refine zq_call hc (z_cx_ok hH (by rfl)) (gc_at4 d' (by omega) μ dl hdl4) (by decide +kernel) (fun r9 μ9 hq => ?_)
          obtain ⟨hμ9, rfl⟩ := hq
          rw [hμ9]
          clear hμ9 μ9
          show Z 0 42 [(2, .int 4), (1, .int 1), (0, .ref 0)] [.ref (18 + 8 * dl)] μ
          refine zq_gfr hc hH (by rfl) (ci := 1) (f := 0) (q := 19 + 8 * dl) (by rfl) (sj (P := fun i => okf 79 1 0 (18 + 8 * i)) hdl4 (by decide +kernel)) (by rfl) (sj (P := fun i => Nat.beq (z_gr (18 + 8 * i) 0) (19 + 8 * i)) hdl4 (by decide +kernel)) ?_
          refine zq_call hc (z_clv9 hH (by rfl) (by rfl) (by rfl) (by rfl) (sj (P := fun i => okr 79 2 (19 + 8 * i)) hdl4 (by decide +kernel)) (by rfl) (by rfl)) ((hwd _ (TE_rf _) d' (by omega))) (by decide +kernel) (fun r9 μ9 hq => ?_)
          obtain ⟨hμ9, rfl⟩ := hq
          rw [hμ9]
          clear hμ9 μ9
          show Z 0 48 [(2, .int 4), (1, .int 1), (0, .ref 0)] [.long wd] μ
          refine z_rcs hc hH 2 (pc' := 50) (lv' := [(2, .int 4), (1, .int 1), (0, .ref 0)]) (st' := [.int (lg_cmp wd 0)]) (μ' := μ) (by rfl) ?_
          have hJ5 : Z 0 58 [(2, .int 4), (1, .int 1), (0, .ref 0)] [.int (nB (!(decide ((lg_cmp wd 0) = 0))))] μ := by
            refine z_rcs hc hH 23 (pc' := 95) (lv' := [(5, .int 0), (4, .int 1000), (3, .int 3000), (2, .int (nB (!(decide ((lg_cmp wd 0) = 0))))), (1, .int 1), (0, .ref 0)]) (st' := [.int 0, .ref 0]) (μ' := μ) (by rfl) ?_
            refine zq_call hc (z_cx_ok hH (by rfl)) (gc_at d' (by omega) μ 0 (by decide)) (by decide +kernel) (fun r9 μ9 hq => ?_)
            obtain ⟨hμ9, rfl⟩ := hq
            rw [hμ9]
            clear hμ9 μ9
            show Z 0 98 [(5, .int 0), (4, .int 1000), (3, .int 3000), (2, .int (nB (!(decide ((lg_cmp wd 0) = 0))))), (1, .int 1), (0, .ref 0)] [.ref 18] μ
            refine z_rcs hc hH 1 (pc' := 99) (lv' := [(5, .int 0), (4, .int 1000), (3, .int 3000), (2, .int (nB (!(decide ((lg_cmp wd 0) = 0))))), (1, .int 1), (0, .ref 0)]) (st' := [.ref 18, .ref 18]) (μ' := μ) (by rfl) ?_
            refine zq_gfi hc hH (by rfl) (ci := 1) (f := 4) (by rfl) (by decide +kernel) (by rfl) ?_
            refine z_rcs hc hH 2 (pc' := 105) (lv' := [(5, .int 0), (4, .int 1000), (3, .int 3000), (2, .int (nB (!(decide ((lg_cmp wd 0) = 0))))), (1, .int 1), (0, .ref 0)]) (st' := [.int 0, .ref 0, .int (μ.1 18 4), .ref 18]) (μ' := μ) (by rfl) ?_
            refine zq_call hc (z_cx_ok hH (by rfl)) (gc_at d' (by omega) μ 0 (by decide)) (by decide +kernel) (fun r9 μ9 hq => ?_)
            obtain ⟨hμ9, rfl⟩ := hq
            rw [hμ9]
            clear hμ9 μ9
            show Z 0 108 [(5, .int 0), (4, .int 1000), (3, .int 3000), (2, .int (nB (!(decide ((lg_cmp wd 0) = 0))))), (1, .int 1), (0, .ref 0)] [.ref 18, .int (μ.1 18 4), .ref 18] μ
            refine zq_gfr hc hH (by rfl) (ci := 1) (f := 0) (q := 19) (by rfl) (by decide +kernel) (by rfl) (by decide +kernel) ?_
            refine zq_call hc (z_cx_ok hH (by rfl)) (hw0 _ (TE_rf _) d' (by omega)) (by decide +kernel) (fun r9 μ9 hq => ?_)
            obtain ⟨hμ9, rfl⟩ := hq
            rw [hμ9]
            clear hμ9 μ9
            show Z 0 114 [(5, .int 0), (4, .int 1000), (3, .int 3000), (2, .int (nB (!(decide ((lg_cmp wd 0) = 0))))), (1, .int 1), (0, .ref 0)] [.long w0, .int (μ.1 18 4), .ref 18] μ
            refine z_rcs hc hH 2 (pc' := 116) (lv' := [(5, .int 0), (4, .int 1000), (3, .int 3000), (2, .int (nB (!(decide ((lg_cmp wd 0) = 0))))), (1, .int 1), (0, .ref 0)]) (st' := [.int (lg_cmp w0 0), .int (μ.1 18 4), .ref 18]) (μ' := μ) (by rfl) ?_
            refine zq_if hc hH (by rfl) (tg := 123) (by rfl) (fun h6 => ?_) (fun h6 => ?_)
            · have h6 : (decide ((lg_cmp w0 0) = 0)) = true := decide_eq_true (cm_eq9.mp h6)
              refine z_rcs hc hH 3 (pc' := 127) (lv' := [(5, .int 0), (4, .int 1000), (3, .int 3000), (2, .int (nB (!(decide ((lg_cmp wd 0) = 0))))), (1, .int 1), (0, .ref 0)]) (st' := [.int ((μ.1 18 4) + (-1000)), .ref 18]) (μ' := μ) (by rfl) ?_
              refine zq_pfi hc hH (by rfl) (ci := 1) (f := 4) (by rfl) (by decide +kernel) (by rfl) ?_
              show Z 0 130 [(5, .int 0), (4, .int 1000), (3, .int 3000), (2, .int (nB (!(decide ((lg_cmp wd 0) = 0))))), (1, .int 1), (0, .ref 0)] [] (z_ui μ 18 4 ((μ.1 18 4) + (-1000)))
              refine z_rcs0 hc hH 7 (pc' := 95) (lv' := [(5, .int 1), (4, .int 1000), (3, .int 3000), (2, .int (nB (!(decide ((lg_cmp wd 0) = 0))))), (1, .int 1), (0, .ref 0)]) (st' := [.int 1, .ref 0]) (by rfl) ?_
              refine zq_call hc (z_cx_ok hH (by rfl)) (gc_at d' (by omega) (z_ui μ 18 4 ((μ.1 18 4) + (-1000))) 1 (by decide)) (by decide +kernel) (fun r9 μ9 hq => ?_)
              obtain ⟨hμ9, rfl⟩ := hq
              rw [hμ9]
              clear hμ9 μ9
              show Z 0 98 [(5, .int 1), (4, .int 1000), (3, .int 3000), (2, .int (nB (!(decide ((lg_cmp wd 0) = 0))))), (1, .int 1), (0, .ref 0)] [.ref 26] _
              refine z_rcs0 hc hH 1 (pc' := 99) (lv' := [(5, .int 1), (4, .int 1000), (3, .int 3000), (2, .int (nB (!(decide ((lg_cmp wd 0) = 0))))), (1, .int 1), (0, .ref 0)]) (st' := [.ref 26, .ref 26]) (by rfl) ?_
              refine zq_gfi hc hH (by rfl) (ci := 1) (f := 4) (by rfl) (by decide +kernel) (by rfl) ?_
              refine zV1 (Z := Z) (ui_o (by first | decide | omega)) ?_
              refine z_rcs0 hc hH 2 (pc' := 105) (lv' := [(5, .int 1), (4, .int 1000), (3, .int 3000), (2, .int (nB (!(decide ((lg_cmp wd 0) = 0))))), (1, .int 1), (0, .ref 0)]) (st' := [.int 1, .ref 0, .int (μ.1 26 4), .ref 26]) (by rfl) ?_
              refine zq_call hc (z_cx_ok hH (by rfl)) (gc_at d' (by omega) (z_ui μ 18 4 ((μ.1 18 4) + (-1000))) 1 (by decide)) (by decide +kernel) (fun r9 μ9 hq => ?_)
              obtain ⟨hμ9, rfl⟩ := hq
              rw [hμ9]
              clear hμ9 μ9
              show Z 0 108 [(5, .int 1), (4, .int 1000), (3, .int 3000), (2, .int (nB (!(decide ((lg_cmp wd 0) = 0))))), (1, .int 1), (0, .ref 0)] [.ref 26, .int (μ.1 26 4), .ref 26] _
              refine zq_gfr hc hH (by rfl) (ci := 1) (f := 0) (q := 27) (by rfl) (by decide +kernel) (by rfl) (by decide +kernel) ?_
              refine zq_call hc (z_cx_ok hH (by rfl)) (hw1 _ (TE_ui (TE_rf _) (by intro i a hi h1 h2; omega)) d' (by omega)) (by decide +kernel) (fun r9 μ9 hq => ?_)
              obtain ⟨hμ9, rfl⟩ := hq
              rw [hμ9]
              clear hμ9 μ9
              show Z 0 114 [(5, .int 1), (4, .int 1000), (3, .int 3000), (2, .int (nB (!(decide ((lg_cmp wd 0) = 0))))), (1, .int 1), (0, .ref 0)] [.long w1, .int (μ.1 26 4), .ref 26] _
              refine z_rcs0 hc hH 2 (pc' := 116) (lv' := [(5, .int 1), (4, .int 1000), (3, .int 3000), (2, .int (nB (!(decide ((lg_cmp wd 0) = 0))))), (1, .int 1), (0, .ref 0)]) (st' := [.int (lg_cmp w1 0), .int (μ.1 26 4), .ref 26]) (by rfl) ?_
              refine zq_if hc hH (by rfl) (tg := 123) (by rfl) (fun h7 => ?_) (fun h7 => ?_)
              · have h7 : (decide ((lg_cmp w1 0) = 0)) = true := decide_eq_true (cm_eq9.mp h7)
                exact absurd (Eq.trans (Eq.symm (hb1)) h7) (by decide)
              · have h7 : (decide ((lg_cmp w1 0) = 0)) = false := decide_eq_false (cn_eq.mp h7)
                refine z_rcs0 hc hH 3 (pc' := 127) (lv' := [(5, .int 1), (4, .int 1000), (3, .int 3000), (2, .int (nB (!(decide ((lg_cmp wd 0) = 0))))), (1, .int 1), (0, .ref 0)]) (st' := [.int ((μ.1 26 4) + 3000), .ref 26]) (by rfl) ?_
                refine zq_pfi hc hH (by rfl) (ci := 1) (f := 4) (by rfl) (by decide +kernel) (by rfl) ?_
                show Z 0 130 [(5, .int 1), (4, .int 1000), (3, .int 3000), (2, .int (nB (!(decide ((lg_cmp wd 0) = 0))))), (1, .int 1), (0, .ref 0)] [] (z_ui (z_ui μ 18 4 ((μ.1 18 4) + (-1000))) 26 4 ((μ.1 26 4) + 3000))
                refine z_rcs0 hc hH 7 (pc' := 95) (lv' := [(5, .int 2), (4, .int 1000), (3, .int 3000), (2, .int (nB (!(decide ((lg_cmp wd 0) = 0))))), (1, .int 1), (0, .ref 0)]) (st' := [.int 2, .ref 0]) (by rfl) ?_
                refine zq_call hc (z_cx_ok hH (by rfl)) (gc_at d' (by omega) (z_ui (z_ui μ 18 4 ((μ.1 18 4) + (-1000))) 26 4 ((μ.1 26 4) + 3000)) 2 (by decide)) (by decide +kernel) (fun r9 μ9 hq => ?_)
                obtain ⟨hμ9, rfl⟩ := hq
                rw [hμ9]
                clear hμ9 μ9
                show Z 0 98 [(5, .int 2), (4, .int 1000), (3, .int 3000), (2, .int (nB (!(decide ((lg_cmp wd 0) = 0))))), (1, .int 1), (0, .ref 0)] [.ref 34] _
                refine z_rcs0 hc hH 1 (pc' := 99) (lv' := [(5, .int 2), (4, .int 1000), (3, .int 3000), (2, .int (nB (!(decide ((lg_cmp wd 0) = 0))))), (1, .int 1), (0, .ref 0)]) (st' := [.ref 34, .ref 34]) (by rfl) ?_
                refine zq_gfi hc hH (by rfl) (ci := 1) (f := 4) (by rfl) (by decide +kernel) (by rfl) ?_
                refine zV1 (Z := Z) (Eq.trans (ui_o (by first | decide | omega)) (ui_o (by first | decide | omega))) ?_
                refine z_rcs0 hc hH 2 (pc' := 105) (lv' := [(5, .int 2), (4, .int 1000), (3, .int 3000), (2, .int (nB (!(decide ((lg_cmp wd 0) = 0))))), (1, .int 1), (0, .ref 0)]) (st' := [.int 2, .ref 0, .int (μ.1 34 4), .ref 34]) (by rfl) ?_
                refine zq_call hc (z_cx_ok hH (by rfl)) (gc_at d' (by omega) (z_ui (z_ui μ 18 4 ((μ.1 18 4) + (-1000))) 26 4 ((μ.1 26 4) + 3000)) 2 (by decide)) (by decide +kernel) (fun r9 μ9 hq => ?_)
                obtain ⟨hμ9, rfl⟩ := hq
                rw [hμ9]
                clear hμ9 μ9
                show Z 0 108 [(5, .int 2), (4, .int 1000), (3, .int 3000), (2, .int (nB (!(decide ((lg_cmp wd 0) = 0))))), (1, .int 1), (0, .ref 0)] [.ref 34, .int (μ.1 34 4), .ref 34] _
                refine zq_gfr hc hH (by rfl) (ci := 1) (f := 0) (q := 35) (by rfl) (by decide +kernel) (by rfl) (by decide +kernel) ?_
                refine zq_call hc (z_cx_ok hH (by rfl)) (hw2 _ (TE_ui (TE_ui (TE_rf _) (by intro i a hi h1 h2; omega)) (by intro i a hi h1 h2; omega)) d' (by omega)) (by decide +kernel) (fun r9 μ9 hq => ?_)
                obtain ⟨hμ9, rfl⟩ := hq
                rw [hμ9]
                clear hμ9 μ9
                show Z 0 114 [(5, .int 2), (4, .int 1000), (3, .int 3000), (2, .int (nB (!(decide ((lg_cmp wd 0) = 0))))), (1, .int 1), (0, .ref 0)] [.long w2, .int (μ.1 34 4), .ref 34] _
                refine z_rcs0 hc hH 2 (pc' := 116) (lv' := [(5, .int 2), (4, .int 1000), (3, .int 3000), (2, .int (nB (!(decide ((lg_cmp wd 0) = 0))))), (1, .int 1), (0, .ref 0)]) (st' := [.int (lg_cmp w2 0), .int (μ.1 34 4), .ref 34]) (by rfl) ?_
                refine zq_if hc hH (by rfl) (tg := 123) (by rfl) (fun h8 => ?_) (fun h8 => ?_)
                · have h8 : (decide ((lg_cmp w2 0) = 0)) = true := decide_eq_true (cm_eq9.mp h8)
                  refine z_rcs0 hc hH 3 (pc' := 127) (lv' := [(5, .int 2), (4, .int 1000), (3, .int 3000), (2, .int (nB (!(decide ((lg_cmp wd 0) = 0))))), (1, .int 1), (0, .ref 0)]) (st' := [.int ((μ.1 34 4) + (-1000)), .ref 34]) (by rfl) ?_
                  refine zq_pfi hc hH (by rfl) (ci := 1) (f := 4) (by rfl) (by decide +kernel) (by rfl) ?_
                  show Z 0 130 [(5, .int 2), (4, .int 1000), (3, .int 3000), (2, .int (nB (!(decide ((lg_cmp wd 0) = 0))))), (1, .int 1), (0, .ref 0)] [] (z_ui (z_ui (z_ui μ 18 4 ((μ.1 18 4) + (-1000))) 26 4 ((μ.1 26 4) + 3000)) 34 4 ((μ.1 34 4) + (-1000)))
                  refine z_rcs0 hc hH 7 (pc' := 95) (lv' := [(5, .int 3), (4, .int 1000), (3, .int 3000), (2, .int (nB (!(decide ((lg_cmp wd 0) = 0))))), (1, .int 1), (0, .ref 0)]) (st' := [.int 3, .ref 0]) (by rfl) ?_
                  refine zq_call hc (z_cx_ok hH (by rfl)) (gc_at d' (by omega) (z_ui (z_ui (z_ui μ 18 4 ((μ.1 18 4) + (-1000))) 26 4 ((μ.1 26 4) + 3000)) 34 4 ((μ.1 34 4) + (-1000))) 3 (by decide)) (by decide +kernel) (fun r9 μ9 hq => ?_)
                  obtain ⟨hμ9, rfl⟩ := hq
                  rw [hμ9]
                  clear hμ9 μ9
                  show Z 0 98 [(5, .int 3), (4, .int 1000), (3, .int 3000), (2, .int (nB (!(decide ((lg_cmp wd 0) = 0))))), (1, .int 1), (0, .ref 0)] [.ref 42] _
                  refine z_rcs0 hc hH 1 (pc' := 99) (lv' := [(5, .int 3), (4, .int 1000), (3, .int 3000), (2, .int (nB (!(decide ((lg_cmp wd 0) = 0))))), (1, .int 1), (0, .ref 0)]) (st' := [.ref 42, .ref 42]) (by rfl) ?_
                  refine zq_gfi hc hH (by rfl) (ci := 1) (f := 4) (by rfl) (by decide +kernel) (by rfl) ?_
                  refine zV1 (Z := Z) (Eq.trans (ui_o (by first | decide | omega)) (Eq.trans (ui_o (by first | decide | omega)) (ui_o (by first | decide | omega)))) ?_
                  refine z_rcs0 hc hH 2 (pc' := 105) (lv' := [(5, .int 3), (4, .int 1000), (3, .int 3000), (2, .int (nB (!(decide ((lg_cmp wd 0) = 0))))), (1, .int 1), (0, .ref 0)]) (st' := [.int 3, .ref 0, .int (μ.1 42 4), .ref 42]) (by rfl) ?_
                  refine zq_call hc (z_cx_ok hH (by rfl)) (gc_at d' (by omega) (z_ui (z_ui (z_ui μ 18 4 ((μ.1 18 4) + (-1000))) 26 4 ((μ.1 26 4) + 3000)) 34 4 ((μ.1 34 4) + (-1000))) 3 (by decide)) (by decide +kernel) (fun r9 μ9 hq => ?_)
                  obtain ⟨hμ9, rfl⟩ := hq
                  rw [hμ9]
                  clear hμ9 μ9
                  show Z 0 108 [(5, .int 3), (4, .int 1000), (3, .int 3000), (2, .int (nB (!(decide ((lg_cmp wd 0) = 0))))), (1, .int 1), (0, .ref 0)] [.ref 42, .int (μ.1 42 4), .ref 42] _
                  refine zq_gfr hc hH (by rfl) (ci := 1) (f := 0) (q := 43) (by rfl) (by decide +kernel) (by rfl) (by decide +kernel) ?_
                  refine zq_call hc (z_cx_ok hH (by rfl)) (hw3 _ (TE_ui (TE_ui (TE_ui (TE_rf _) (by intro i a hi h1 h2; omega)) (by intro i a hi h1 h2; omega)) (by intro i a hi h1 h2; omega)) d' (by omega)) (by decide +kernel) (fun r9 μ9 hq => ?_)
                  obtain ⟨hμ9, rfl⟩ := hq
                  rw [hμ9]
                  clear hμ9 μ9
                  show Z 0 114 [(5, .int 3), (4, .int 1000), (3, .int 3000), (2, .int (nB (!(decide ((lg_cmp wd 0) = 0))))), (1, .int 1), (0, .ref 0)] [.long w3, .int (μ.1 42 4), .ref 42] _
                  refine z_rcs0 hc hH 2 (pc' := 116) (lv' := [(5, .int 3), (4, .int 1000), (3, .int 3000), (2, .int (nB (!(decide ((lg_cmp wd 0) = 0))))), (1, .int 1), (0, .ref 0)]) (st' := [.int (lg_cmp w3 0), .int (μ.1 42 4), .ref 42]) (by rfl) ?_
                  refine zq_if hc hH (by rfl) (tg := 123) (by rfl) (fun h9 => ?_) (fun h9 => ?_)
                  · have h9 : (decide ((lg_cmp w3 0) = 0)) = true := decide_eq_true (cm_eq9.mp h9)
                    refine z_rcs0 hc hH 3 (pc' := 127) (lv' := [(5, .int 3), (4, .int 1000), (3, .int 3000), (2, .int (nB (!(decide ((lg_cmp wd 0) = 0))))), (1, .int 1), (0, .ref 0)]) (st' := [.int ((μ.1 42 4) + (-1000)), .ref 42]) (by rfl) ?_
                    refine zq_pfi hc hH (by rfl) (ci := 1) (f := 4) (by rfl) (by decide +kernel) (by rfl) ?_
                    show Z 0 130 [(5, .int 3), (4, .int 1000), (3, .int 3000), (2, .int (nB (!(decide ((lg_cmp wd 0) = 0))))), (1, .int 1), (0, .ref 0)] [] (z_ui (z_ui (z_ui (z_ui μ 18 4 ((μ.1 18 4) + (-1000))) 26 4 ((μ.1 26 4) + 3000)) 34 4 ((μ.1 34 4) + (-1000))) 42 4 ((μ.1 42 4) + (-1000)))
                    refine z_rcs0 hc hH 8 (pc' := 139) (lv' := [(5, .int 4), (4, .int 1000), (3, .int 3000), (2, .int (nB (!(decide ((lg_cmp wd 0) = 0))))), (1, .int 1), (0, .ref 0)]) (st' := [.int 0, .int (nB (!(decide ((lg_cmp wd 0) = 0)))), .ref 0]) (by rfl) ?_
                    refine zq_call hc (z_cx_ok hH (by rfl)) (gc_endHandB d' (by omega) (z_ui (z_ui (z_ui (z_ui μ 18 4 ((μ.1 18 4) + (-1000))) 26 4 ((μ.1 26 4) + 3000)) 34 4 ((μ.1 34 4) + (-1000))) 42 4 ((μ.1 42 4) + (-1000))) (!(decide ((lg_cmp wd 0) = 0))) false dl e (by rw [ui_o (by first | decide | omega), ui_o (by first | decide | omega), ui_o (by first | decide | omega), ui_o (by first | decide | omega)]; exact hdl) hdl4 he) (by decide +kernel) (fun r9 μ9 hq => ?_)
                    obtain ⟨rfl, rfl⟩ := hq
                    show Z 0 142 [(5, .int 4), (4, .int 1000), (3, .int 3000), (2, .int (nB (!(decide ((lg_cmp wd 0) = 0))))), (1, .int 1), (0, .ref 0)] [] (eHB (z_ui (z_ui (z_ui (z_ui μ 18 4 ((μ.1 18 4) + (-1000))) 26 4 ((μ.1 26 4) + 3000)) 34 4 ((μ.1 34 4) + (-1000))) 42 4 ((μ.1 42 4) + (-1000))) (!(decide ((lg_cmp wd 0) = 0))) false (xBk (z_ui (z_ui (z_ui (z_ui μ 18 4 ((μ.1 18 4) + (-1000))) 26 4 ((μ.1 26 4) + 3000)) 34 4 ((μ.1 34 4) + (-1000))) 42 4 ((μ.1 42 4) + (-1000)))) dl e (rcM (z_ui (z_ui (z_ui (z_ui μ 18 4 ((μ.1 18 4) + (-1000))) 26 4 ((μ.1 26 4) + 3000)) 34 4 ((μ.1 34 4) + (-1000))) 42 4 ((μ.1 42 4) + (-1000)))))
                    exact hr 0 142 _ _ _ none (by decide +kernel) (by rfl) (⟨rfl, rfl⟩)
                  · have h9 : (decide ((lg_cmp w3 0) = 0)) = false := decide_eq_false (cn_eq.mp h9)
                    exact absurd (Eq.trans (Eq.symm (hb3)) h9) (by decide)
                · have h8 : (decide ((lg_cmp w2 0) = 0)) = false := decide_eq_false (cn_eq.mp h8)
                  exact absurd (Eq.trans (Eq.symm (hb2)) h8) (by decide)
            · have h6 : (decide ((lg_cmp w0 0) = 0)) = false := decide_eq_false (cn_eq.mp h6)
              exact absurd (Eq.trans (Eq.symm (hb0)) h6) (by decide)
          refine zq_if hc hH (by rfl) (tg := 57) (by rfl) (fun h10 => ?_) (fun h10 => ?_)
          · have h10 : (decide ((lg_cmp wd 0) = 0)) = true := decide_eq_true (cm_eq9.mp h10)
            refine z_rcs hc hH 1 (pc' := 58) (lv' := [(2, .int 4), (1, .int 1), (0, .ref 0)]) (st' := [.int 0]) (μ' := μ) (by rfl) ?_
            exact zJ hJ5 rfl (by first | with_reducible rfl | (simp only [h10, lb_f, Int64.or_zero, Int32.add_zero, nB_t, nB_f, Bool.not_true, Bool.not_false, Bool.and_true, Bool.true_and, Bool.false_and, Bool.and_false, Bool.or_true, Bool.true_or, Bool.false_or, Bool.or_false, cond_true, cond_false]; done) | rfl) rfl
          · have h10 : (decide ((lg_cmp wd 0) = 0)) = false := decide_eq_false (cn_eq.mp h10)
            refine z_rcs hc hH 2 (pc' := 58) (lv' := [(2, .int 4), (1, .int 1), (0, .ref 0)]) (st' := [.int 1]) (μ' := μ) (by rfl) ?_
            exact zJ hJ5 rfl (by first | with_reducible rfl | (simp only [h10, lb_f, Int64.or_zero, Int32.add_zero, nB_t, nB_f, Bool.not_true, Bool.not_false, Bool.and_true, Bool.true_and, Bool.false_and, Bool.and_false, Bool.or_true, Bool.true_or, Bool.false_or, Bool.or_false, cond_true, cond_false]; done) | rfl) rfl
        · have h4 : (decide ((lg_cmp w3 0) = 0)) = false := decide_eq_false (cn_eq.mp h4)
          exact absurd (Eq.trans (Eq.symm (hb3)) h4) (by decide)
      · have h3 : (decide ((lg_cmp w2 0) = 0)) = false := decide_eq_false (cn_eq.mp h3)
        exact absurd (Eq.trans (Eq.symm (hb2)) h3) (by decide)
  · have h1 : (decide ((lg_cmp w0 0) = 0)) = false := decide_eq_false (cn_eq.mp h1)
    exact absurd (Eq.trans (Eq.symm (hb0)) h1) (by decide)
theorem gc_endUnwon0101 (d : Nat) (hd : 8 ≤ d) (μ : zM) (dl e : Nat) (hdl : μ.1 0 9 = nI dl) (hdl4 : dl < 4) (he : (dl + 1) % 4 = e) (w0 : Int64) (hw0 : ∀ μ1, TE μ μ1 → ∀ d, 7 ≤ d → z_C d mi_X3_waiting [.ref 19] μ1 (zR μ1 (.long w0))) (w1 : Int64) (hw1 : ∀ μ1, TE μ μ1 → ∀ d, 7 ≤ d → z_C d mi_X3_waiting [.ref 27] μ1 (zR μ1 (.long w1))) (w2 : Int64) (hw2 : ∀ μ1, TE μ μ1 → ∀ d, 7 ≤ d → z_C d mi_X3_waiting [.ref 35] μ1 (zR μ1 (.long w2))) (w3 : Int64) (hw3 : ∀ μ1, TE μ μ1 → ∀ d, 7 ≤ d → z_C d mi_X3_waiting [.ref 43] μ1 (zR μ1 (.long w3))) (wd : Int64) (hwd : ∀ μ1, TE μ μ1 → ∀ d, 7 ≤ d → z_C d mi_X3_waiting [.ref (19 + 8 * dl)] μ1 (zR μ1 (.long wd))) (hb0 : decide (lg_cmp w0 0 = 0) = true) (hb1 : decide (lg_cmp w1 0 = 0) = false) (hb2 : decide (lg_cmp w2 0 = 0) = true) (hb3 : decide (lg_cmp w3 0 = 0) = false) : z_C d mi_X6_endUnwon [.ref 0] μ (fun r μ' => r = none ∧ μ' = eHB (z_ui (z_ui (z_ui (z_ui μ 18 4 ((μ.1 18 4) + (-1500))) 26 4 ((μ.1 26 4) + 1500)) 34 4 ((μ.1 34 4) + (-1500))) 42 4 ((μ.1 42 4) + 1500)) (!(decide ((lg_cmp wd 0) = 0))) false (xBk (z_ui (z_ui (z_ui (z_ui μ 18 4 ((μ.1 18 4) + (-1500))) 26 4 ((μ.1 26 4) + 1500)) 34 4 ((μ.1 34 4) + (-1500))) 42 4 ((μ.1 42 4) + 1500))) dl e (rcM (z_ui (z_ui (z_ui (z_ui μ 18 4 ((μ.1 18 4) + (-1500))) 26 4 ((μ.1 26 4) + 1500)) 34 4 ((μ.1 34 4) + (-1500))) 42 4 ((μ.1 42 4) + 1500)))) := by
  refine z_C_in (by decide) (by omega) (fun d' Z ed hc hr => ?_)
  have hH : zH mi_X6_endUnwon zt_X6_endUnwon 79 6 6 := hh_X6_endUnwon
  refine z_rcs hc hH 9 (pc' := 11) (lv' := [(2, .int 0), (1, .int 0), (0, .ref 0)]) (st' := [.int 0, .ref 0]) (μ' := μ) (by rfl) ?_
  refine zq_call hc (z_cx_ok hH (by rfl)) (gc_at d' (by omega) μ 0 (by decide)) (by decide +kernel) (fun r9 μ9 hq => ?_)
  obtain ⟨hμ9, rfl⟩ := hq
  rw [hμ9]
  clear hμ9 μ9
  show Z 0 14 [(2, .int 0), (1, .int 0), (0, .ref 0)] [.ref 18] μ
  refine zq_gfr hc hH (by rfl) (ci := 1) (f := 0) (q := 19) (by rfl) (by decide +kernel) (by rfl) (by decide +kernel) ?_
  refine zq_call hc (z_cx_ok hH (by rfl)) (hw0 _ (TE_rf _) d' (by omega)) (by decide +kernel) (fun r9 μ9 hq => ?_)
  obtain ⟨hμ9, rfl⟩ := hq
  rw [hμ9]
  clear hμ9 μ9
  show Z 0 20 [(2, .int 0), (1, .int 0), (0, .ref 0)] [.long w0] μ
  refine z_rcs hc hH 2 (pc' := 22) (lv' := [(2, .int 0), (1, .int 0), (0, .ref 0)]) (st' := [.int (lg_cmp w0 0)]) (μ' := μ) (by rfl) ?_
  refine zq_if hc hH (by rfl) (tg := 28) (by rfl) (fun h1 => ?_) (fun h1 => ?_)
  · have h1 : (decide ((lg_cmp w0 0) = 0)) = true := decide_eq_true (cm_eq9.mp h1)
    refine z_rcs hc hH 7 (pc' := 11) (lv' := [(2, .int 1), (1, .int 0), (0, .ref 0)]) (st' := [.int 1, .ref 0]) (μ' := μ) (by rfl) ?_
    refine zq_call hc (z_cx_ok hH (by rfl)) (gc_at d' (by omega) μ 1 (by decide)) (by decide +kernel) (fun r9 μ9 hq => ?_)
    obtain ⟨hμ9, rfl⟩ := hq
    rw [hμ9]
    clear hμ9 μ9
    show Z 0 14 [(2, .int 1), (1, .int 0), (0, .ref 0)] [.ref 26] μ
    refine zq_gfr hc hH (by rfl) (ci := 1) (f := 0) (q := 27) (by rfl) (by decide +kernel) (by rfl) (by decide +kernel) ?_
    refine zq_call hc (z_cx_ok hH (by rfl)) (hw1 _ (TE_rf _) d' (by omega)) (by decide +kernel) (fun r9 μ9 hq => ?_)
    obtain ⟨hμ9, rfl⟩ := hq
    rw [hμ9]
    clear hμ9 μ9
    show Z 0 20 [(2, .int 1), (1, .int 0), (0, .ref 0)] [.long w1] μ
    refine z_rcs hc hH 2 (pc' := 22) (lv' := [(2, .int 1), (1, .int 0), (0, .ref 0)]) (st' := [.int (lg_cmp w1 0)]) (μ' := μ) (by rfl) ?_
    refine zq_if hc hH (by rfl) (tg := 28) (by rfl) (fun h2 => ?_) (fun h2 => ?_)
    · have h2 : (decide ((lg_cmp w1 0) = 0)) = true := decide_eq_true (cm_eq9.mp h2)
      exact absurd (Eq.trans (Eq.symm (hb1)) h2) (by decide)
    · have h2 : (decide ((lg_cmp w1 0) = 0)) = false := decide_eq_false (cn_eq.mp h2)
      refine z_rcs hc hH 8 (pc' := 11) (lv' := [(2, .int 2), (1, .int 1), (0, .ref 0)]) (st' := [.int 2, .ref 0]) (μ' := μ) (by rfl) ?_
      refine zq_call hc (z_cx_ok hH (by rfl)) (gc_at d' (by omega) μ 2 (by decide)) (by decide +kernel) (fun r9 μ9 hq => ?_)
      obtain ⟨hμ9, rfl⟩ := hq
      rw [hμ9]
      clear hμ9 μ9
      show Z 0 14 [(2, .int 2), (1, .int 1), (0, .ref 0)] [.ref 34] μ
      refine zq_gfr hc hH (by rfl) (ci := 1) (f := 0) (q := 35) (by rfl) (by decide +kernel) (by rfl) (by decide +kernel) ?_
      refine zq_call hc (z_cx_ok hH (by rfl)) (hw2 _ (TE_rf _) d' (by omega)) (by decide +kernel) (fun r9 μ9 hq => ?_)
      obtain ⟨hμ9, rfl⟩ := hq
      rw [hμ9]
      clear hμ9 μ9
      show Z 0 20 [(2, .int 2), (1, .int 1), (0, .ref 0)] [.long w2] μ
      refine z_rcs hc hH 2 (pc' := 22) (lv' := [(2, .int 2), (1, .int 1), (0, .ref 0)]) (st' := [.int (lg_cmp w2 0)]) (μ' := μ) (by rfl) ?_
      refine zq_if hc hH (by rfl) (tg := 28) (by rfl) (fun h3 => ?_) (fun h3 => ?_)
      · have h3 : (decide ((lg_cmp w2 0) = 0)) = true := decide_eq_true (cm_eq9.mp h3)
        refine z_rcs hc hH 7 (pc' := 11) (lv' := [(2, .int 3), (1, .int 1), (0, .ref 0)]) (st' := [.int 3, .ref 0]) (μ' := μ) (by rfl) ?_
        refine zq_call hc (z_cx_ok hH (by rfl)) (gc_at d' (by omega) μ 3 (by decide)) (by decide +kernel) (fun r9 μ9 hq => ?_)
        obtain ⟨hμ9, rfl⟩ := hq
        rw [hμ9]
        clear hμ9 μ9
        show Z 0 14 [(2, .int 3), (1, .int 1), (0, .ref 0)] [.ref 42] μ
        refine zq_gfr hc hH (by rfl) (ci := 1) (f := 0) (q := 43) (by rfl) (by decide +kernel) (by rfl) (by decide +kernel) ?_
        refine zq_call hc (z_cx_ok hH (by rfl)) (hw3 _ (TE_rf _) d' (by omega)) (by decide +kernel) (fun r9 μ9 hq => ?_)
        obtain ⟨hμ9, rfl⟩ := hq
        rw [hμ9]
        clear hμ9 μ9
        show Z 0 20 [(2, .int 3), (1, .int 1), (0, .ref 0)] [.long w3] μ
        refine z_rcs hc hH 2 (pc' := 22) (lv' := [(2, .int 3), (1, .int 1), (0, .ref 0)]) (st' := [.int (lg_cmp w3 0)]) (μ' := μ) (by rfl) ?_
        refine zq_if hc hH (by rfl) (tg := 28) (by rfl) (fun h4 => ?_) (fun h4 => ?_)
        · have h4 : (decide ((lg_cmp w3 0) = 0)) = true := decide_eq_true (cm_eq9.mp h4)
          exact absurd (Eq.trans (Eq.symm (hb3)) h4) (by decide)
        · have h4 : (decide ((lg_cmp w3 0) = 0)) = false := decide_eq_false (cn_eq.mp h4)
          refine z_rcs hc hH 8 (pc' := 36) (lv' := [(2, .int 4), (1, .int 2), (0, .ref 0)]) (st' := [.ref 0, .ref 0]) (μ' := μ) (by rfl) ?_
          refine zq_gfi hc hH (by rfl) (ci := 5) (f := 9) (by rfl) (by decide +kernel) (by rfl) ?_
          rw [hdl]
          refine zq_call hc (z_cx_ok hH (by rfl)) (gc_at4 d' (by omega) μ dl hdl4) (by decide +kernel) (fun r9 μ9 hq => ?_)
          obtain ⟨hμ9, rfl⟩ := hq
          rw [hμ9]
          clear hμ9 μ9
          show Z 0 42 [(2, .int 4), (1, .int 2), (0, .ref 0)] [.ref (18 + 8 * dl)] μ
          refine zq_gfr hc hH (by rfl) (ci := 1) (f := 0) (q := 19 + 8 * dl) (by rfl) (sj (P := fun i => okf 79 1 0 (18 + 8 * i)) hdl4 (by decide +kernel)) (by rfl) (sj (P := fun i => Nat.beq (z_gr (18 + 8 * i) 0) (19 + 8 * i)) hdl4 (by decide +kernel)) ?_
          refine zq_call hc (z_clv9 hH (by rfl) (by rfl) (by rfl) (by rfl) (sj (P := fun i => okr 79 2 (19 + 8 * i)) hdl4 (by decide +kernel)) (by rfl) (by rfl)) ((hwd _ (TE_rf _) d' (by omega))) (by decide +kernel) (fun r9 μ9 hq => ?_)
          obtain ⟨hμ9, rfl⟩ := hq
          rw [hμ9]
          clear hμ9 μ9
          show Z 0 48 [(2, .int 4), (1, .int 2), (0, .ref 0)] [.long wd] μ
          refine z_rcs hc hH 2 (pc' := 50) (lv' := [(2, .int 4), (1, .int 2), (0, .ref 0)]) (st' := [.int (lg_cmp wd 0)]) (μ' := μ) (by rfl) ?_
          have hJ5 : Z 0 58 [(2, .int 4), (1, .int 2), (0, .ref 0)] [.int (nB (!(decide ((lg_cmp wd 0) = 0))))] μ := by
            refine z_rcs hc hH 23 (pc' := 95) (lv' := [(5, .int 0), (4, .int 1500), (3, .int 1500), (2, .int (nB (!(decide ((lg_cmp wd 0) = 0))))), (1, .int 2), (0, .ref 0)]) (st' := [.int 0, .ref 0]) (μ' := μ) (by rfl) ?_
            refine zq_call hc (z_cx_ok hH (by rfl)) (gc_at d' (by omega) μ 0 (by decide)) (by decide +kernel) (fun r9 μ9 hq => ?_)
            obtain ⟨hμ9, rfl⟩ := hq
            rw [hμ9]
            clear hμ9 μ9
            show Z 0 98 [(5, .int 0), (4, .int 1500), (3, .int 1500), (2, .int (nB (!(decide ((lg_cmp wd 0) = 0))))), (1, .int 2), (0, .ref 0)] [.ref 18] μ
            refine z_rcs hc hH 1 (pc' := 99) (lv' := [(5, .int 0), (4, .int 1500), (3, .int 1500), (2, .int (nB (!(decide ((lg_cmp wd 0) = 0))))), (1, .int 2), (0, .ref 0)]) (st' := [.ref 18, .ref 18]) (μ' := μ) (by rfl) ?_
            refine zq_gfi hc hH (by rfl) (ci := 1) (f := 4) (by rfl) (by decide +kernel) (by rfl) ?_
            refine z_rcs hc hH 2 (pc' := 105) (lv' := [(5, .int 0), (4, .int 1500), (3, .int 1500), (2, .int (nB (!(decide ((lg_cmp wd 0) = 0))))), (1, .int 2), (0, .ref 0)]) (st' := [.int 0, .ref 0, .int (μ.1 18 4), .ref 18]) (μ' := μ) (by rfl) ?_
            refine zq_call hc (z_cx_ok hH (by rfl)) (gc_at d' (by omega) μ 0 (by decide)) (by decide +kernel) (fun r9 μ9 hq => ?_)
            obtain ⟨hμ9, rfl⟩ := hq
            rw [hμ9]
            clear hμ9 μ9
            show Z 0 108 [(5, .int 0), (4, .int 1500), (3, .int 1500), (2, .int (nB (!(decide ((lg_cmp wd 0) = 0))))), (1, .int 2), (0, .ref 0)] [.ref 18, .int (μ.1 18 4), .ref 18] μ
            refine zq_gfr hc hH (by rfl) (ci := 1) (f := 0) (q := 19) (by rfl) (by decide +kernel) (by rfl) (by decide +kernel) ?_
            refine zq_call hc (z_cx_ok hH (by rfl)) (hw0 _ (TE_rf _) d' (by omega)) (by decide +kernel) (fun r9 μ9 hq => ?_)
            obtain ⟨hμ9, rfl⟩ := hq
            rw [hμ9]
            clear hμ9 μ9
            show Z 0 114 [(5, .int 0), (4, .int 1500), (3, .int 1500), (2, .int (nB (!(decide ((lg_cmp wd 0) = 0))))), (1, .int 2), (0, .ref 0)] [.long w0, .int (μ.1 18 4), .ref 18] μ
            refine z_rcs hc hH 2 (pc' := 116) (lv' := [(5, .int 0), (4, .int 1500), (3, .int 1500), (2, .int (nB (!(decide ((lg_cmp wd 0) = 0))))), (1, .int 2), (0, .ref 0)]) (st' := [.int (lg_cmp w0 0), .int (μ.1 18 4), .ref 18]) (μ' := μ) (by rfl) ?_
            refine zq_if hc hH (by rfl) (tg := 123) (by rfl) (fun h6 => ?_) (fun h6 => ?_)
            · have h6 : (decide ((lg_cmp w0 0) = 0)) = true := decide_eq_true (cm_eq9.mp h6)
              refine z_rcs hc hH 3 (pc' := 127) (lv' := [(5, .int 0), (4, .int 1500), (3, .int 1500), (2, .int (nB (!(decide ((lg_cmp wd 0) = 0))))), (1, .int 2), (0, .ref 0)]) (st' := [.int ((μ.1 18 4) + (-1500)), .ref 18]) (μ' := μ) (by rfl) ?_
              refine zq_pfi hc hH (by rfl) (ci := 1) (f := 4) (by rfl) (by decide +kernel) (by rfl) ?_
              show Z 0 130 [(5, .int 0), (4, .int 1500), (3, .int 1500), (2, .int (nB (!(decide ((lg_cmp wd 0) = 0))))), (1, .int 2), (0, .ref 0)] [] (z_ui μ 18 4 ((μ.1 18 4) + (-1500)))
              refine z_rcs0 hc hH 7 (pc' := 95) (lv' := [(5, .int 1), (4, .int 1500), (3, .int 1500), (2, .int (nB (!(decide ((lg_cmp wd 0) = 0))))), (1, .int 2), (0, .ref 0)]) (st' := [.int 1, .ref 0]) (by rfl) ?_
              refine zq_call hc (z_cx_ok hH (by rfl)) (gc_at d' (by omega) (z_ui μ 18 4 ((μ.1 18 4) + (-1500))) 1 (by decide)) (by decide +kernel) (fun r9 μ9 hq => ?_)
              obtain ⟨hμ9, rfl⟩ := hq
              rw [hμ9]
              clear hμ9 μ9
              show Z 0 98 [(5, .int 1), (4, .int 1500), (3, .int 1500), (2, .int (nB (!(decide ((lg_cmp wd 0) = 0))))), (1, .int 2), (0, .ref 0)] [.ref 26] _
              refine z_rcs0 hc hH 1 (pc' := 99) (lv' := [(5, .int 1), (4, .int 1500), (3, .int 1500), (2, .int (nB (!(decide ((lg_cmp wd 0) = 0))))), (1, .int 2), (0, .ref 0)]) (st' := [.ref 26, .ref 26]) (by rfl) ?_
              refine zq_gfi hc hH (by rfl) (ci := 1) (f := 4) (by rfl) (by decide +kernel) (by rfl) ?_
              refine zV1 (Z := Z) (ui_o (by first | decide | omega)) ?_
              refine z_rcs0 hc hH 2 (pc' := 105) (lv' := [(5, .int 1), (4, .int 1500), (3, .int 1500), (2, .int (nB (!(decide ((lg_cmp wd 0) = 0))))), (1, .int 2), (0, .ref 0)]) (st' := [.int 1, .ref 0, .int (μ.1 26 4), .ref 26]) (by rfl) ?_
              refine zq_call hc (z_cx_ok hH (by rfl)) (gc_at d' (by omega) (z_ui μ 18 4 ((μ.1 18 4) + (-1500))) 1 (by decide)) (by decide +kernel) (fun r9 μ9 hq => ?_)
              obtain ⟨hμ9, rfl⟩ := hq
              rw [hμ9]
              clear hμ9 μ9
              show Z 0 108 [(5, .int 1), (4, .int 1500), (3, .int 1500), (2, .int (nB (!(decide ((lg_cmp wd 0) = 0))))), (1, .int 2), (0, .ref 0)] [.ref 26, .int (μ.1 26 4), .ref 26] _
              refine zq_gfr hc hH (by rfl) (ci := 1) (f := 0) (q := 27) (by rfl) (by decide +kernel) (by rfl) (by decide +kernel) ?_
              refine zq_call hc (z_cx_ok hH (by rfl)) (hw1 _ (TE_ui (TE_rf _) (by intro i a hi h1 h2; omega)) d' (by omega)) (by decide +kernel) (fun r9 μ9 hq => ?_)
              obtain ⟨hμ9, rfl⟩ := hq
              rw [hμ9]
              clear hμ9 μ9
              show Z 0 114 [(5, .int 1), (4, .int 1500), (3, .int 1500), (2, .int (nB (!(decide ((lg_cmp wd 0) = 0))))), (1, .int 2), (0, .ref 0)] [.long w1, .int (μ.1 26 4), .ref 26] _
              refine z_rcs0 hc hH 2 (pc' := 116) (lv' := [(5, .int 1), (4, .int 1500), (3, .int 1500), (2, .int (nB (!(decide ((lg_cmp wd 0) = 0))))), (1, .int 2), (0, .ref 0)]) (st' := [.int (lg_cmp w1 0), .int (μ.1 26 4), .ref 26]) (by rfl) ?_
              refine zq_if hc hH (by rfl) (tg := 123) (by rfl) (fun h7 => ?_) (fun h7 => ?_)
              · have h7 : (decide ((lg_cmp w1 0) = 0)) = true := decide_eq_true (cm_eq9.mp h7)
                exact absurd (Eq.trans (Eq.symm (hb1)) h7) (by decide)
              · have h7 : (decide ((lg_cmp w1 0) = 0)) = false := decide_eq_false (cn_eq.mp h7)
                refine z_rcs0 hc hH 3 (pc' := 127) (lv' := [(5, .int 1), (4, .int 1500), (3, .int 1500), (2, .int (nB (!(decide ((lg_cmp wd 0) = 0))))), (1, .int 2), (0, .ref 0)]) (st' := [.int ((μ.1 26 4) + 1500), .ref 26]) (by rfl) ?_
                refine zq_pfi hc hH (by rfl) (ci := 1) (f := 4) (by rfl) (by decide +kernel) (by rfl) ?_
                show Z 0 130 [(5, .int 1), (4, .int 1500), (3, .int 1500), (2, .int (nB (!(decide ((lg_cmp wd 0) = 0))))), (1, .int 2), (0, .ref 0)] [] (z_ui (z_ui μ 18 4 ((μ.1 18 4) + (-1500))) 26 4 ((μ.1 26 4) + 1500))
                refine z_rcs0 hc hH 7 (pc' := 95) (lv' := [(5, .int 2), (4, .int 1500), (3, .int 1500), (2, .int (nB (!(decide ((lg_cmp wd 0) = 0))))), (1, .int 2), (0, .ref 0)]) (st' := [.int 2, .ref 0]) (by rfl) ?_
                refine zq_call hc (z_cx_ok hH (by rfl)) (gc_at d' (by omega) (z_ui (z_ui μ 18 4 ((μ.1 18 4) + (-1500))) 26 4 ((μ.1 26 4) + 1500)) 2 (by decide)) (by decide +kernel) (fun r9 μ9 hq => ?_)
                obtain ⟨hμ9, rfl⟩ := hq
                rw [hμ9]
                clear hμ9 μ9
                show Z 0 98 [(5, .int 2), (4, .int 1500), (3, .int 1500), (2, .int (nB (!(decide ((lg_cmp wd 0) = 0))))), (1, .int 2), (0, .ref 0)] [.ref 34] _
                refine z_rcs0 hc hH 1 (pc' := 99) (lv' := [(5, .int 2), (4, .int 1500), (3, .int 1500), (2, .int (nB (!(decide ((lg_cmp wd 0) = 0))))), (1, .int 2), (0, .ref 0)]) (st' := [.ref 34, .ref 34]) (by rfl) ?_
                refine zq_gfi hc hH (by rfl) (ci := 1) (f := 4) (by rfl) (by decide +kernel) (by rfl) ?_
                refine zV1 (Z := Z) (Eq.trans (ui_o (by first | decide | omega)) (ui_o (by first | decide | omega))) ?_
                refine z_rcs0 hc hH 2 (pc' := 105) (lv' := [(5, .int 2), (4, .int 1500), (3, .int 1500), (2, .int (nB (!(decide ((lg_cmp wd 0) = 0))))), (1, .int 2), (0, .ref 0)]) (st' := [.int 2, .ref 0, .int (μ.1 34 4), .ref 34]) (by rfl) ?_
                refine zq_call hc (z_cx_ok hH (by rfl)) (gc_at d' (by omega) (z_ui (z_ui μ 18 4 ((μ.1 18 4) + (-1500))) 26 4 ((μ.1 26 4) + 1500)) 2 (by decide)) (by decide +kernel) (fun r9 μ9 hq => ?_)
                obtain ⟨hμ9, rfl⟩ := hq
                rw [hμ9]
                clear hμ9 μ9
                show Z 0 108 [(5, .int 2), (4, .int 1500), (3, .int 1500), (2, .int (nB (!(decide ((lg_cmp wd 0) = 0))))), (1, .int 2), (0, .ref 0)] [.ref 34, .int (μ.1 34 4), .ref 34] _
                refine zq_gfr hc hH (by rfl) (ci := 1) (f := 0) (q := 35) (by rfl) (by decide +kernel) (by rfl) (by decide +kernel) ?_
                refine zq_call hc (z_cx_ok hH (by rfl)) (hw2 _ (TE_ui (TE_ui (TE_rf _) (by intro i a hi h1 h2; omega)) (by intro i a hi h1 h2; omega)) d' (by omega)) (by decide +kernel) (fun r9 μ9 hq => ?_)
                obtain ⟨hμ9, rfl⟩ := hq
                rw [hμ9]
                clear hμ9 μ9
                show Z 0 114 [(5, .int 2), (4, .int 1500), (3, .int 1500), (2, .int (nB (!(decide ((lg_cmp wd 0) = 0))))), (1, .int 2), (0, .ref 0)] [.long w2, .int (μ.1 34 4), .ref 34] _
                refine z_rcs0 hc hH 2 (pc' := 116) (lv' := [(5, .int 2), (4, .int 1500), (3, .int 1500), (2, .int (nB (!(decide ((lg_cmp wd 0) = 0))))), (1, .int 2), (0, .ref 0)]) (st' := [.int (lg_cmp w2 0), .int (μ.1 34 4), .ref 34]) (by rfl) ?_
                refine zq_if hc hH (by rfl) (tg := 123) (by rfl) (fun h8 => ?_) (fun h8 => ?_)
                · have h8 : (decide ((lg_cmp w2 0) = 0)) = true := decide_eq_true (cm_eq9.mp h8)
                  refine z_rcs0 hc hH 3 (pc' := 127) (lv' := [(5, .int 2), (4, .int 1500), (3, .int 1500), (2, .int (nB (!(decide ((lg_cmp wd 0) = 0))))), (1, .int 2), (0, .ref 0)]) (st' := [.int ((μ.1 34 4) + (-1500)), .ref 34]) (by rfl) ?_
                  refine zq_pfi hc hH (by rfl) (ci := 1) (f := 4) (by rfl) (by decide +kernel) (by rfl) ?_
                  show Z 0 130 [(5, .int 2), (4, .int 1500), (3, .int 1500), (2, .int (nB (!(decide ((lg_cmp wd 0) = 0))))), (1, .int 2), (0, .ref 0)] [] (z_ui (z_ui (z_ui μ 18 4 ((μ.1 18 4) + (-1500))) 26 4 ((μ.1 26 4) + 1500)) 34 4 ((μ.1 34 4) + (-1500)))
                  refine z_rcs0 hc hH 7 (pc' := 95) (lv' := [(5, .int 3), (4, .int 1500), (3, .int 1500), (2, .int (nB (!(decide ((lg_cmp wd 0) = 0))))), (1, .int 2), (0, .ref 0)]) (st' := [.int 3, .ref 0]) (by rfl) ?_
                  refine zq_call hc (z_cx_ok hH (by rfl)) (gc_at d' (by omega) (z_ui (z_ui (z_ui μ 18 4 ((μ.1 18 4) + (-1500))) 26 4 ((μ.1 26 4) + 1500)) 34 4 ((μ.1 34 4) + (-1500))) 3 (by decide)) (by decide +kernel) (fun r9 μ9 hq => ?_)
                  obtain ⟨hμ9, rfl⟩ := hq
                  rw [hμ9]
                  clear hμ9 μ9
                  show Z 0 98 [(5, .int 3), (4, .int 1500), (3, .int 1500), (2, .int (nB (!(decide ((lg_cmp wd 0) = 0))))), (1, .int 2), (0, .ref 0)] [.ref 42] _
                  refine z_rcs0 hc hH 1 (pc' := 99) (lv' := [(5, .int 3), (4, .int 1500), (3, .int 1500), (2, .int (nB (!(decide ((lg_cmp wd 0) = 0))))), (1, .int 2), (0, .ref 0)]) (st' := [.ref 42, .ref 42]) (by rfl) ?_
                  refine zq_gfi hc hH (by rfl) (ci := 1) (f := 4) (by rfl) (by decide +kernel) (by rfl) ?_
                  refine zV1 (Z := Z) (Eq.trans (ui_o (by first | decide | omega)) (Eq.trans (ui_o (by first | decide | omega)) (ui_o (by first | decide | omega)))) ?_
                  refine z_rcs0 hc hH 2 (pc' := 105) (lv' := [(5, .int 3), (4, .int 1500), (3, .int 1500), (2, .int (nB (!(decide ((lg_cmp wd 0) = 0))))), (1, .int 2), (0, .ref 0)]) (st' := [.int 3, .ref 0, .int (μ.1 42 4), .ref 42]) (by rfl) ?_
                  refine zq_call hc (z_cx_ok hH (by rfl)) (gc_at d' (by omega) (z_ui (z_ui (z_ui μ 18 4 ((μ.1 18 4) + (-1500))) 26 4 ((μ.1 26 4) + 1500)) 34 4 ((μ.1 34 4) + (-1500))) 3 (by decide)) (by decide +kernel) (fun r9 μ9 hq => ?_)
                  obtain ⟨hμ9, rfl⟩ := hq
                  rw [hμ9]
                  clear hμ9 μ9
                  show Z 0 108 [(5, .int 3), (4, .int 1500), (3, .int 1500), (2, .int (nB (!(decide ((lg_cmp wd 0) = 0))))), (1, .int 2), (0, .ref 0)] [.ref 42, .int (μ.1 42 4), .ref 42] _
                  refine zq_gfr hc hH (by rfl) (ci := 1) (f := 0) (q := 43) (by rfl) (by decide +kernel) (by rfl) (by decide +kernel) ?_
                  refine zq_call hc (z_cx_ok hH (by rfl)) (hw3 _ (TE_ui (TE_ui (TE_ui (TE_rf _) (by intro i a hi h1 h2; omega)) (by intro i a hi h1 h2; omega)) (by intro i a hi h1 h2; omega)) d' (by omega)) (by decide +kernel) (fun r9 μ9 hq => ?_)
                  obtain ⟨hμ9, rfl⟩ := hq
                  rw [hμ9]
                  clear hμ9 μ9
                  show Z 0 114 [(5, .int 3), (4, .int 1500), (3, .int 1500), (2, .int (nB (!(decide ((lg_cmp wd 0) = 0))))), (1, .int 2), (0, .ref 0)] [.long w3, .int (μ.1 42 4), .ref 42] _
                  refine z_rcs0 hc hH 2 (pc' := 116) (lv' := [(5, .int 3), (4, .int 1500), (3, .int 1500), (2, .int (nB (!(decide ((lg_cmp wd 0) = 0))))), (1, .int 2), (0, .ref 0)]) (st' := [.int (lg_cmp w3 0), .int (μ.1 42 4), .ref 42]) (by rfl) ?_
                  refine zq_if hc hH (by rfl) (tg := 123) (by rfl) (fun h9 => ?_) (fun h9 => ?_)
                  · have h9 : (decide ((lg_cmp w3 0) = 0)) = true := decide_eq_true (cm_eq9.mp h9)
                    exact absurd (Eq.trans (Eq.symm (hb3)) h9) (by decide)
                  · have h9 : (decide ((lg_cmp w3 0) = 0)) = false := decide_eq_false (cn_eq.mp h9)
                    refine z_rcs0 hc hH 3 (pc' := 127) (lv' := [(5, .int 3), (4, .int 1500), (3, .int 1500), (2, .int (nB (!(decide ((lg_cmp wd 0) = 0))))), (1, .int 2), (0, .ref 0)]) (st' := [.int ((μ.1 42 4) + 1500), .ref 42]) (by rfl) ?_
                    refine zq_pfi hc hH (by rfl) (ci := 1) (f := 4) (by rfl) (by decide +kernel) (by rfl) ?_
                    show Z 0 130 [(5, .int 3), (4, .int 1500), (3, .int 1500), (2, .int (nB (!(decide ((lg_cmp wd 0) = 0))))), (1, .int 2), (0, .ref 0)] [] (z_ui (z_ui (z_ui (z_ui μ 18 4 ((μ.1 18 4) + (-1500))) 26 4 ((μ.1 26 4) + 1500)) 34 4 ((μ.1 34 4) + (-1500))) 42 4 ((μ.1 42 4) + 1500))
                    refine z_rcs0 hc hH 8 (pc' := 139) (lv' := [(5, .int 4), (4, .int 1500), (3, .int 1500), (2, .int (nB (!(decide ((lg_cmp wd 0) = 0))))), (1, .int 2), (0, .ref 0)]) (st' := [.int 0, .int (nB (!(decide ((lg_cmp wd 0) = 0)))), .ref 0]) (by rfl) ?_
                    refine zq_call hc (z_cx_ok hH (by rfl)) (gc_endHandB d' (by omega) (z_ui (z_ui (z_ui (z_ui μ 18 4 ((μ.1 18 4) + (-1500))) 26 4 ((μ.1 26 4) + 1500)) 34 4 ((μ.1 34 4) + (-1500))) 42 4 ((μ.1 42 4) + 1500)) (!(decide ((lg_cmp wd 0) = 0))) false dl e (by rw [ui_o (by first | decide | omega), ui_o (by first | decide | omega), ui_o (by first | decide | omega), ui_o (by first | decide | omega)]; exact hdl) hdl4 he) (by decide +kernel) (fun r9 μ9 hq => ?_)
                    obtain ⟨rfl, rfl⟩ := hq
                    show Z 0 142 [(5, .int 4), (4, .int 1500), (3, .int 1500), (2, .int (nB (!(decide ((lg_cmp wd 0) = 0))))), (1, .int 2), (0, .ref 0)] [] (eHB (z_ui (z_ui (z_ui (z_ui μ 18 4 ((μ.1 18 4) + (-1500))) 26 4 ((μ.1 26 4) + 1500)) 34 4 ((μ.1 34 4) + (-1500))) 42 4 ((μ.1 42 4) + 1500)) (!(decide ((lg_cmp wd 0) = 0))) false (xBk (z_ui (z_ui (z_ui (z_ui μ 18 4 ((μ.1 18 4) + (-1500))) 26 4 ((μ.1 26 4) + 1500)) 34 4 ((μ.1 34 4) + (-1500))) 42 4 ((μ.1 42 4) + 1500))) dl e (rcM (z_ui (z_ui (z_ui (z_ui μ 18 4 ((μ.1 18 4) + (-1500))) 26 4 ((μ.1 26 4) + 1500)) 34 4 ((μ.1 34 4) + (-1500))) 42 4 ((μ.1 42 4) + 1500))))
                    exact hr 0 142 _ _ _ none (by decide +kernel) (by rfl) (⟨rfl, rfl⟩)
                · have h8 : (decide ((lg_cmp w2 0) = 0)) = false := decide_eq_false (cn_eq.mp h8)
                  exact absurd (Eq.trans (Eq.symm (hb2)) h8) (by decide)
            · have h6 : (decide ((lg_cmp w0 0) = 0)) = false := decide_eq_false (cn_eq.mp h6)
              exact absurd (Eq.trans (Eq.symm (hb0)) h6) (by decide)
          refine zq_if hc hH (by rfl) (tg := 57) (by rfl) (fun h10 => ?_) (fun h10 => ?_)
          · have h10 : (decide ((lg_cmp wd 0) = 0)) = true := decide_eq_true (cm_eq9.mp h10)
            refine z_rcs hc hH 1 (pc' := 58) (lv' := [(2, .int 4), (1, .int 2), (0, .ref 0)]) (st' := [.int 0]) (μ' := μ) (by rfl) ?_
            exact zJ hJ5 rfl (by first | with_reducible rfl | (simp only [h10, lb_f, Int64.or_zero, Int32.add_zero, nB_t, nB_f, Bool.not_true, Bool.not_false, Bool.and_true, Bool.true_and, Bool.false_and, Bool.and_false, Bool.or_true, Bool.true_or, Bool.false_or, Bool.or_false, cond_true, cond_false]; done) | rfl) rfl
          · have h10 : (decide ((lg_cmp wd 0) = 0)) = false := decide_eq_false (cn_eq.mp h10)
            refine z_rcs hc hH 2 (pc' := 58) (lv' := [(2, .int 4), (1, .int 2), (0, .ref 0)]) (st' := [.int 1]) (μ' := μ) (by rfl) ?_
            exact zJ hJ5 rfl (by first | with_reducible rfl | (simp only [h10, lb_f, Int64.or_zero, Int32.add_zero, nB_t, nB_f, Bool.not_true, Bool.not_false, Bool.and_true, Bool.true_and, Bool.false_and, Bool.and_false, Bool.or_true, Bool.true_or, Bool.false_or, Bool.or_false, cond_true, cond_false]; done) | rfl) rfl
      · have h3 : (decide ((lg_cmp w2 0) = 0)) = false := decide_eq_false (cn_eq.mp h3)
        exact absurd (Eq.trans (Eq.symm (hb2)) h3) (by decide)
  · have h1 : (decide ((lg_cmp w0 0) = 0)) = false := decide_eq_false (cn_eq.mp h1)
    exact absurd (Eq.trans (Eq.symm (hb0)) h1) (by decide)
theorem gc_endUnwon0110 (d : Nat) (hd : 8 ≤ d) (μ : zM) (dl e : Nat) (hdl : μ.1 0 9 = nI dl) (hdl4 : dl < 4) (he : (dl + 1) % 4 = e) (w0 : Int64) (hw0 : ∀ μ1, TE μ μ1 → ∀ d, 7 ≤ d → z_C d mi_X3_waiting [.ref 19] μ1 (zR μ1 (.long w0))) (w1 : Int64) (hw1 : ∀ μ1, TE μ μ1 → ∀ d, 7 ≤ d → z_C d mi_X3_waiting [.ref 27] μ1 (zR μ1 (.long w1))) (w2 : Int64) (hw2 : ∀ μ1, TE μ μ1 → ∀ d, 7 ≤ d → z_C d mi_X3_waiting [.ref 35] μ1 (zR μ1 (.long w2))) (w3 : Int64) (hw3 : ∀ μ1, TE μ μ1 → ∀ d, 7 ≤ d → z_C d mi_X3_waiting [.ref 43] μ1 (zR μ1 (.long w3))) (wd : Int64) (hwd : ∀ μ1, TE μ μ1 → ∀ d, 7 ≤ d → z_C d mi_X3_waiting [.ref (19 + 8 * dl)] μ1 (zR μ1 (.long wd))) (hb0 : decide (lg_cmp w0 0 = 0) = true) (hb1 : decide (lg_cmp w1 0 = 0) = false) (hb2 : decide (lg_cmp w2 0 = 0) = false) (hb3 : decide (lg_cmp w3 0 = 0) = true) : z_C d mi_X6_endUnwon [.ref 0] μ (fun r μ' => r = none ∧ μ' = eHB (z_ui (z_ui (z_ui (z_ui μ 18 4 ((μ.1 18 4) + (-1500))) 26 4 ((μ.1 26 4) + 1500)) 34 4 ((μ.1 34 4) + 1500)) 42 4 ((μ.1 42 4) + (-1500))) (!(decide ((lg_cmp wd 0) = 0))) false (xBk (z_ui (z_ui (z_ui (z_ui μ 18 4 ((μ.1 18 4) + (-1500))) 26 4 ((μ.1 26 4) + 1500)) 34 4 ((μ.1 34 4) + 1500)) 42 4 ((μ.1 42 4) + (-1500)))) dl e (rcM (z_ui (z_ui (z_ui (z_ui μ 18 4 ((μ.1 18 4) + (-1500))) 26 4 ((μ.1 26 4) + 1500)) 34 4 ((μ.1 34 4) + 1500)) 42 4 ((μ.1 42 4) + (-1500))))) := by
  refine z_C_in (by decide) (by omega) (fun d' Z ed hc hr => ?_)
  have hH : zH mi_X6_endUnwon zt_X6_endUnwon 79 6 6 := hh_X6_endUnwon
  refine z_rcs hc hH 9 (pc' := 11) (lv' := [(2, .int 0), (1, .int 0), (0, .ref 0)]) (st' := [.int 0, .ref 0]) (μ' := μ) (by rfl) ?_
  refine zq_call hc (z_cx_ok hH (by rfl)) (gc_at d' (by omega) μ 0 (by decide)) (by decide +kernel) (fun r9 μ9 hq => ?_)
  obtain ⟨hμ9, rfl⟩ := hq
  rw [hμ9]
  clear hμ9 μ9
  show Z 0 14 [(2, .int 0), (1, .int 0), (0, .ref 0)] [.ref 18] μ
  refine zq_gfr hc hH (by rfl) (ci := 1) (f := 0) (q := 19) (by rfl) (by decide +kernel) (by rfl) (by decide +kernel) ?_
  refine zq_call hc (z_cx_ok hH (by rfl)) (hw0 _ (TE_rf _) d' (by omega)) (by decide +kernel) (fun r9 μ9 hq => ?_)
  obtain ⟨hμ9, rfl⟩ := hq
  rw [hμ9]
  clear hμ9 μ9
  show Z 0 20 [(2, .int 0), (1, .int 0), (0, .ref 0)] [.long w0] μ
  refine z_rcs hc hH 2 (pc' := 22) (lv' := [(2, .int 0), (1, .int 0), (0, .ref 0)]) (st' := [.int (lg_cmp w0 0)]) (μ' := μ) (by rfl) ?_
  refine zq_if hc hH (by rfl) (tg := 28) (by rfl) (fun h1 => ?_) (fun h1 => ?_)
  · have h1 : (decide ((lg_cmp w0 0) = 0)) = true := decide_eq_true (cm_eq9.mp h1)
    refine z_rcs hc hH 7 (pc' := 11) (lv' := [(2, .int 1), (1, .int 0), (0, .ref 0)]) (st' := [.int 1, .ref 0]) (μ' := μ) (by rfl) ?_
    refine zq_call hc (z_cx_ok hH (by rfl)) (gc_at d' (by omega) μ 1 (by decide)) (by decide +kernel) (fun r9 μ9 hq => ?_)
    obtain ⟨hμ9, rfl⟩ := hq
    rw [hμ9]
    clear hμ9 μ9
    show Z 0 14 [(2, .int 1), (1, .int 0), (0, .ref 0)] [.ref 26] μ
    refine zq_gfr hc hH (by rfl) (ci := 1) (f := 0) (q := 27) (by rfl) (by decide +kernel) (by rfl) (by decide +kernel) ?_
    refine zq_call hc (z_cx_ok hH (by rfl)) (hw1 _ (TE_rf _) d' (by omega)) (by decide +kernel) (fun r9 μ9 hq => ?_)
    obtain ⟨hμ9, rfl⟩ := hq
    rw [hμ9]
    clear hμ9 μ9
    show Z 0 20 [(2, .int 1), (1, .int 0), (0, .ref 0)] [.long w1] μ
    refine z_rcs hc hH 2 (pc' := 22) (lv' := [(2, .int 1), (1, .int 0), (0, .ref 0)]) (st' := [.int (lg_cmp w1 0)]) (μ' := μ) (by rfl) ?_
    refine zq_if hc hH (by rfl) (tg := 28) (by rfl) (fun h2 => ?_) (fun h2 => ?_)
    · have h2 : (decide ((lg_cmp w1 0) = 0)) = true := decide_eq_true (cm_eq9.mp h2)
      exact absurd (Eq.trans (Eq.symm (hb1)) h2) (by decide)
    · have h2 : (decide ((lg_cmp w1 0) = 0)) = false := decide_eq_false (cn_eq.mp h2)
      refine z_rcs hc hH 8 (pc' := 11) (lv' := [(2, .int 2), (1, .int 1), (0, .ref 0)]) (st' := [.int 2, .ref 0]) (μ' := μ) (by rfl) ?_
      refine zq_call hc (z_cx_ok hH (by rfl)) (gc_at d' (by omega) μ 2 (by decide)) (by decide +kernel) (fun r9 μ9 hq => ?_)
      obtain ⟨hμ9, rfl⟩ := hq
      rw [hμ9]
      clear hμ9 μ9
      show Z 0 14 [(2, .int 2), (1, .int 1), (0, .ref 0)] [.ref 34] μ
      refine zq_gfr hc hH (by rfl) (ci := 1) (f := 0) (q := 35) (by rfl) (by decide +kernel) (by rfl) (by decide +kernel) ?_
      refine zq_call hc (z_cx_ok hH (by rfl)) (hw2 _ (TE_rf _) d' (by omega)) (by decide +kernel) (fun r9 μ9 hq => ?_)
      obtain ⟨hμ9, rfl⟩ := hq
      rw [hμ9]
      clear hμ9 μ9
      show Z 0 20 [(2, .int 2), (1, .int 1), (0, .ref 0)] [.long w2] μ
      refine z_rcs hc hH 2 (pc' := 22) (lv' := [(2, .int 2), (1, .int 1), (0, .ref 0)]) (st' := [.int (lg_cmp w2 0)]) (μ' := μ) (by rfl) ?_
      refine zq_if hc hH (by rfl) (tg := 28) (by rfl) (fun h3 => ?_) (fun h3 => ?_)
      · have h3 : (decide ((lg_cmp w2 0) = 0)) = true := decide_eq_true (cm_eq9.mp h3)
        exact absurd (Eq.trans (Eq.symm (hb2)) h3) (by decide)
      · have h3 : (decide ((lg_cmp w2 0) = 0)) = false := decide_eq_false (cn_eq.mp h3)
        refine z_rcs hc hH 8 (pc' := 11) (lv' := [(2, .int 3), (1, .int 2), (0, .ref 0)]) (st' := [.int 3, .ref 0]) (μ' := μ) (by rfl) ?_
        refine zq_call hc (z_cx_ok hH (by rfl)) (gc_at d' (by omega) μ 3 (by decide)) (by decide +kernel) (fun r9 μ9 hq => ?_)
        obtain ⟨hμ9, rfl⟩ := hq
        rw [hμ9]
        clear hμ9 μ9
        show Z 0 14 [(2, .int 3), (1, .int 2), (0, .ref 0)] [.ref 42] μ
        refine zq_gfr hc hH (by rfl) (ci := 1) (f := 0) (q := 43) (by rfl) (by decide +kernel) (by rfl) (by decide +kernel) ?_
        refine zq_call hc (z_cx_ok hH (by rfl)) (hw3 _ (TE_rf _) d' (by omega)) (by decide +kernel) (fun r9 μ9 hq => ?_)
        obtain ⟨hμ9, rfl⟩ := hq
        rw [hμ9]
        clear hμ9 μ9
        show Z 0 20 [(2, .int 3), (1, .int 2), (0, .ref 0)] [.long w3] μ
        refine z_rcs hc hH 2 (pc' := 22) (lv' := [(2, .int 3), (1, .int 2), (0, .ref 0)]) (st' := [.int (lg_cmp w3 0)]) (μ' := μ) (by rfl) ?_
        refine zq_if hc hH (by rfl) (tg := 28) (by rfl) (fun h4 => ?_) (fun h4 => ?_)
        · have h4 : (decide ((lg_cmp w3 0) = 0)) = true := decide_eq_true (cm_eq9.mp h4)
          refine z_rcs hc hH 7 (pc' := 36) (lv' := [(2, .int 4), (1, .int 2), (0, .ref 0)]) (st' := [.ref 0, .ref 0]) (μ' := μ) (by rfl) ?_
          refine zq_gfi hc hH (by rfl) (ci := 5) (f := 9) (by rfl) (by decide +kernel) (by rfl) ?_
          rw [hdl]
          refine zq_call hc (z_cx_ok hH (by rfl)) (gc_at4 d' (by omega) μ dl hdl4) (by decide +kernel) (fun r9 μ9 hq => ?_)
          obtain ⟨hμ9, rfl⟩ := hq
          rw [hμ9]
          clear hμ9 μ9
          show Z 0 42 [(2, .int 4), (1, .int 2), (0, .ref 0)] [.ref (18 + 8 * dl)] μ
          refine zq_gfr hc hH (by rfl) (ci := 1) (f := 0) (q := 19 + 8 * dl) (by rfl) (sj (P := fun i => okf 79 1 0 (18 + 8 * i)) hdl4 (by decide +kernel)) (by rfl) (sj (P := fun i => Nat.beq (z_gr (18 + 8 * i) 0) (19 + 8 * i)) hdl4 (by decide +kernel)) ?_
          refine zq_call hc (z_clv9 hH (by rfl) (by rfl) (by rfl) (by rfl) (sj (P := fun i => okr 79 2 (19 + 8 * i)) hdl4 (by decide +kernel)) (by rfl) (by rfl)) ((hwd _ (TE_rf _) d' (by omega))) (by decide +kernel) (fun r9 μ9 hq => ?_)
          obtain ⟨hμ9, rfl⟩ := hq
          rw [hμ9]
          clear hμ9 μ9
          show Z 0 48 [(2, .int 4), (1, .int 2), (0, .ref 0)] [.long wd] μ
          refine z_rcs hc hH 2 (pc' := 50) (lv' := [(2, .int 4), (1, .int 2), (0, .ref 0)]) (st' := [.int (lg_cmp wd 0)]) (μ' := μ) (by rfl) ?_
          have hJ5 : Z 0 58 [(2, .int 4), (1, .int 2), (0, .ref 0)] [.int (nB (!(decide ((lg_cmp wd 0) = 0))))] μ := by
            refine z_rcs hc hH 23 (pc' := 95) (lv' := [(5, .int 0), (4, .int 1500), (3, .int 1500), (2, .int (nB (!(decide ((lg_cmp wd 0) = 0))))), (1, .int 2), (0, .ref 0)]) (st' := [.int 0, .ref 0]) (μ' := μ) (by rfl) ?_
            refine zq_call hc (z_cx_ok hH (by rfl)) (gc_at d' (by omega) μ 0 (by decide)) (by decide +kernel) (fun r9 μ9 hq => ?_)
            obtain ⟨hμ9, rfl⟩ := hq
            rw [hμ9]
            clear hμ9 μ9
            show Z 0 98 [(5, .int 0), (4, .int 1500), (3, .int 1500), (2, .int (nB (!(decide ((lg_cmp wd 0) = 0))))), (1, .int 2), (0, .ref 0)] [.ref 18] μ
            refine z_rcs hc hH 1 (pc' := 99) (lv' := [(5, .int 0), (4, .int 1500), (3, .int 1500), (2, .int (nB (!(decide ((lg_cmp wd 0) = 0))))), (1, .int 2), (0, .ref 0)]) (st' := [.ref 18, .ref 18]) (μ' := μ) (by rfl) ?_
            refine zq_gfi hc hH (by rfl) (ci := 1) (f := 4) (by rfl) (by decide +kernel) (by rfl) ?_
            refine z_rcs hc hH 2 (pc' := 105) (lv' := [(5, .int 0), (4, .int 1500), (3, .int 1500), (2, .int (nB (!(decide ((lg_cmp wd 0) = 0))))), (1, .int 2), (0, .ref 0)]) (st' := [.int 0, .ref 0, .int (μ.1 18 4), .ref 18]) (μ' := μ) (by rfl) ?_
            refine zq_call hc (z_cx_ok hH (by rfl)) (gc_at d' (by omega) μ 0 (by decide)) (by decide +kernel) (fun r9 μ9 hq => ?_)
            obtain ⟨hμ9, rfl⟩ := hq
            rw [hμ9]
            clear hμ9 μ9
            show Z 0 108 [(5, .int 0), (4, .int 1500), (3, .int 1500), (2, .int (nB (!(decide ((lg_cmp wd 0) = 0))))), (1, .int 2), (0, .ref 0)] [.ref 18, .int (μ.1 18 4), .ref 18] μ
            refine zq_gfr hc hH (by rfl) (ci := 1) (f := 0) (q := 19) (by rfl) (by decide +kernel) (by rfl) (by decide +kernel) ?_
            refine zq_call hc (z_cx_ok hH (by rfl)) (hw0 _ (TE_rf _) d' (by omega)) (by decide +kernel) (fun r9 μ9 hq => ?_)
            obtain ⟨hμ9, rfl⟩ := hq
            rw [hμ9]
            clear hμ9 μ9
            show Z 0 114 [(5, .int 0), (4, .int 1500), (3, .int 1500), (2, .int (nB (!(decide ((lg_cmp wd 0) = 0))))), (1, .int 2), (0, .ref 0)] [.long w0, .int (μ.1 18 4), .ref 18] μ
            refine z_rcs hc hH 2 (pc' := 116) (lv' := [(5, .int 0), (4, .int 1500), (3, .int 1500), (2, .int (nB (!(decide ((lg_cmp wd 0) = 0))))), (1, .int 2), (0, .ref 0)]) (st' := [.int (lg_cmp w0 0), .int (μ.1 18 4), .ref 18]) (μ' := μ) (by rfl) ?_
            refine zq_if hc hH (by rfl) (tg := 123) (by rfl) (fun h6 => ?_) (fun h6 => ?_)
            · have h6 : (decide ((lg_cmp w0 0) = 0)) = true := decide_eq_true (cm_eq9.mp h6)
              refine z_rcs hc hH 3 (pc' := 127) (lv' := [(5, .int 0), (4, .int 1500), (3, .int 1500), (2, .int (nB (!(decide ((lg_cmp wd 0) = 0))))), (1, .int 2), (0, .ref 0)]) (st' := [.int ((μ.1 18 4) + (-1500)), .ref 18]) (μ' := μ) (by rfl) ?_
              refine zq_pfi hc hH (by rfl) (ci := 1) (f := 4) (by rfl) (by decide +kernel) (by rfl) ?_
              show Z 0 130 [(5, .int 0), (4, .int 1500), (3, .int 1500), (2, .int (nB (!(decide ((lg_cmp wd 0) = 0))))), (1, .int 2), (0, .ref 0)] [] (z_ui μ 18 4 ((μ.1 18 4) + (-1500)))
              refine z_rcs0 hc hH 7 (pc' := 95) (lv' := [(5, .int 1), (4, .int 1500), (3, .int 1500), (2, .int (nB (!(decide ((lg_cmp wd 0) = 0))))), (1, .int 2), (0, .ref 0)]) (st' := [.int 1, .ref 0]) (by rfl) ?_
              refine zq_call hc (z_cx_ok hH (by rfl)) (gc_at d' (by omega) (z_ui μ 18 4 ((μ.1 18 4) + (-1500))) 1 (by decide)) (by decide +kernel) (fun r9 μ9 hq => ?_)
              obtain ⟨hμ9, rfl⟩ := hq
              rw [hμ9]
              clear hμ9 μ9
              show Z 0 98 [(5, .int 1), (4, .int 1500), (3, .int 1500), (2, .int (nB (!(decide ((lg_cmp wd 0) = 0))))), (1, .int 2), (0, .ref 0)] [.ref 26] _
              refine z_rcs0 hc hH 1 (pc' := 99) (lv' := [(5, .int 1), (4, .int 1500), (3, .int 1500), (2, .int (nB (!(decide ((lg_cmp wd 0) = 0))))), (1, .int 2), (0, .ref 0)]) (st' := [.ref 26, .ref 26]) (by rfl) ?_
              refine zq_gfi hc hH (by rfl) (ci := 1) (f := 4) (by rfl) (by decide +kernel) (by rfl) ?_
              refine zV1 (Z := Z) (ui_o (by first | decide | omega)) ?_
              refine z_rcs0 hc hH 2 (pc' := 105) (lv' := [(5, .int 1), (4, .int 1500), (3, .int 1500), (2, .int (nB (!(decide ((lg_cmp wd 0) = 0))))), (1, .int 2), (0, .ref 0)]) (st' := [.int 1, .ref 0, .int (μ.1 26 4), .ref 26]) (by rfl) ?_
              refine zq_call hc (z_cx_ok hH (by rfl)) (gc_at d' (by omega) (z_ui μ 18 4 ((μ.1 18 4) + (-1500))) 1 (by decide)) (by decide +kernel) (fun r9 μ9 hq => ?_)
              obtain ⟨hμ9, rfl⟩ := hq
              rw [hμ9]
              clear hμ9 μ9
              show Z 0 108 [(5, .int 1), (4, .int 1500), (3, .int 1500), (2, .int (nB (!(decide ((lg_cmp wd 0) = 0))))), (1, .int 2), (0, .ref 0)] [.ref 26, .int (μ.1 26 4), .ref 26] _
              refine zq_gfr hc hH (by rfl) (ci := 1) (f := 0) (q := 27) (by rfl) (by decide +kernel) (by rfl) (by decide +kernel) ?_
              refine zq_call hc (z_cx_ok hH (by rfl)) (hw1 _ (TE_ui (TE_rf _) (by intro i a hi h1 h2; omega)) d' (by omega)) (by decide +kernel) (fun r9 μ9 hq => ?_)
              obtain ⟨hμ9, rfl⟩ := hq
              rw [hμ9]
              clear hμ9 μ9
              show Z 0 114 [(5, .int 1), (4, .int 1500), (3, .int 1500), (2, .int (nB (!(decide ((lg_cmp wd 0) = 0))))), (1, .int 2), (0, .ref 0)] [.long w1, .int (μ.1 26 4), .ref 26] _
              refine z_rcs0 hc hH 2 (pc' := 116) (lv' := [(5, .int 1), (4, .int 1500), (3, .int 1500), (2, .int (nB (!(decide ((lg_cmp wd 0) = 0))))), (1, .int 2), (0, .ref 0)]) (st' := [.int (lg_cmp w1 0), .int (μ.1 26 4), .ref 26]) (by rfl) ?_
              refine zq_if hc hH (by rfl) (tg := 123) (by rfl) (fun h7 => ?_) (fun h7 => ?_)
              · have h7 : (decide ((lg_cmp w1 0) = 0)) = true := decide_eq_true (cm_eq9.mp h7)
                exact absurd (Eq.trans (Eq.symm (hb1)) h7) (by decide)
              · have h7 : (decide ((lg_cmp w1 0) = 0)) = false := decide_eq_false (cn_eq.mp h7)
                refine z_rcs0 hc hH 3 (pc' := 127) (lv' := [(5, .int 1), (4, .int 1500), (3, .int 1500), (2, .int (nB (!(decide ((lg_cmp wd 0) = 0))))), (1, .int 2), (0, .ref 0)]) (st' := [.int ((μ.1 26 4) + 1500), .ref 26]) (by rfl) ?_
                refine zq_pfi hc hH (by rfl) (ci := 1) (f := 4) (by rfl) (by decide +kernel) (by rfl) ?_
                show Z 0 130 [(5, .int 1), (4, .int 1500), (3, .int 1500), (2, .int (nB (!(decide ((lg_cmp wd 0) = 0))))), (1, .int 2), (0, .ref 0)] [] (z_ui (z_ui μ 18 4 ((μ.1 18 4) + (-1500))) 26 4 ((μ.1 26 4) + 1500))
                refine z_rcs0 hc hH 7 (pc' := 95) (lv' := [(5, .int 2), (4, .int 1500), (3, .int 1500), (2, .int (nB (!(decide ((lg_cmp wd 0) = 0))))), (1, .int 2), (0, .ref 0)]) (st' := [.int 2, .ref 0]) (by rfl) ?_
                refine zq_call hc (z_cx_ok hH (by rfl)) (gc_at d' (by omega) (z_ui (z_ui μ 18 4 ((μ.1 18 4) + (-1500))) 26 4 ((μ.1 26 4) + 1500)) 2 (by decide)) (by decide +kernel) (fun r9 μ9 hq => ?_)
                obtain ⟨hμ9, rfl⟩ := hq
                rw [hμ9]
                clear hμ9 μ9
                show Z 0 98 [(5, .int 2), (4, .int 1500), (3, .int 1500), (2, .int (nB (!(decide ((lg_cmp wd 0) = 0))))), (1, .int 2), (0, .ref 0)] [.ref 34] _
                refine z_rcs0 hc hH 1 (pc' := 99) (lv' := [(5, .int 2), (4, .int 1500), (3, .int 1500), (2, .int (nB (!(decide ((lg_cmp wd 0) = 0))))), (1, .int 2), (0, .ref 0)]) (st' := [.ref 34, .ref 34]) (by rfl) ?_
                refine zq_gfi hc hH (by rfl) (ci := 1) (f := 4) (by rfl) (by decide +kernel) (by rfl) ?_
                refine zV1 (Z := Z) (Eq.trans (ui_o (by first | decide | omega)) (ui_o (by first | decide | omega))) ?_
                refine z_rcs0 hc hH 2 (pc' := 105) (lv' := [(5, .int 2), (4, .int 1500), (3, .int 1500), (2, .int (nB (!(decide ((lg_cmp wd 0) = 0))))), (1, .int 2), (0, .ref 0)]) (st' := [.int 2, .ref 0, .int (μ.1 34 4), .ref 34]) (by rfl) ?_
                refine zq_call hc (z_cx_ok hH (by rfl)) (gc_at d' (by omega) (z_ui (z_ui μ 18 4 ((μ.1 18 4) + (-1500))) 26 4 ((μ.1 26 4) + 1500)) 2 (by decide)) (by decide +kernel) (fun r9 μ9 hq => ?_)
                obtain ⟨hμ9, rfl⟩ := hq
                rw [hμ9]
                clear hμ9 μ9
                show Z 0 108 [(5, .int 2), (4, .int 1500), (3, .int 1500), (2, .int (nB (!(decide ((lg_cmp wd 0) = 0))))), (1, .int 2), (0, .ref 0)] [.ref 34, .int (μ.1 34 4), .ref 34] _
                refine zq_gfr hc hH (by rfl) (ci := 1) (f := 0) (q := 35) (by rfl) (by decide +kernel) (by rfl) (by decide +kernel) ?_
                refine zq_call hc (z_cx_ok hH (by rfl)) (hw2 _ (TE_ui (TE_ui (TE_rf _) (by intro i a hi h1 h2; omega)) (by intro i a hi h1 h2; omega)) d' (by omega)) (by decide +kernel) (fun r9 μ9 hq => ?_)
                obtain ⟨hμ9, rfl⟩ := hq
                rw [hμ9]
                clear hμ9 μ9
                show Z 0 114 [(5, .int 2), (4, .int 1500), (3, .int 1500), (2, .int (nB (!(decide ((lg_cmp wd 0) = 0))))), (1, .int 2), (0, .ref 0)] [.long w2, .int (μ.1 34 4), .ref 34] _
                refine z_rcs0 hc hH 2 (pc' := 116) (lv' := [(5, .int 2), (4, .int 1500), (3, .int 1500), (2, .int (nB (!(decide ((lg_cmp wd 0) = 0))))), (1, .int 2), (0, .ref 0)]) (st' := [.int (lg_cmp w2 0), .int (μ.1 34 4), .ref 34]) (by rfl) ?_
                refine zq_if hc hH (by rfl) (tg := 123) (by rfl) (fun h8 => ?_) (fun h8 => ?_)
                · have h8 : (decide ((lg_cmp w2 0) = 0)) = true := decide_eq_true (cm_eq9.mp h8)
                  exact absurd (Eq.trans (Eq.symm (hb2)) h8) (by decide)
                · have h8 : (decide ((lg_cmp w2 0) = 0)) = false := decide_eq_false (cn_eq.mp h8)
                  refine z_rcs0 hc hH 3 (pc' := 127) (lv' := [(5, .int 2), (4, .int 1500), (3, .int 1500), (2, .int (nB (!(decide ((lg_cmp wd 0) = 0))))), (1, .int 2), (0, .ref 0)]) (st' := [.int ((μ.1 34 4) + 1500), .ref 34]) (by rfl) ?_
                  refine zq_pfi hc hH (by rfl) (ci := 1) (f := 4) (by rfl) (by decide +kernel) (by rfl) ?_
                  show Z 0 130 [(5, .int 2), (4, .int 1500), (3, .int 1500), (2, .int (nB (!(decide ((lg_cmp wd 0) = 0))))), (1, .int 2), (0, .ref 0)] [] (z_ui (z_ui (z_ui μ 18 4 ((μ.1 18 4) + (-1500))) 26 4 ((μ.1 26 4) + 1500)) 34 4 ((μ.1 34 4) + 1500))
                  refine z_rcs0 hc hH 7 (pc' := 95) (lv' := [(5, .int 3), (4, .int 1500), (3, .int 1500), (2, .int (nB (!(decide ((lg_cmp wd 0) = 0))))), (1, .int 2), (0, .ref 0)]) (st' := [.int 3, .ref 0]) (by rfl) ?_
                  refine zq_call hc (z_cx_ok hH (by rfl)) (gc_at d' (by omega) (z_ui (z_ui (z_ui μ 18 4 ((μ.1 18 4) + (-1500))) 26 4 ((μ.1 26 4) + 1500)) 34 4 ((μ.1 34 4) + 1500)) 3 (by decide)) (by decide +kernel) (fun r9 μ9 hq => ?_)
                  obtain ⟨hμ9, rfl⟩ := hq
                  rw [hμ9]
                  clear hμ9 μ9
                  show Z 0 98 [(5, .int 3), (4, .int 1500), (3, .int 1500), (2, .int (nB (!(decide ((lg_cmp wd 0) = 0))))), (1, .int 2), (0, .ref 0)] [.ref 42] _
                  refine z_rcs0 hc hH 1 (pc' := 99) (lv' := [(5, .int 3), (4, .int 1500), (3, .int 1500), (2, .int (nB (!(decide ((lg_cmp wd 0) = 0))))), (1, .int 2), (0, .ref 0)]) (st' := [.ref 42, .ref 42]) (by rfl) ?_
                  refine zq_gfi hc hH (by rfl) (ci := 1) (f := 4) (by rfl) (by decide +kernel) (by rfl) ?_
                  refine zV1 (Z := Z) (Eq.trans (ui_o (by first | decide | omega)) (Eq.trans (ui_o (by first | decide | omega)) (ui_o (by first | decide | omega)))) ?_
                  refine z_rcs0 hc hH 2 (pc' := 105) (lv' := [(5, .int 3), (4, .int 1500), (3, .int 1500), (2, .int (nB (!(decide ((lg_cmp wd 0) = 0))))), (1, .int 2), (0, .ref 0)]) (st' := [.int 3, .ref 0, .int (μ.1 42 4), .ref 42]) (by rfl) ?_
                  refine zq_call hc (z_cx_ok hH (by rfl)) (gc_at d' (by omega) (z_ui (z_ui (z_ui μ 18 4 ((μ.1 18 4) + (-1500))) 26 4 ((μ.1 26 4) + 1500)) 34 4 ((μ.1 34 4) + 1500)) 3 (by decide)) (by decide +kernel) (fun r9 μ9 hq => ?_)
                  obtain ⟨hμ9, rfl⟩ := hq
                  rw [hμ9]
                  clear hμ9 μ9
                  show Z 0 108 [(5, .int 3), (4, .int 1500), (3, .int 1500), (2, .int (nB (!(decide ((lg_cmp wd 0) = 0))))), (1, .int 2), (0, .ref 0)] [.ref 42, .int (μ.1 42 4), .ref 42] _
                  refine zq_gfr hc hH (by rfl) (ci := 1) (f := 0) (q := 43) (by rfl) (by decide +kernel) (by rfl) (by decide +kernel) ?_
                  refine zq_call hc (z_cx_ok hH (by rfl)) (hw3 _ (TE_ui (TE_ui (TE_ui (TE_rf _) (by intro i a hi h1 h2; omega)) (by intro i a hi h1 h2; omega)) (by intro i a hi h1 h2; omega)) d' (by omega)) (by decide +kernel) (fun r9 μ9 hq => ?_)
                  obtain ⟨hμ9, rfl⟩ := hq
                  rw [hμ9]
                  clear hμ9 μ9
                  show Z 0 114 [(5, .int 3), (4, .int 1500), (3, .int 1500), (2, .int (nB (!(decide ((lg_cmp wd 0) = 0))))), (1, .int 2), (0, .ref 0)] [.long w3, .int (μ.1 42 4), .ref 42] _
                  refine z_rcs0 hc hH 2 (pc' := 116) (lv' := [(5, .int 3), (4, .int 1500), (3, .int 1500), (2, .int (nB (!(decide ((lg_cmp wd 0) = 0))))), (1, .int 2), (0, .ref 0)]) (st' := [.int (lg_cmp w3 0), .int (μ.1 42 4), .ref 42]) (by rfl) ?_
                  refine zq_if hc hH (by rfl) (tg := 123) (by rfl) (fun h9 => ?_) (fun h9 => ?_)
                  · have h9 : (decide ((lg_cmp w3 0) = 0)) = true := decide_eq_true (cm_eq9.mp h9)
                    refine z_rcs0 hc hH 3 (pc' := 127) (lv' := [(5, .int 3), (4, .int 1500), (3, .int 1500), (2, .int (nB (!(decide ((lg_cmp wd 0) = 0))))), (1, .int 2), (0, .ref 0)]) (st' := [.int ((μ.1 42 4) + (-1500)), .ref 42]) (by rfl) ?_
                    refine zq_pfi hc hH (by rfl) (ci := 1) (f := 4) (by rfl) (by decide +kernel) (by rfl) ?_
                    show Z 0 130 [(5, .int 3), (4, .int 1500), (3, .int 1500), (2, .int (nB (!(decide ((lg_cmp wd 0) = 0))))), (1, .int 2), (0, .ref 0)] [] (z_ui (z_ui (z_ui (z_ui μ 18 4 ((μ.1 18 4) + (-1500))) 26 4 ((μ.1 26 4) + 1500)) 34 4 ((μ.1 34 4) + 1500)) 42 4 ((μ.1 42 4) + (-1500)))
                    refine z_rcs0 hc hH 8 (pc' := 139) (lv' := [(5, .int 4), (4, .int 1500), (3, .int 1500), (2, .int (nB (!(decide ((lg_cmp wd 0) = 0))))), (1, .int 2), (0, .ref 0)]) (st' := [.int 0, .int (nB (!(decide ((lg_cmp wd 0) = 0)))), .ref 0]) (by rfl) ?_
                    refine zq_call hc (z_cx_ok hH (by rfl)) (gc_endHandB d' (by omega) (z_ui (z_ui (z_ui (z_ui μ 18 4 ((μ.1 18 4) + (-1500))) 26 4 ((μ.1 26 4) + 1500)) 34 4 ((μ.1 34 4) + 1500)) 42 4 ((μ.1 42 4) + (-1500))) (!(decide ((lg_cmp wd 0) = 0))) false dl e (by rw [ui_o (by first | decide | omega), ui_o (by first | decide | omega), ui_o (by first | decide | omega), ui_o (by first | decide | omega)]; exact hdl) hdl4 he) (by decide +kernel) (fun r9 μ9 hq => ?_)
                    obtain ⟨rfl, rfl⟩ := hq
                    show Z 0 142 [(5, .int 4), (4, .int 1500), (3, .int 1500), (2, .int (nB (!(decide ((lg_cmp wd 0) = 0))))), (1, .int 2), (0, .ref 0)] [] (eHB (z_ui (z_ui (z_ui (z_ui μ 18 4 ((μ.1 18 4) + (-1500))) 26 4 ((μ.1 26 4) + 1500)) 34 4 ((μ.1 34 4) + 1500)) 42 4 ((μ.1 42 4) + (-1500))) (!(decide ((lg_cmp wd 0) = 0))) false (xBk (z_ui (z_ui (z_ui (z_ui μ 18 4 ((μ.1 18 4) + (-1500))) 26 4 ((μ.1 26 4) + 1500)) 34 4 ((μ.1 34 4) + 1500)) 42 4 ((μ.1 42 4) + (-1500)))) dl e (rcM (z_ui (z_ui (z_ui (z_ui μ 18 4 ((μ.1 18 4) + (-1500))) 26 4 ((μ.1 26 4) + 1500)) 34 4 ((μ.1 34 4) + 1500)) 42 4 ((μ.1 42 4) + (-1500)))))
                    exact hr 0 142 _ _ _ none (by decide +kernel) (by rfl) (⟨rfl, rfl⟩)
                  · have h9 : (decide ((lg_cmp w3 0) = 0)) = false := decide_eq_false (cn_eq.mp h9)
                    exact absurd (Eq.trans (Eq.symm (hb3)) h9) (by decide)
            · have h6 : (decide ((lg_cmp w0 0) = 0)) = false := decide_eq_false (cn_eq.mp h6)
              exact absurd (Eq.trans (Eq.symm (hb0)) h6) (by decide)
          refine zq_if hc hH (by rfl) (tg := 57) (by rfl) (fun h10 => ?_) (fun h10 => ?_)
          · have h10 : (decide ((lg_cmp wd 0) = 0)) = true := decide_eq_true (cm_eq9.mp h10)
            refine z_rcs hc hH 1 (pc' := 58) (lv' := [(2, .int 4), (1, .int 2), (0, .ref 0)]) (st' := [.int 0]) (μ' := μ) (by rfl) ?_
            exact zJ hJ5 rfl (by first | with_reducible rfl | (simp only [h10, lb_f, Int64.or_zero, Int32.add_zero, nB_t, nB_f, Bool.not_true, Bool.not_false, Bool.and_true, Bool.true_and, Bool.false_and, Bool.and_false, Bool.or_true, Bool.true_or, Bool.false_or, Bool.or_false, cond_true, cond_false]; done) | rfl) rfl
          · have h10 : (decide ((lg_cmp wd 0) = 0)) = false := decide_eq_false (cn_eq.mp h10)
            refine z_rcs hc hH 2 (pc' := 58) (lv' := [(2, .int 4), (1, .int 2), (0, .ref 0)]) (st' := [.int 1]) (μ' := μ) (by rfl) ?_
            exact zJ hJ5 rfl (by first | with_reducible rfl | (simp only [h10, lb_f, Int64.or_zero, Int32.add_zero, nB_t, nB_f, Bool.not_true, Bool.not_false, Bool.and_true, Bool.true_and, Bool.false_and, Bool.and_false, Bool.or_true, Bool.true_or, Bool.false_or, Bool.or_false, cond_true, cond_false]; done) | rfl) rfl
        · have h4 : (decide ((lg_cmp w3 0) = 0)) = false := decide_eq_false (cn_eq.mp h4)
          exact absurd (Eq.trans (Eq.symm (hb3)) h4) (by decide)
  · have h1 : (decide ((lg_cmp w0 0) = 0)) = false := decide_eq_false (cn_eq.mp h1)
    exact absurd (Eq.trans (Eq.symm (hb0)) h1) (by decide)
theorem gc_endUnwon0111 (d : Nat) (hd : 8 ≤ d) (μ : zM) (dl e : Nat) (hdl : μ.1 0 9 = nI dl) (hdl4 : dl < 4) (he : (dl + 1) % 4 = e) (w0 : Int64) (hw0 : ∀ μ1, TE μ μ1 → ∀ d, 7 ≤ d → z_C d mi_X3_waiting [.ref 19] μ1 (zR μ1 (.long w0))) (w1 : Int64) (hw1 : ∀ μ1, TE μ μ1 → ∀ d, 7 ≤ d → z_C d mi_X3_waiting [.ref 27] μ1 (zR μ1 (.long w1))) (w2 : Int64) (hw2 : ∀ μ1, TE μ μ1 → ∀ d, 7 ≤ d → z_C d mi_X3_waiting [.ref 35] μ1 (zR μ1 (.long w2))) (w3 : Int64) (hw3 : ∀ μ1, TE μ μ1 → ∀ d, 7 ≤ d → z_C d mi_X3_waiting [.ref 43] μ1 (zR μ1 (.long w3))) (wd : Int64) (hwd : ∀ μ1, TE μ μ1 → ∀ d, 7 ≤ d → z_C d mi_X3_waiting [.ref (19 + 8 * dl)] μ1 (zR μ1 (.long wd))) (hb0 : decide (lg_cmp w0 0 = 0) = true) (hb1 : decide (lg_cmp w1 0 = 0) = false) (hb2 : decide (lg_cmp w2 0 = 0) = false) (hb3 : decide (lg_cmp w3 0 = 0) = false) : z_C d mi_X6_endUnwon [.ref 0] μ (fun r μ' => r = none ∧ μ' = eHB (z_ui (z_ui (z_ui (z_ui μ 18 4 ((μ.1 18 4) + (-3000))) 26 4 ((μ.1 26 4) + 1000)) 34 4 ((μ.1 34 4) + 1000)) 42 4 ((μ.1 42 4) + 1000)) (!(decide ((lg_cmp wd 0) = 0))) false (xBk (z_ui (z_ui (z_ui (z_ui μ 18 4 ((μ.1 18 4) + (-3000))) 26 4 ((μ.1 26 4) + 1000)) 34 4 ((μ.1 34 4) + 1000)) 42 4 ((μ.1 42 4) + 1000))) dl e (rcM (z_ui (z_ui (z_ui (z_ui μ 18 4 ((μ.1 18 4) + (-3000))) 26 4 ((μ.1 26 4) + 1000)) 34 4 ((μ.1 34 4) + 1000)) 42 4 ((μ.1 42 4) + 1000)))) := by
  refine z_C_in (by decide) (by omega) (fun d' Z ed hc hr => ?_)
  have hH : zH mi_X6_endUnwon zt_X6_endUnwon 79 6 6 := hh_X6_endUnwon
  refine z_rcs hc hH 9 (pc' := 11) (lv' := [(2, .int 0), (1, .int 0), (0, .ref 0)]) (st' := [.int 0, .ref 0]) (μ' := μ) (by rfl) ?_
  refine zq_call hc (z_cx_ok hH (by rfl)) (gc_at d' (by omega) μ 0 (by decide)) (by decide +kernel) (fun r9 μ9 hq => ?_)
  obtain ⟨hμ9, rfl⟩ := hq
  rw [hμ9]
  clear hμ9 μ9
  show Z 0 14 [(2, .int 0), (1, .int 0), (0, .ref 0)] [.ref 18] μ
  refine zq_gfr hc hH (by rfl) (ci := 1) (f := 0) (q := 19) (by rfl) (by decide +kernel) (by rfl) (by decide +kernel) ?_
  refine zq_call hc (z_cx_ok hH (by rfl)) (hw0 _ (TE_rf _) d' (by omega)) (by decide +kernel) (fun r9 μ9 hq => ?_)
  obtain ⟨hμ9, rfl⟩ := hq
  rw [hμ9]
  clear hμ9 μ9
  show Z 0 20 [(2, .int 0), (1, .int 0), (0, .ref 0)] [.long w0] μ
  refine z_rcs hc hH 2 (pc' := 22) (lv' := [(2, .int 0), (1, .int 0), (0, .ref 0)]) (st' := [.int (lg_cmp w0 0)]) (μ' := μ) (by rfl) ?_
  refine zq_if hc hH (by rfl) (tg := 28) (by rfl) (fun h1 => ?_) (fun h1 => ?_)
  · have h1 : (decide ((lg_cmp w0 0) = 0)) = true := decide_eq_true (cm_eq9.mp h1)
    refine z_rcs hc hH 7 (pc' := 11) (lv' := [(2, .int 1), (1, .int 0), (0, .ref 0)]) (st' := [.int 1, .ref 0]) (μ' := μ) (by rfl) ?_
    refine zq_call hc (z_cx_ok hH (by rfl)) (gc_at d' (by omega) μ 1 (by decide)) (by decide +kernel) (fun r9 μ9 hq => ?_)
    obtain ⟨hμ9, rfl⟩ := hq
    rw [hμ9]
    clear hμ9 μ9
    show Z 0 14 [(2, .int 1), (1, .int 0), (0, .ref 0)] [.ref 26] μ
    refine zq_gfr hc hH (by rfl) (ci := 1) (f := 0) (q := 27) (by rfl) (by decide +kernel) (by rfl) (by decide +kernel) ?_
    refine zq_call hc (z_cx_ok hH (by rfl)) (hw1 _ (TE_rf _) d' (by omega)) (by decide +kernel) (fun r9 μ9 hq => ?_)
    obtain ⟨hμ9, rfl⟩ := hq
    rw [hμ9]
    clear hμ9 μ9
    show Z 0 20 [(2, .int 1), (1, .int 0), (0, .ref 0)] [.long w1] μ
    refine z_rcs hc hH 2 (pc' := 22) (lv' := [(2, .int 1), (1, .int 0), (0, .ref 0)]) (st' := [.int (lg_cmp w1 0)]) (μ' := μ) (by rfl) ?_
    refine zq_if hc hH (by rfl) (tg := 28) (by rfl) (fun h2 => ?_) (fun h2 => ?_)
    · have h2 : (decide ((lg_cmp w1 0) = 0)) = true := decide_eq_true (cm_eq9.mp h2)
      exact absurd (Eq.trans (Eq.symm (hb1)) h2) (by decide)
    · have h2 : (decide ((lg_cmp w1 0) = 0)) = false := decide_eq_false (cn_eq.mp h2)
      refine z_rcs hc hH 8 (pc' := 11) (lv' := [(2, .int 2), (1, .int 1), (0, .ref 0)]) (st' := [.int 2, .ref 0]) (μ' := μ) (by rfl) ?_
      refine zq_call hc (z_cx_ok hH (by rfl)) (gc_at d' (by omega) μ 2 (by decide)) (by decide +kernel) (fun r9 μ9 hq => ?_)
      obtain ⟨hμ9, rfl⟩ := hq
      rw [hμ9]
      clear hμ9 μ9
      show Z 0 14 [(2, .int 2), (1, .int 1), (0, .ref 0)] [.ref 34] μ
      refine zq_gfr hc hH (by rfl) (ci := 1) (f := 0) (q := 35) (by rfl) (by decide +kernel) (by rfl) (by decide +kernel) ?_
      refine zq_call hc (z_cx_ok hH (by rfl)) (hw2 _ (TE_rf _) d' (by omega)) (by decide +kernel) (fun r9 μ9 hq => ?_)
      obtain ⟨hμ9, rfl⟩ := hq
      rw [hμ9]
      clear hμ9 μ9
      show Z 0 20 [(2, .int 2), (1, .int 1), (0, .ref 0)] [.long w2] μ
      refine z_rcs hc hH 2 (pc' := 22) (lv' := [(2, .int 2), (1, .int 1), (0, .ref 0)]) (st' := [.int (lg_cmp w2 0)]) (μ' := μ) (by rfl) ?_
      refine zq_if hc hH (by rfl) (tg := 28) (by rfl) (fun h3 => ?_) (fun h3 => ?_)
      · have h3 : (decide ((lg_cmp w2 0) = 0)) = true := decide_eq_true (cm_eq9.mp h3)
        exact absurd (Eq.trans (Eq.symm (hb2)) h3) (by decide)
      · have h3 : (decide ((lg_cmp w2 0) = 0)) = false := decide_eq_false (cn_eq.mp h3)
        refine z_rcs hc hH 8 (pc' := 11) (lv' := [(2, .int 3), (1, .int 2), (0, .ref 0)]) (st' := [.int 3, .ref 0]) (μ' := μ) (by rfl) ?_
        refine zq_call hc (z_cx_ok hH (by rfl)) (gc_at d' (by omega) μ 3 (by decide)) (by decide +kernel) (fun r9 μ9 hq => ?_)
        obtain ⟨hμ9, rfl⟩ := hq
        rw [hμ9]
        clear hμ9 μ9
        show Z 0 14 [(2, .int 3), (1, .int 2), (0, .ref 0)] [.ref 42] μ
        refine zq_gfr hc hH (by rfl) (ci := 1) (f := 0) (q := 43) (by rfl) (by decide +kernel) (by rfl) (by decide +kernel) ?_
        refine zq_call hc (z_cx_ok hH (by rfl)) (hw3 _ (TE_rf _) d' (by omega)) (by decide +kernel) (fun r9 μ9 hq => ?_)
        obtain ⟨hμ9, rfl⟩ := hq
        rw [hμ9]
        clear hμ9 μ9
        show Z 0 20 [(2, .int 3), (1, .int 2), (0, .ref 0)] [.long w3] μ
        refine z_rcs hc hH 2 (pc' := 22) (lv' := [(2, .int 3), (1, .int 2), (0, .ref 0)]) (st' := [.int (lg_cmp w3 0)]) (μ' := μ) (by rfl) ?_
        refine zq_if hc hH (by rfl) (tg := 28) (by rfl) (fun h4 => ?_) (fun h4 => ?_)
        · have h4 : (decide ((lg_cmp w3 0) = 0)) = true := decide_eq_true (cm_eq9.mp h4)
          exact absurd (Eq.trans (Eq.symm (hb3)) h4) (by decide)
        · have h4 : (decide ((lg_cmp w3 0) = 0)) = false := decide_eq_false (cn_eq.mp h4)
          refine z_rcs hc hH 8 (pc' := 36) (lv' := [(2, .int 4), (1, .int 3), (0, .ref 0)]) (st' := [.ref 0, .ref 0]) (μ' := μ) (by rfl) ?_
          refine zq_gfi hc hH (by rfl) (ci := 5) (f := 9) (by rfl) (by decide +kernel) (by rfl) ?_
          rw [hdl]
          refine zq_call hc (z_cx_ok hH (by rfl)) (gc_at4 d' (by omega) μ dl hdl4) (by decide +kernel) (fun r9 μ9 hq => ?_)
          obtain ⟨hμ9, rfl⟩ := hq
          rw [hμ9]
          clear hμ9 μ9
          show Z 0 42 [(2, .int 4), (1, .int 3), (0, .ref 0)] [.ref (18 + 8 * dl)] μ
          refine zq_gfr hc hH (by rfl) (ci := 1) (f := 0) (q := 19 + 8 * dl) (by rfl) (sj (P := fun i => okf 79 1 0 (18 + 8 * i)) hdl4 (by decide +kernel)) (by rfl) (sj (P := fun i => Nat.beq (z_gr (18 + 8 * i) 0) (19 + 8 * i)) hdl4 (by decide +kernel)) ?_
          refine zq_call hc (z_clv9 hH (by rfl) (by rfl) (by rfl) (by rfl) (sj (P := fun i => okr 79 2 (19 + 8 * i)) hdl4 (by decide +kernel)) (by rfl) (by rfl)) ((hwd _ (TE_rf _) d' (by omega))) (by decide +kernel) (fun r9 μ9 hq => ?_)
          obtain ⟨hμ9, rfl⟩ := hq
          rw [hμ9]
          clear hμ9 μ9
          show Z 0 48 [(2, .int 4), (1, .int 3), (0, .ref 0)] [.long wd] μ
          refine z_rcs hc hH 2 (pc' := 50) (lv' := [(2, .int 4), (1, .int 3), (0, .ref 0)]) (st' := [.int (lg_cmp wd 0)]) (μ' := μ) (by rfl) ?_
          have hJ5 : Z 0 58 [(2, .int 4), (1, .int 3), (0, .ref 0)] [.int (nB (!(decide ((lg_cmp wd 0) = 0))))] μ := by
            refine z_rcs hc hH 23 (pc' := 95) (lv' := [(5, .int 0), (4, .int 3000), (3, .int 1000), (2, .int (nB (!(decide ((lg_cmp wd 0) = 0))))), (1, .int 3), (0, .ref 0)]) (st' := [.int 0, .ref 0]) (μ' := μ) (by rfl) ?_
            refine zq_call hc (z_cx_ok hH (by rfl)) (gc_at d' (by omega) μ 0 (by decide)) (by decide +kernel) (fun r9 μ9 hq => ?_)
            obtain ⟨hμ9, rfl⟩ := hq
            rw [hμ9]
            clear hμ9 μ9
            show Z 0 98 [(5, .int 0), (4, .int 3000), (3, .int 1000), (2, .int (nB (!(decide ((lg_cmp wd 0) = 0))))), (1, .int 3), (0, .ref 0)] [.ref 18] μ
            refine z_rcs hc hH 1 (pc' := 99) (lv' := [(5, .int 0), (4, .int 3000), (3, .int 1000), (2, .int (nB (!(decide ((lg_cmp wd 0) = 0))))), (1, .int 3), (0, .ref 0)]) (st' := [.ref 18, .ref 18]) (μ' := μ) (by rfl) ?_
            refine zq_gfi hc hH (by rfl) (ci := 1) (f := 4) (by rfl) (by decide +kernel) (by rfl) ?_
            refine z_rcs hc hH 2 (pc' := 105) (lv' := [(5, .int 0), (4, .int 3000), (3, .int 1000), (2, .int (nB (!(decide ((lg_cmp wd 0) = 0))))), (1, .int 3), (0, .ref 0)]) (st' := [.int 0, .ref 0, .int (μ.1 18 4), .ref 18]) (μ' := μ) (by rfl) ?_
            refine zq_call hc (z_cx_ok hH (by rfl)) (gc_at d' (by omega) μ 0 (by decide)) (by decide +kernel) (fun r9 μ9 hq => ?_)
            obtain ⟨hμ9, rfl⟩ := hq
            rw [hμ9]
            clear hμ9 μ9
            show Z 0 108 [(5, .int 0), (4, .int 3000), (3, .int 1000), (2, .int (nB (!(decide ((lg_cmp wd 0) = 0))))), (1, .int 3), (0, .ref 0)] [.ref 18, .int (μ.1 18 4), .ref 18] μ
            refine zq_gfr hc hH (by rfl) (ci := 1) (f := 0) (q := 19) (by rfl) (by decide +kernel) (by rfl) (by decide +kernel) ?_
            refine zq_call hc (z_cx_ok hH (by rfl)) (hw0 _ (TE_rf _) d' (by omega)) (by decide +kernel) (fun r9 μ9 hq => ?_)
            obtain ⟨hμ9, rfl⟩ := hq
            rw [hμ9]
            clear hμ9 μ9
            show Z 0 114 [(5, .int 0), (4, .int 3000), (3, .int 1000), (2, .int (nB (!(decide ((lg_cmp wd 0) = 0))))), (1, .int 3), (0, .ref 0)] [.long w0, .int (μ.1 18 4), .ref 18] μ
            refine z_rcs hc hH 2 (pc' := 116) (lv' := [(5, .int 0), (4, .int 3000), (3, .int 1000), (2, .int (nB (!(decide ((lg_cmp wd 0) = 0))))), (1, .int 3), (0, .ref 0)]) (st' := [.int (lg_cmp w0 0), .int (μ.1 18 4), .ref 18]) (μ' := μ) (by rfl) ?_
            refine zq_if hc hH (by rfl) (tg := 123) (by rfl) (fun h6 => ?_) (fun h6 => ?_)
            · have h6 : (decide ((lg_cmp w0 0) = 0)) = true := decide_eq_true (cm_eq9.mp h6)
              refine z_rcs hc hH 3 (pc' := 127) (lv' := [(5, .int 0), (4, .int 3000), (3, .int 1000), (2, .int (nB (!(decide ((lg_cmp wd 0) = 0))))), (1, .int 3), (0, .ref 0)]) (st' := [.int ((μ.1 18 4) + (-3000)), .ref 18]) (μ' := μ) (by rfl) ?_
              refine zq_pfi hc hH (by rfl) (ci := 1) (f := 4) (by rfl) (by decide +kernel) (by rfl) ?_
              show Z 0 130 [(5, .int 0), (4, .int 3000), (3, .int 1000), (2, .int (nB (!(decide ((lg_cmp wd 0) = 0))))), (1, .int 3), (0, .ref 0)] [] (z_ui μ 18 4 ((μ.1 18 4) + (-3000)))
              refine z_rcs0 hc hH 7 (pc' := 95) (lv' := [(5, .int 1), (4, .int 3000), (3, .int 1000), (2, .int (nB (!(decide ((lg_cmp wd 0) = 0))))), (1, .int 3), (0, .ref 0)]) (st' := [.int 1, .ref 0]) (by rfl) ?_
              refine zq_call hc (z_cx_ok hH (by rfl)) (gc_at d' (by omega) (z_ui μ 18 4 ((μ.1 18 4) + (-3000))) 1 (by decide)) (by decide +kernel) (fun r9 μ9 hq => ?_)
              obtain ⟨hμ9, rfl⟩ := hq
              rw [hμ9]
              clear hμ9 μ9
              show Z 0 98 [(5, .int 1), (4, .int 3000), (3, .int 1000), (2, .int (nB (!(decide ((lg_cmp wd 0) = 0))))), (1, .int 3), (0, .ref 0)] [.ref 26] _
              refine z_rcs0 hc hH 1 (pc' := 99) (lv' := [(5, .int 1), (4, .int 3000), (3, .int 1000), (2, .int (nB (!(decide ((lg_cmp wd 0) = 0))))), (1, .int 3), (0, .ref 0)]) (st' := [.ref 26, .ref 26]) (by rfl) ?_
              refine zq_gfi hc hH (by rfl) (ci := 1) (f := 4) (by rfl) (by decide +kernel) (by rfl) ?_
              refine zV1 (Z := Z) (ui_o (by first | decide | omega)) ?_
              refine z_rcs0 hc hH 2 (pc' := 105) (lv' := [(5, .int 1), (4, .int 3000), (3, .int 1000), (2, .int (nB (!(decide ((lg_cmp wd 0) = 0))))), (1, .int 3), (0, .ref 0)]) (st' := [.int 1, .ref 0, .int (μ.1 26 4), .ref 26]) (by rfl) ?_
              refine zq_call hc (z_cx_ok hH (by rfl)) (gc_at d' (by omega) (z_ui μ 18 4 ((μ.1 18 4) + (-3000))) 1 (by decide)) (by decide +kernel) (fun r9 μ9 hq => ?_)
              obtain ⟨hμ9, rfl⟩ := hq
              rw [hμ9]
              clear hμ9 μ9
              show Z 0 108 [(5, .int 1), (4, .int 3000), (3, .int 1000), (2, .int (nB (!(decide ((lg_cmp wd 0) = 0))))), (1, .int 3), (0, .ref 0)] [.ref 26, .int (μ.1 26 4), .ref 26] _
              refine zq_gfr hc hH (by rfl) (ci := 1) (f := 0) (q := 27) (by rfl) (by decide +kernel) (by rfl) (by decide +kernel) ?_
              refine zq_call hc (z_cx_ok hH (by rfl)) (hw1 _ (TE_ui (TE_rf _) (by intro i a hi h1 h2; omega)) d' (by omega)) (by decide +kernel) (fun r9 μ9 hq => ?_)
              obtain ⟨hμ9, rfl⟩ := hq
              rw [hμ9]
              clear hμ9 μ9
              show Z 0 114 [(5, .int 1), (4, .int 3000), (3, .int 1000), (2, .int (nB (!(decide ((lg_cmp wd 0) = 0))))), (1, .int 3), (0, .ref 0)] [.long w1, .int (μ.1 26 4), .ref 26] _
              refine z_rcs0 hc hH 2 (pc' := 116) (lv' := [(5, .int 1), (4, .int 3000), (3, .int 1000), (2, .int (nB (!(decide ((lg_cmp wd 0) = 0))))), (1, .int 3), (0, .ref 0)]) (st' := [.int (lg_cmp w1 0), .int (μ.1 26 4), .ref 26]) (by rfl) ?_
              refine zq_if hc hH (by rfl) (tg := 123) (by rfl) (fun h7 => ?_) (fun h7 => ?_)
              · have h7 : (decide ((lg_cmp w1 0) = 0)) = true := decide_eq_true (cm_eq9.mp h7)
                exact absurd (Eq.trans (Eq.symm (hb1)) h7) (by decide)
              · have h7 : (decide ((lg_cmp w1 0) = 0)) = false := decide_eq_false (cn_eq.mp h7)
                refine z_rcs0 hc hH 3 (pc' := 127) (lv' := [(5, .int 1), (4, .int 3000), (3, .int 1000), (2, .int (nB (!(decide ((lg_cmp wd 0) = 0))))), (1, .int 3), (0, .ref 0)]) (st' := [.int ((μ.1 26 4) + 1000), .ref 26]) (by rfl) ?_
                refine zq_pfi hc hH (by rfl) (ci := 1) (f := 4) (by rfl) (by decide +kernel) (by rfl) ?_
                show Z 0 130 [(5, .int 1), (4, .int 3000), (3, .int 1000), (2, .int (nB (!(decide ((lg_cmp wd 0) = 0))))), (1, .int 3), (0, .ref 0)] [] (z_ui (z_ui μ 18 4 ((μ.1 18 4) + (-3000))) 26 4 ((μ.1 26 4) + 1000))
                refine z_rcs0 hc hH 7 (pc' := 95) (lv' := [(5, .int 2), (4, .int 3000), (3, .int 1000), (2, .int (nB (!(decide ((lg_cmp wd 0) = 0))))), (1, .int 3), (0, .ref 0)]) (st' := [.int 2, .ref 0]) (by rfl) ?_
                refine zq_call hc (z_cx_ok hH (by rfl)) (gc_at d' (by omega) (z_ui (z_ui μ 18 4 ((μ.1 18 4) + (-3000))) 26 4 ((μ.1 26 4) + 1000)) 2 (by decide)) (by decide +kernel) (fun r9 μ9 hq => ?_)
                obtain ⟨hμ9, rfl⟩ := hq
                rw [hμ9]
                clear hμ9 μ9
                show Z 0 98 [(5, .int 2), (4, .int 3000), (3, .int 1000), (2, .int (nB (!(decide ((lg_cmp wd 0) = 0))))), (1, .int 3), (0, .ref 0)] [.ref 34] _
                refine z_rcs0 hc hH 1 (pc' := 99) (lv' := [(5, .int 2), (4, .int 3000), (3, .int 1000), (2, .int (nB (!(decide ((lg_cmp wd 0) = 0))))), (1, .int 3), (0, .ref 0)]) (st' := [.ref 34, .ref 34]) (by rfl) ?_
                refine zq_gfi hc hH (by rfl) (ci := 1) (f := 4) (by rfl) (by decide +kernel) (by rfl) ?_
                refine zV1 (Z := Z) (Eq.trans (ui_o (by first | decide | omega)) (ui_o (by first | decide | omega))) ?_
                refine z_rcs0 hc hH 2 (pc' := 105) (lv' := [(5, .int 2), (4, .int 3000), (3, .int 1000), (2, .int (nB (!(decide ((lg_cmp wd 0) = 0))))), (1, .int 3), (0, .ref 0)]) (st' := [.int 2, .ref 0, .int (μ.1 34 4), .ref 34]) (by rfl) ?_
                refine zq_call hc (z_cx_ok hH (by rfl)) (gc_at d' (by omega) (z_ui (z_ui μ 18 4 ((μ.1 18 4) + (-3000))) 26 4 ((μ.1 26 4) + 1000)) 2 (by decide)) (by decide +kernel) (fun r9 μ9 hq => ?_)
                obtain ⟨hμ9, rfl⟩ := hq
                rw [hμ9]
                clear hμ9 μ9
                show Z 0 108 [(5, .int 2), (4, .int 3000), (3, .int 1000), (2, .int (nB (!(decide ((lg_cmp wd 0) = 0))))), (1, .int 3), (0, .ref 0)] [.ref 34, .int (μ.1 34 4), .ref 34] _
                refine zq_gfr hc hH (by rfl) (ci := 1) (f := 0) (q := 35) (by rfl) (by decide +kernel) (by rfl) (by decide +kernel) ?_
                refine zq_call hc (z_cx_ok hH (by rfl)) (hw2 _ (TE_ui (TE_ui (TE_rf _) (by intro i a hi h1 h2; omega)) (by intro i a hi h1 h2; omega)) d' (by omega)) (by decide +kernel) (fun r9 μ9 hq => ?_)
                obtain ⟨hμ9, rfl⟩ := hq
                rw [hμ9]
                clear hμ9 μ9
                show Z 0 114 [(5, .int 2), (4, .int 3000), (3, .int 1000), (2, .int (nB (!(decide ((lg_cmp wd 0) = 0))))), (1, .int 3), (0, .ref 0)] [.long w2, .int (μ.1 34 4), .ref 34] _
                refine z_rcs0 hc hH 2 (pc' := 116) (lv' := [(5, .int 2), (4, .int 3000), (3, .int 1000), (2, .int (nB (!(decide ((lg_cmp wd 0) = 0))))), (1, .int 3), (0, .ref 0)]) (st' := [.int (lg_cmp w2 0), .int (μ.1 34 4), .ref 34]) (by rfl) ?_
                refine zq_if hc hH (by rfl) (tg := 123) (by rfl) (fun h8 => ?_) (fun h8 => ?_)
                · have h8 : (decide ((lg_cmp w2 0) = 0)) = true := decide_eq_true (cm_eq9.mp h8)
                  exact absurd (Eq.trans (Eq.symm (hb2)) h8) (by decide)
                · have h8 : (decide ((lg_cmp w2 0) = 0)) = false := decide_eq_false (cn_eq.mp h8)
                  refine z_rcs0 hc hH 3 (pc' := 127) (lv' := [(5, .int 2), (4, .int 3000), (3, .int 1000), (2, .int (nB (!(decide ((lg_cmp wd 0) = 0))))), (1, .int 3), (0, .ref 0)]) (st' := [.int ((μ.1 34 4) + 1000), .ref 34]) (by rfl) ?_
                  refine zq_pfi hc hH (by rfl) (ci := 1) (f := 4) (by rfl) (by decide +kernel) (by rfl) ?_
                  show Z 0 130 [(5, .int 2), (4, .int 3000), (3, .int 1000), (2, .int (nB (!(decide ((lg_cmp wd 0) = 0))))), (1, .int 3), (0, .ref 0)] [] (z_ui (z_ui (z_ui μ 18 4 ((μ.1 18 4) + (-3000))) 26 4 ((μ.1 26 4) + 1000)) 34 4 ((μ.1 34 4) + 1000))
                  refine z_rcs0 hc hH 7 (pc' := 95) (lv' := [(5, .int 3), (4, .int 3000), (3, .int 1000), (2, .int (nB (!(decide ((lg_cmp wd 0) = 0))))), (1, .int 3), (0, .ref 0)]) (st' := [.int 3, .ref 0]) (by rfl) ?_
                  refine zq_call hc (z_cx_ok hH (by rfl)) (gc_at d' (by omega) (z_ui (z_ui (z_ui μ 18 4 ((μ.1 18 4) + (-3000))) 26 4 ((μ.1 26 4) + 1000)) 34 4 ((μ.1 34 4) + 1000)) 3 (by decide)) (by decide +kernel) (fun r9 μ9 hq => ?_)
                  obtain ⟨hμ9, rfl⟩ := hq
                  rw [hμ9]
                  clear hμ9 μ9
                  show Z 0 98 [(5, .int 3), (4, .int 3000), (3, .int 1000), (2, .int (nB (!(decide ((lg_cmp wd 0) = 0))))), (1, .int 3), (0, .ref 0)] [.ref 42] _
                  refine z_rcs0 hc hH 1 (pc' := 99) (lv' := [(5, .int 3), (4, .int 3000), (3, .int 1000), (2, .int (nB (!(decide ((lg_cmp wd 0) = 0))))), (1, .int 3), (0, .ref 0)]) (st' := [.ref 42, .ref 42]) (by rfl) ?_
                  refine zq_gfi hc hH (by rfl) (ci := 1) (f := 4) (by rfl) (by decide +kernel) (by rfl) ?_
                  refine zV1 (Z := Z) (Eq.trans (ui_o (by first | decide | omega)) (Eq.trans (ui_o (by first | decide | omega)) (ui_o (by first | decide | omega)))) ?_
                  refine z_rcs0 hc hH 2 (pc' := 105) (lv' := [(5, .int 3), (4, .int 3000), (3, .int 1000), (2, .int (nB (!(decide ((lg_cmp wd 0) = 0))))), (1, .int 3), (0, .ref 0)]) (st' := [.int 3, .ref 0, .int (μ.1 42 4), .ref 42]) (by rfl) ?_
                  refine zq_call hc (z_cx_ok hH (by rfl)) (gc_at d' (by omega) (z_ui (z_ui (z_ui μ 18 4 ((μ.1 18 4) + (-3000))) 26 4 ((μ.1 26 4) + 1000)) 34 4 ((μ.1 34 4) + 1000)) 3 (by decide)) (by decide +kernel) (fun r9 μ9 hq => ?_)
                  obtain ⟨hμ9, rfl⟩ := hq
                  rw [hμ9]
                  clear hμ9 μ9
                  show Z 0 108 [(5, .int 3), (4, .int 3000), (3, .int 1000), (2, .int (nB (!(decide ((lg_cmp wd 0) = 0))))), (1, .int 3), (0, .ref 0)] [.ref 42, .int (μ.1 42 4), .ref 42] _
                  refine zq_gfr hc hH (by rfl) (ci := 1) (f := 0) (q := 43) (by rfl) (by decide +kernel) (by rfl) (by decide +kernel) ?_
                  refine zq_call hc (z_cx_ok hH (by rfl)) (hw3 _ (TE_ui (TE_ui (TE_ui (TE_rf _) (by intro i a hi h1 h2; omega)) (by intro i a hi h1 h2; omega)) (by intro i a hi h1 h2; omega)) d' (by omega)) (by decide +kernel) (fun r9 μ9 hq => ?_)
                  obtain ⟨hμ9, rfl⟩ := hq
                  rw [hμ9]
                  clear hμ9 μ9
                  show Z 0 114 [(5, .int 3), (4, .int 3000), (3, .int 1000), (2, .int (nB (!(decide ((lg_cmp wd 0) = 0))))), (1, .int 3), (0, .ref 0)] [.long w3, .int (μ.1 42 4), .ref 42] _
                  refine z_rcs0 hc hH 2 (pc' := 116) (lv' := [(5, .int 3), (4, .int 3000), (3, .int 1000), (2, .int (nB (!(decide ((lg_cmp wd 0) = 0))))), (1, .int 3), (0, .ref 0)]) (st' := [.int (lg_cmp w3 0), .int (μ.1 42 4), .ref 42]) (by rfl) ?_
                  refine zq_if hc hH (by rfl) (tg := 123) (by rfl) (fun h9 => ?_) (fun h9 => ?_)
                  · have h9 : (decide ((lg_cmp w3 0) = 0)) = true := decide_eq_true (cm_eq9.mp h9)
                    exact absurd (Eq.trans (Eq.symm (hb3)) h9) (by decide)
                  · have h9 : (decide ((lg_cmp w3 0) = 0)) = false := decide_eq_false (cn_eq.mp h9)
                    refine z_rcs0 hc hH 3 (pc' := 127) (lv' := [(5, .int 3), (4, .int 3000), (3, .int 1000), (2, .int (nB (!(decide ((lg_cmp wd 0) = 0))))), (1, .int 3), (0, .ref 0)]) (st' := [.int ((μ.1 42 4) + 1000), .ref 42]) (by rfl) ?_
                    refine zq_pfi hc hH (by rfl) (ci := 1) (f := 4) (by rfl) (by decide +kernel) (by rfl) ?_
                    show Z 0 130 [(5, .int 3), (4, .int 3000), (3, .int 1000), (2, .int (nB (!(decide ((lg_cmp wd 0) = 0))))), (1, .int 3), (0, .ref 0)] [] (z_ui (z_ui (z_ui (z_ui μ 18 4 ((μ.1 18 4) + (-3000))) 26 4 ((μ.1 26 4) + 1000)) 34 4 ((μ.1 34 4) + 1000)) 42 4 ((μ.1 42 4) + 1000))
                    refine z_rcs0 hc hH 8 (pc' := 139) (lv' := [(5, .int 4), (4, .int 3000), (3, .int 1000), (2, .int (nB (!(decide ((lg_cmp wd 0) = 0))))), (1, .int 3), (0, .ref 0)]) (st' := [.int 0, .int (nB (!(decide ((lg_cmp wd 0) = 0)))), .ref 0]) (by rfl) ?_
                    refine zq_call hc (z_cx_ok hH (by rfl)) (gc_endHandB d' (by omega) (z_ui (z_ui (z_ui (z_ui μ 18 4 ((μ.1 18 4) + (-3000))) 26 4 ((μ.1 26 4) + 1000)) 34 4 ((μ.1 34 4) + 1000)) 42 4 ((μ.1 42 4) + 1000)) (!(decide ((lg_cmp wd 0) = 0))) false dl e (by rw [ui_o (by first | decide | omega), ui_o (by first | decide | omega), ui_o (by first | decide | omega), ui_o (by first | decide | omega)]; exact hdl) hdl4 he) (by decide +kernel) (fun r9 μ9 hq => ?_)
                    obtain ⟨rfl, rfl⟩ := hq
                    show Z 0 142 [(5, .int 4), (4, .int 3000), (3, .int 1000), (2, .int (nB (!(decide ((lg_cmp wd 0) = 0))))), (1, .int 3), (0, .ref 0)] [] (eHB (z_ui (z_ui (z_ui (z_ui μ 18 4 ((μ.1 18 4) + (-3000))) 26 4 ((μ.1 26 4) + 1000)) 34 4 ((μ.1 34 4) + 1000)) 42 4 ((μ.1 42 4) + 1000)) (!(decide ((lg_cmp wd 0) = 0))) false (xBk (z_ui (z_ui (z_ui (z_ui μ 18 4 ((μ.1 18 4) + (-3000))) 26 4 ((μ.1 26 4) + 1000)) 34 4 ((μ.1 34 4) + 1000)) 42 4 ((μ.1 42 4) + 1000))) dl e (rcM (z_ui (z_ui (z_ui (z_ui μ 18 4 ((μ.1 18 4) + (-3000))) 26 4 ((μ.1 26 4) + 1000)) 34 4 ((μ.1 34 4) + 1000)) 42 4 ((μ.1 42 4) + 1000))))
                    exact hr 0 142 _ _ _ none (by decide +kernel) (by rfl) (⟨rfl, rfl⟩)
            · have h6 : (decide ((lg_cmp w0 0) = 0)) = false := decide_eq_false (cn_eq.mp h6)
              exact absurd (Eq.trans (Eq.symm (hb0)) h6) (by decide)
          refine zq_if hc hH (by rfl) (tg := 57) (by rfl) (fun h10 => ?_) (fun h10 => ?_)
          · have h10 : (decide ((lg_cmp wd 0) = 0)) = true := decide_eq_true (cm_eq9.mp h10)
            refine z_rcs hc hH 1 (pc' := 58) (lv' := [(2, .int 4), (1, .int 3), (0, .ref 0)]) (st' := [.int 0]) (μ' := μ) (by rfl) ?_
            exact zJ hJ5 rfl (by first | with_reducible rfl | (simp only [h10, lb_f, Int64.or_zero, Int32.add_zero, nB_t, nB_f, Bool.not_true, Bool.not_false, Bool.and_true, Bool.true_and, Bool.false_and, Bool.and_false, Bool.or_true, Bool.true_or, Bool.false_or, Bool.or_false, cond_true, cond_false]; done) | rfl) rfl
          · have h10 : (decide ((lg_cmp wd 0) = 0)) = false := decide_eq_false (cn_eq.mp h10)
            refine z_rcs hc hH 2 (pc' := 58) (lv' := [(2, .int 4), (1, .int 3), (0, .ref 0)]) (st' := [.int 1]) (μ' := μ) (by rfl) ?_
            exact zJ hJ5 rfl (by first | with_reducible rfl | (simp only [h10, lb_f, Int64.or_zero, Int32.add_zero, nB_t, nB_f, Bool.not_true, Bool.not_false, Bool.and_true, Bool.true_and, Bool.false_and, Bool.and_false, Bool.or_true, Bool.true_or, Bool.false_or, Bool.or_false, cond_true, cond_false]; done) | rfl) rfl
  · have h1 : (decide ((lg_cmp w0 0) = 0)) = false := decide_eq_false (cn_eq.mp h1)
    exact absurd (Eq.trans (Eq.symm (hb0)) h1) (by decide)
theorem gc_endUnwon1000 (d : Nat) (hd : 8 ≤ d) (μ : zM) (dl e : Nat) (hdl : μ.1 0 9 = nI dl) (hdl4 : dl < 4) (he : (dl + 1) % 4 = e) (w0 : Int64) (hw0 : ∀ μ1, TE μ μ1 → ∀ d, 7 ≤ d → z_C d mi_X3_waiting [.ref 19] μ1 (zR μ1 (.long w0))) (w1 : Int64) (hw1 : ∀ μ1, TE μ μ1 → ∀ d, 7 ≤ d → z_C d mi_X3_waiting [.ref 27] μ1 (zR μ1 (.long w1))) (w2 : Int64) (hw2 : ∀ μ1, TE μ μ1 → ∀ d, 7 ≤ d → z_C d mi_X3_waiting [.ref 35] μ1 (zR μ1 (.long w2))) (w3 : Int64) (hw3 : ∀ μ1, TE μ μ1 → ∀ d, 7 ≤ d → z_C d mi_X3_waiting [.ref 43] μ1 (zR μ1 (.long w3))) (wd : Int64) (hwd : ∀ μ1, TE μ μ1 → ∀ d, 7 ≤ d → z_C d mi_X3_waiting [.ref (19 + 8 * dl)] μ1 (zR μ1 (.long wd))) (hb0 : decide (lg_cmp w0 0 = 0) = false) (hb1 : decide (lg_cmp w1 0 = 0) = true) (hb2 : decide (lg_cmp w2 0 = 0) = true) (hb3 : decide (lg_cmp w3 0 = 0) = true) : z_C d mi_X6_endUnwon [.ref 0] μ (fun r μ' => r = none ∧ μ' = eHB (z_ui (z_ui (z_ui (z_ui μ 18 4 ((μ.1 18 4) + 3000)) 26 4 ((μ.1 26 4) + (-1000))) 34 4 ((μ.1 34 4) + (-1000))) 42 4 ((μ.1 42 4) + (-1000))) (!(decide ((lg_cmp wd 0) = 0))) false (xBk (z_ui (z_ui (z_ui (z_ui μ 18 4 ((μ.1 18 4) + 3000)) 26 4 ((μ.1 26 4) + (-1000))) 34 4 ((μ.1 34 4) + (-1000))) 42 4 ((μ.1 42 4) + (-1000)))) dl e (rcM (z_ui (z_ui (z_ui (z_ui μ 18 4 ((μ.1 18 4) + 3000)) 26 4 ((μ.1 26 4) + (-1000))) 34 4 ((μ.1 34 4) + (-1000))) 42 4 ((μ.1 42 4) + (-1000))))) := by
  refine z_C_in (by decide) (by omega) (fun d' Z ed hc hr => ?_)
  have hH : zH mi_X6_endUnwon zt_X6_endUnwon 79 6 6 := hh_X6_endUnwon
  refine z_rcs hc hH 9 (pc' := 11) (lv' := [(2, .int 0), (1, .int 0), (0, .ref 0)]) (st' := [.int 0, .ref 0]) (μ' := μ) (by rfl) ?_
  refine zq_call hc (z_cx_ok hH (by rfl)) (gc_at d' (by omega) μ 0 (by decide)) (by decide +kernel) (fun r9 μ9 hq => ?_)
  obtain ⟨hμ9, rfl⟩ := hq
  rw [hμ9]
  clear hμ9 μ9
  show Z 0 14 [(2, .int 0), (1, .int 0), (0, .ref 0)] [.ref 18] μ
  refine zq_gfr hc hH (by rfl) (ci := 1) (f := 0) (q := 19) (by rfl) (by decide +kernel) (by rfl) (by decide +kernel) ?_
  refine zq_call hc (z_cx_ok hH (by rfl)) (hw0 _ (TE_rf _) d' (by omega)) (by decide +kernel) (fun r9 μ9 hq => ?_)
  obtain ⟨hμ9, rfl⟩ := hq
  rw [hμ9]
  clear hμ9 μ9
  show Z 0 20 [(2, .int 0), (1, .int 0), (0, .ref 0)] [.long w0] μ
  refine z_rcs hc hH 2 (pc' := 22) (lv' := [(2, .int 0), (1, .int 0), (0, .ref 0)]) (st' := [.int (lg_cmp w0 0)]) (μ' := μ) (by rfl) ?_
  refine zq_if hc hH (by rfl) (tg := 28) (by rfl) (fun h1 => ?_) (fun h1 => ?_)
  · have h1 : (decide ((lg_cmp w0 0) = 0)) = true := decide_eq_true (cm_eq9.mp h1)
    exact absurd (Eq.trans (Eq.symm (hb0)) h1) (by decide)
  · have h1 : (decide ((lg_cmp w0 0) = 0)) = false := decide_eq_false (cn_eq.mp h1)
    refine z_rcs hc hH 8 (pc' := 11) (lv' := [(2, .int 1), (1, .int 1), (0, .ref 0)]) (st' := [.int 1, .ref 0]) (μ' := μ) (by rfl) ?_
    refine zq_call hc (z_cx_ok hH (by rfl)) (gc_at d' (by omega) μ 1 (by decide)) (by decide +kernel) (fun r9 μ9 hq => ?_)
    obtain ⟨hμ9, rfl⟩ := hq
    rw [hμ9]
    clear hμ9 μ9
    show Z 0 14 [(2, .int 1), (1, .int 1), (0, .ref 0)] [.ref 26] μ
    refine zq_gfr hc hH (by rfl) (ci := 1) (f := 0) (q := 27) (by rfl) (by decide +kernel) (by rfl) (by decide +kernel) ?_
    refine zq_call hc (z_cx_ok hH (by rfl)) (hw1 _ (TE_rf _) d' (by omega)) (by decide +kernel) (fun r9 μ9 hq => ?_)
    obtain ⟨hμ9, rfl⟩ := hq
    rw [hμ9]
    clear hμ9 μ9
    show Z 0 20 [(2, .int 1), (1, .int 1), (0, .ref 0)] [.long w1] μ
    refine z_rcs hc hH 2 (pc' := 22) (lv' := [(2, .int 1), (1, .int 1), (0, .ref 0)]) (st' := [.int (lg_cmp w1 0)]) (μ' := μ) (by rfl) ?_
    refine zq_if hc hH (by rfl) (tg := 28) (by rfl) (fun h2 => ?_) (fun h2 => ?_)
    · have h2 : (decide ((lg_cmp w1 0) = 0)) = true := decide_eq_true (cm_eq9.mp h2)
      refine z_rcs hc hH 7 (pc' := 11) (lv' := [(2, .int 2), (1, .int 1), (0, .ref 0)]) (st' := [.int 2, .ref 0]) (μ' := μ) (by rfl) ?_
      refine zq_call hc (z_cx_ok hH (by rfl)) (gc_at d' (by omega) μ 2 (by decide)) (by decide +kernel) (fun r9 μ9 hq => ?_)
      obtain ⟨hμ9, rfl⟩ := hq
      rw [hμ9]
      clear hμ9 μ9
      show Z 0 14 [(2, .int 2), (1, .int 1), (0, .ref 0)] [.ref 34] μ
      refine zq_gfr hc hH (by rfl) (ci := 1) (f := 0) (q := 35) (by rfl) (by decide +kernel) (by rfl) (by decide +kernel) ?_
      refine zq_call hc (z_cx_ok hH (by rfl)) (hw2 _ (TE_rf _) d' (by omega)) (by decide +kernel) (fun r9 μ9 hq => ?_)
      obtain ⟨hμ9, rfl⟩ := hq
      rw [hμ9]
      clear hμ9 μ9
      show Z 0 20 [(2, .int 2), (1, .int 1), (0, .ref 0)] [.long w2] μ
      refine z_rcs hc hH 2 (pc' := 22) (lv' := [(2, .int 2), (1, .int 1), (0, .ref 0)]) (st' := [.int (lg_cmp w2 0)]) (μ' := μ) (by rfl) ?_
      refine zq_if hc hH (by rfl) (tg := 28) (by rfl) (fun h3 => ?_) (fun h3 => ?_)
      · have h3 : (decide ((lg_cmp w2 0) = 0)) = true := decide_eq_true (cm_eq9.mp h3)
        refine z_rcs hc hH 7 (pc' := 11) (lv' := [(2, .int 3), (1, .int 1), (0, .ref 0)]) (st' := [.int 3, .ref 0]) (μ' := μ) (by rfl) ?_
        refine zq_call hc (z_cx_ok hH (by rfl)) (gc_at d' (by omega) μ 3 (by decide)) (by decide +kernel) (fun r9 μ9 hq => ?_)
        obtain ⟨hμ9, rfl⟩ := hq
        rw [hμ9]
        clear hμ9 μ9
        show Z 0 14 [(2, .int 3), (1, .int 1), (0, .ref 0)] [.ref 42] μ
        refine zq_gfr hc hH (by rfl) (ci := 1) (f := 0) (q := 43) (by rfl) (by decide +kernel) (by rfl) (by decide +kernel) ?_
        refine zq_call hc (z_cx_ok hH (by rfl)) (hw3 _ (TE_rf _) d' (by omega)) (by decide +kernel) (fun r9 μ9 hq => ?_)
        obtain ⟨hμ9, rfl⟩ := hq
        rw [hμ9]
        clear hμ9 μ9
        show Z 0 20 [(2, .int 3), (1, .int 1), (0, .ref 0)] [.long w3] μ
        refine z_rcs hc hH 2 (pc' := 22) (lv' := [(2, .int 3), (1, .int 1), (0, .ref 0)]) (st' := [.int (lg_cmp w3 0)]) (μ' := μ) (by rfl) ?_
        refine zq_if hc hH (by rfl) (tg := 28) (by rfl) (fun h4 => ?_) (fun h4 => ?_)
        · have h4 : (decide ((lg_cmp w3 0) = 0)) = true := decide_eq_true (cm_eq9.mp h4)
          refine z_rcs hc hH 7 (pc' := 36) (lv' := [(2, .int 4), (1, .int 1), (0, .ref 0)]) (st' := [.ref 0, .ref 0]) (μ' := μ) (by rfl) ?_
          refine zq_gfi hc hH (by rfl) (ci := 5) (f := 9) (by rfl) (by decide +kernel) (by rfl) ?_
          rw [hdl]
          refine zq_call hc (z_cx_ok hH (by rfl)) (gc_at4 d' (by omega) μ dl hdl4) (by decide +kernel) (fun r9 μ9 hq => ?_)
          obtain ⟨hμ9, rfl⟩ := hq
          rw [hμ9]
          clear hμ9 μ9
          show Z 0 42 [(2, .int 4), (1, .int 1), (0, .ref 0)] [.ref (18 + 8 * dl)] μ
          refine zq_gfr hc hH (by rfl) (ci := 1) (f := 0) (q := 19 + 8 * dl) (by rfl) (sj (P := fun i => okf 79 1 0 (18 + 8 * i)) hdl4 (by decide +kernel)) (by rfl) (sj (P := fun i => Nat.beq (z_gr (18 + 8 * i) 0) (19 + 8 * i)) hdl4 (by decide +kernel)) ?_
          refine zq_call hc (z_clv9 hH (by rfl) (by rfl) (by rfl) (by rfl) (sj (P := fun i => okr 79 2 (19 + 8 * i)) hdl4 (by decide +kernel)) (by rfl) (by rfl)) ((hwd _ (TE_rf _) d' (by omega))) (by decide +kernel) (fun r9 μ9 hq => ?_)
          obtain ⟨hμ9, rfl⟩ := hq
          rw [hμ9]
          clear hμ9 μ9
          show Z 0 48 [(2, .int 4), (1, .int 1), (0, .ref 0)] [.long wd] μ
          refine z_rcs hc hH 2 (pc' := 50) (lv' := [(2, .int 4), (1, .int 1), (0, .ref 0)]) (st' := [.int (lg_cmp wd 0)]) (μ' := μ) (by rfl) ?_
          have hJ5 : Z 0 58 [(2, .int 4), (1, .int 1), (0, .ref 0)] [.int (nB (!(decide ((lg_cmp wd 0) = 0))))] μ := by
            refine z_rcs hc hH 23 (pc' := 95) (lv' := [(5, .int 0), (4, .int 1000), (3, .int 3000), (2, .int (nB (!(decide ((lg_cmp wd 0) = 0))))), (1, .int 1), (0, .ref 0)]) (st' := [.int 0, .ref 0]) (μ' := μ) (by rfl) ?_
            refine zq_call hc (z_cx_ok hH (by rfl)) (gc_at d' (by omega) μ 0 (by decide)) (by decide +kernel) (fun r9 μ9 hq => ?_)
            obtain ⟨hμ9, rfl⟩ := hq
            rw [hμ9]
            clear hμ9 μ9
            show Z 0 98 [(5, .int 0), (4, .int 1000), (3, .int 3000), (2, .int (nB (!(decide ((lg_cmp wd 0) = 0))))), (1, .int 1), (0, .ref 0)] [.ref 18] μ
            refine z_rcs hc hH 1 (pc' := 99) (lv' := [(5, .int 0), (4, .int 1000), (3, .int 3000), (2, .int (nB (!(decide ((lg_cmp wd 0) = 0))))), (1, .int 1), (0, .ref 0)]) (st' := [.ref 18, .ref 18]) (μ' := μ) (by rfl) ?_
            refine zq_gfi hc hH (by rfl) (ci := 1) (f := 4) (by rfl) (by decide +kernel) (by rfl) ?_
            refine z_rcs hc hH 2 (pc' := 105) (lv' := [(5, .int 0), (4, .int 1000), (3, .int 3000), (2, .int (nB (!(decide ((lg_cmp wd 0) = 0))))), (1, .int 1), (0, .ref 0)]) (st' := [.int 0, .ref 0, .int (μ.1 18 4), .ref 18]) (μ' := μ) (by rfl) ?_
            refine zq_call hc (z_cx_ok hH (by rfl)) (gc_at d' (by omega) μ 0 (by decide)) (by decide +kernel) (fun r9 μ9 hq => ?_)
            obtain ⟨hμ9, rfl⟩ := hq
            rw [hμ9]
            clear hμ9 μ9
            show Z 0 108 [(5, .int 0), (4, .int 1000), (3, .int 3000), (2, .int (nB (!(decide ((lg_cmp wd 0) = 0))))), (1, .int 1), (0, .ref 0)] [.ref 18, .int (μ.1 18 4), .ref 18] μ
            refine zq_gfr hc hH (by rfl) (ci := 1) (f := 0) (q := 19) (by rfl) (by decide +kernel) (by rfl) (by decide +kernel) ?_
            refine zq_call hc (z_cx_ok hH (by rfl)) (hw0 _ (TE_rf _) d' (by omega)) (by decide +kernel) (fun r9 μ9 hq => ?_)
            obtain ⟨hμ9, rfl⟩ := hq
            rw [hμ9]
            clear hμ9 μ9
            show Z 0 114 [(5, .int 0), (4, .int 1000), (3, .int 3000), (2, .int (nB (!(decide ((lg_cmp wd 0) = 0))))), (1, .int 1), (0, .ref 0)] [.long w0, .int (μ.1 18 4), .ref 18] μ
            refine z_rcs hc hH 2 (pc' := 116) (lv' := [(5, .int 0), (4, .int 1000), (3, .int 3000), (2, .int (nB (!(decide ((lg_cmp wd 0) = 0))))), (1, .int 1), (0, .ref 0)]) (st' := [.int (lg_cmp w0 0), .int (μ.1 18 4), .ref 18]) (μ' := μ) (by rfl) ?_
            refine zq_if hc hH (by rfl) (tg := 123) (by rfl) (fun h6 => ?_) (fun h6 => ?_)
            · have h6 : (decide ((lg_cmp w0 0) = 0)) = true := decide_eq_true (cm_eq9.mp h6)
              exact absurd (Eq.trans (Eq.symm (hb0)) h6) (by decide)
            · have h6 : (decide ((lg_cmp w0 0) = 0)) = false := decide_eq_false (cn_eq.mp h6)
              refine z_rcs hc hH 3 (pc' := 127) (lv' := [(5, .int 0), (4, .int 1000), (3, .int 3000), (2, .int (nB (!(decide ((lg_cmp wd 0) = 0))))), (1, .int 1), (0, .ref 0)]) (st' := [.int ((μ.1 18 4) + 3000), .ref 18]) (μ' := μ) (by rfl) ?_
              refine zq_pfi hc hH (by rfl) (ci := 1) (f := 4) (by rfl) (by decide +kernel) (by rfl) ?_
              show Z 0 130 [(5, .int 0), (4, .int 1000), (3, .int 3000), (2, .int (nB (!(decide ((lg_cmp wd 0) = 0))))), (1, .int 1), (0, .ref 0)] [] (z_ui μ 18 4 ((μ.1 18 4) + 3000))
              refine z_rcs0 hc hH 7 (pc' := 95) (lv' := [(5, .int 1), (4, .int 1000), (3, .int 3000), (2, .int (nB (!(decide ((lg_cmp wd 0) = 0))))), (1, .int 1), (0, .ref 0)]) (st' := [.int 1, .ref 0]) (by rfl) ?_
              refine zq_call hc (z_cx_ok hH (by rfl)) (gc_at d' (by omega) (z_ui μ 18 4 ((μ.1 18 4) + 3000)) 1 (by decide)) (by decide +kernel) (fun r9 μ9 hq => ?_)
              obtain ⟨hμ9, rfl⟩ := hq
              rw [hμ9]
              clear hμ9 μ9
              show Z 0 98 [(5, .int 1), (4, .int 1000), (3, .int 3000), (2, .int (nB (!(decide ((lg_cmp wd 0) = 0))))), (1, .int 1), (0, .ref 0)] [.ref 26] _
              refine z_rcs0 hc hH 1 (pc' := 99) (lv' := [(5, .int 1), (4, .int 1000), (3, .int 3000), (2, .int (nB (!(decide ((lg_cmp wd 0) = 0))))), (1, .int 1), (0, .ref 0)]) (st' := [.ref 26, .ref 26]) (by rfl) ?_
              refine zq_gfi hc hH (by rfl) (ci := 1) (f := 4) (by rfl) (by decide +kernel) (by rfl) ?_
              refine zV1 (Z := Z) (ui_o (by first | decide | omega)) ?_
              refine z_rcs0 hc hH 2 (pc' := 105) (lv' := [(5, .int 1), (4, .int 1000), (3, .int 3000), (2, .int (nB (!(decide ((lg_cmp wd 0) = 0))))), (1, .int 1), (0, .ref 0)]) (st' := [.int 1, .ref 0, .int (μ.1 26 4), .ref 26]) (by rfl) ?_
              refine zq_call hc (z_cx_ok hH (by rfl)) (gc_at d' (by omega) (z_ui μ 18 4 ((μ.1 18 4) + 3000)) 1 (by decide)) (by decide +kernel) (fun r9 μ9 hq => ?_)
              obtain ⟨hμ9, rfl⟩ := hq
              rw [hμ9]
              clear hμ9 μ9
              show Z 0 108 [(5, .int 1), (4, .int 1000), (3, .int 3000), (2, .int (nB (!(decide ((lg_cmp wd 0) = 0))))), (1, .int 1), (0, .ref 0)] [.ref 26, .int (μ.1 26 4), .ref 26] _
              refine zq_gfr hc hH (by rfl) (ci := 1) (f := 0) (q := 27) (by rfl) (by decide +kernel) (by rfl) (by decide +kernel) ?_
              refine zq_call hc (z_cx_ok hH (by rfl)) (hw1 _ (TE_ui (TE_rf _) (by intro i a hi h1 h2; omega)) d' (by omega)) (by decide +kernel) (fun r9 μ9 hq => ?_)
              obtain ⟨hμ9, rfl⟩ := hq
              rw [hμ9]
              clear hμ9 μ9
              show Z 0 114 [(5, .int 1), (4, .int 1000), (3, .int 3000), (2, .int (nB (!(decide ((lg_cmp wd 0) = 0))))), (1, .int 1), (0, .ref 0)] [.long w1, .int (μ.1 26 4), .ref 26] _
              refine z_rcs0 hc hH 2 (pc' := 116) (lv' := [(5, .int 1), (4, .int 1000), (3, .int 3000), (2, .int (nB (!(decide ((lg_cmp wd 0) = 0))))), (1, .int 1), (0, .ref 0)]) (st' := [.int (lg_cmp w1 0), .int (μ.1 26 4), .ref 26]) (by rfl) ?_
              refine zq_if hc hH (by rfl) (tg := 123) (by rfl) (fun h7 => ?_) (fun h7 => ?_)
              · have h7 : (decide ((lg_cmp w1 0) = 0)) = true := decide_eq_true (cm_eq9.mp h7)
                refine z_rcs0 hc hH 3 (pc' := 127) (lv' := [(5, .int 1), (4, .int 1000), (3, .int 3000), (2, .int (nB (!(decide ((lg_cmp wd 0) = 0))))), (1, .int 1), (0, .ref 0)]) (st' := [.int ((μ.1 26 4) + (-1000)), .ref 26]) (by rfl) ?_
                refine zq_pfi hc hH (by rfl) (ci := 1) (f := 4) (by rfl) (by decide +kernel) (by rfl) ?_
                show Z 0 130 [(5, .int 1), (4, .int 1000), (3, .int 3000), (2, .int (nB (!(decide ((lg_cmp wd 0) = 0))))), (1, .int 1), (0, .ref 0)] [] (z_ui (z_ui μ 18 4 ((μ.1 18 4) + 3000)) 26 4 ((μ.1 26 4) + (-1000)))
                refine z_rcs0 hc hH 7 (pc' := 95) (lv' := [(5, .int 2), (4, .int 1000), (3, .int 3000), (2, .int (nB (!(decide ((lg_cmp wd 0) = 0))))), (1, .int 1), (0, .ref 0)]) (st' := [.int 2, .ref 0]) (by rfl) ?_
                refine zq_call hc (z_cx_ok hH (by rfl)) (gc_at d' (by omega) (z_ui (z_ui μ 18 4 ((μ.1 18 4) + 3000)) 26 4 ((μ.1 26 4) + (-1000))) 2 (by decide)) (by decide +kernel) (fun r9 μ9 hq => ?_)
                obtain ⟨hμ9, rfl⟩ := hq
                rw [hμ9]
                clear hμ9 μ9
                show Z 0 98 [(5, .int 2), (4, .int 1000), (3, .int 3000), (2, .int (nB (!(decide ((lg_cmp wd 0) = 0))))), (1, .int 1), (0, .ref 0)] [.ref 34] _
                refine z_rcs0 hc hH 1 (pc' := 99) (lv' := [(5, .int 2), (4, .int 1000), (3, .int 3000), (2, .int (nB (!(decide ((lg_cmp wd 0) = 0))))), (1, .int 1), (0, .ref 0)]) (st' := [.ref 34, .ref 34]) (by rfl) ?_
                refine zq_gfi hc hH (by rfl) (ci := 1) (f := 4) (by rfl) (by decide +kernel) (by rfl) ?_
                refine zV1 (Z := Z) (Eq.trans (ui_o (by first | decide | omega)) (ui_o (by first | decide | omega))) ?_
                refine z_rcs0 hc hH 2 (pc' := 105) (lv' := [(5, .int 2), (4, .int 1000), (3, .int 3000), (2, .int (nB (!(decide ((lg_cmp wd 0) = 0))))), (1, .int 1), (0, .ref 0)]) (st' := [.int 2, .ref 0, .int (μ.1 34 4), .ref 34]) (by rfl) ?_
                refine zq_call hc (z_cx_ok hH (by rfl)) (gc_at d' (by omega) (z_ui (z_ui μ 18 4 ((μ.1 18 4) + 3000)) 26 4 ((μ.1 26 4) + (-1000))) 2 (by decide)) (by decide +kernel) (fun r9 μ9 hq => ?_)
                obtain ⟨hμ9, rfl⟩ := hq
                rw [hμ9]
                clear hμ9 μ9
                show Z 0 108 [(5, .int 2), (4, .int 1000), (3, .int 3000), (2, .int (nB (!(decide ((lg_cmp wd 0) = 0))))), (1, .int 1), (0, .ref 0)] [.ref 34, .int (μ.1 34 4), .ref 34] _
                refine zq_gfr hc hH (by rfl) (ci := 1) (f := 0) (q := 35) (by rfl) (by decide +kernel) (by rfl) (by decide +kernel) ?_
                refine zq_call hc (z_cx_ok hH (by rfl)) (hw2 _ (TE_ui (TE_ui (TE_rf _) (by intro i a hi h1 h2; omega)) (by intro i a hi h1 h2; omega)) d' (by omega)) (by decide +kernel) (fun r9 μ9 hq => ?_)
                obtain ⟨hμ9, rfl⟩ := hq
                rw [hμ9]
                clear hμ9 μ9
                show Z 0 114 [(5, .int 2), (4, .int 1000), (3, .int 3000), (2, .int (nB (!(decide ((lg_cmp wd 0) = 0))))), (1, .int 1), (0, .ref 0)] [.long w2, .int (μ.1 34 4), .ref 34] _
                refine z_rcs0 hc hH 2 (pc' := 116) (lv' := [(5, .int 2), (4, .int 1000), (3, .int 3000), (2, .int (nB (!(decide ((lg_cmp wd 0) = 0))))), (1, .int 1), (0, .ref 0)]) (st' := [.int (lg_cmp w2 0), .int (μ.1 34 4), .ref 34]) (by rfl) ?_
                refine zq_if hc hH (by rfl) (tg := 123) (by rfl) (fun h8 => ?_) (fun h8 => ?_)
                · have h8 : (decide ((lg_cmp w2 0) = 0)) = true := decide_eq_true (cm_eq9.mp h8)
                  refine z_rcs0 hc hH 3 (pc' := 127) (lv' := [(5, .int 2), (4, .int 1000), (3, .int 3000), (2, .int (nB (!(decide ((lg_cmp wd 0) = 0))))), (1, .int 1), (0, .ref 0)]) (st' := [.int ((μ.1 34 4) + (-1000)), .ref 34]) (by rfl) ?_
                  refine zq_pfi hc hH (by rfl) (ci := 1) (f := 4) (by rfl) (by decide +kernel) (by rfl) ?_
                  show Z 0 130 [(5, .int 2), (4, .int 1000), (3, .int 3000), (2, .int (nB (!(decide ((lg_cmp wd 0) = 0))))), (1, .int 1), (0, .ref 0)] [] (z_ui (z_ui (z_ui μ 18 4 ((μ.1 18 4) + 3000)) 26 4 ((μ.1 26 4) + (-1000))) 34 4 ((μ.1 34 4) + (-1000)))
                  refine z_rcs0 hc hH 7 (pc' := 95) (lv' := [(5, .int 3), (4, .int 1000), (3, .int 3000), (2, .int (nB (!(decide ((lg_cmp wd 0) = 0))))), (1, .int 1), (0, .ref 0)]) (st' := [.int 3, .ref 0]) (by rfl) ?_
                  refine zq_call hc (z_cx_ok hH (by rfl)) (gc_at d' (by omega) (z_ui (z_ui (z_ui μ 18 4 ((μ.1 18 4) + 3000)) 26 4 ((μ.1 26 4) + (-1000))) 34 4 ((μ.1 34 4) + (-1000))) 3 (by decide)) (by decide +kernel) (fun r9 μ9 hq => ?_)
                  obtain ⟨hμ9, rfl⟩ := hq
                  rw [hμ9]
                  clear hμ9 μ9
                  show Z 0 98 [(5, .int 3), (4, .int 1000), (3, .int 3000), (2, .int (nB (!(decide ((lg_cmp wd 0) = 0))))), (1, .int 1), (0, .ref 0)] [.ref 42] _
                  refine z_rcs0 hc hH 1 (pc' := 99) (lv' := [(5, .int 3), (4, .int 1000), (3, .int 3000), (2, .int (nB (!(decide ((lg_cmp wd 0) = 0))))), (1, .int 1), (0, .ref 0)]) (st' := [.ref 42, .ref 42]) (by rfl) ?_
                  refine zq_gfi hc hH (by rfl) (ci := 1) (f := 4) (by rfl) (by decide +kernel) (by rfl) ?_
                  refine zV1 (Z := Z) (Eq.trans (ui_o (by first | decide | omega)) (Eq.trans (ui_o (by first | decide | omega)) (ui_o (by first | decide | omega)))) ?_
                  refine z_rcs0 hc hH 2 (pc' := 105) (lv' := [(5, .int 3), (4, .int 1000), (3, .int 3000), (2, .int (nB (!(decide ((lg_cmp wd 0) = 0))))), (1, .int 1), (0, .ref 0)]) (st' := [.int 3, .ref 0, .int (μ.1 42 4), .ref 42]) (by rfl) ?_
                  refine zq_call hc (z_cx_ok hH (by rfl)) (gc_at d' (by omega) (z_ui (z_ui (z_ui μ 18 4 ((μ.1 18 4) + 3000)) 26 4 ((μ.1 26 4) + (-1000))) 34 4 ((μ.1 34 4) + (-1000))) 3 (by decide)) (by decide +kernel) (fun r9 μ9 hq => ?_)
                  obtain ⟨hμ9, rfl⟩ := hq
                  rw [hμ9]
                  clear hμ9 μ9
                  show Z 0 108 [(5, .int 3), (4, .int 1000), (3, .int 3000), (2, .int (nB (!(decide ((lg_cmp wd 0) = 0))))), (1, .int 1), (0, .ref 0)] [.ref 42, .int (μ.1 42 4), .ref 42] _
                  refine zq_gfr hc hH (by rfl) (ci := 1) (f := 0) (q := 43) (by rfl) (by decide +kernel) (by rfl) (by decide +kernel) ?_
                  refine zq_call hc (z_cx_ok hH (by rfl)) (hw3 _ (TE_ui (TE_ui (TE_ui (TE_rf _) (by intro i a hi h1 h2; omega)) (by intro i a hi h1 h2; omega)) (by intro i a hi h1 h2; omega)) d' (by omega)) (by decide +kernel) (fun r9 μ9 hq => ?_)
                  obtain ⟨hμ9, rfl⟩ := hq
                  rw [hμ9]
                  clear hμ9 μ9
                  show Z 0 114 [(5, .int 3), (4, .int 1000), (3, .int 3000), (2, .int (nB (!(decide ((lg_cmp wd 0) = 0))))), (1, .int 1), (0, .ref 0)] [.long w3, .int (μ.1 42 4), .ref 42] _
                  refine z_rcs0 hc hH 2 (pc' := 116) (lv' := [(5, .int 3), (4, .int 1000), (3, .int 3000), (2, .int (nB (!(decide ((lg_cmp wd 0) = 0))))), (1, .int 1), (0, .ref 0)]) (st' := [.int (lg_cmp w3 0), .int (μ.1 42 4), .ref 42]) (by rfl) ?_
                  refine zq_if hc hH (by rfl) (tg := 123) (by rfl) (fun h9 => ?_) (fun h9 => ?_)
                  · have h9 : (decide ((lg_cmp w3 0) = 0)) = true := decide_eq_true (cm_eq9.mp h9)
                    refine z_rcs0 hc hH 3 (pc' := 127) (lv' := [(5, .int 3), (4, .int 1000), (3, .int 3000), (2, .int (nB (!(decide ((lg_cmp wd 0) = 0))))), (1, .int 1), (0, .ref 0)]) (st' := [.int ((μ.1 42 4) + (-1000)), .ref 42]) (by rfl) ?_
                    refine zq_pfi hc hH (by rfl) (ci := 1) (f := 4) (by rfl) (by decide +kernel) (by rfl) ?_
                    show Z 0 130 [(5, .int 3), (4, .int 1000), (3, .int 3000), (2, .int (nB (!(decide ((lg_cmp wd 0) = 0))))), (1, .int 1), (0, .ref 0)] [] (z_ui (z_ui (z_ui (z_ui μ 18 4 ((μ.1 18 4) + 3000)) 26 4 ((μ.1 26 4) + (-1000))) 34 4 ((μ.1 34 4) + (-1000))) 42 4 ((μ.1 42 4) + (-1000)))
                    refine z_rcs0 hc hH 8 (pc' := 139) (lv' := [(5, .int 4), (4, .int 1000), (3, .int 3000), (2, .int (nB (!(decide ((lg_cmp wd 0) = 0))))), (1, .int 1), (0, .ref 0)]) (st' := [.int 0, .int (nB (!(decide ((lg_cmp wd 0) = 0)))), .ref 0]) (by rfl) ?_
                    refine zq_call hc (z_cx_ok hH (by rfl)) (gc_endHandB d' (by omega) (z_ui (z_ui (z_ui (z_ui μ 18 4 ((μ.1 18 4) + 3000)) 26 4 ((μ.1 26 4) + (-1000))) 34 4 ((μ.1 34 4) + (-1000))) 42 4 ((μ.1 42 4) + (-1000))) (!(decide ((lg_cmp wd 0) = 0))) false dl e (by rw [ui_o (by first | decide | omega), ui_o (by first | decide | omega), ui_o (by first | decide | omega), ui_o (by first | decide | omega)]; exact hdl) hdl4 he) (by decide +kernel) (fun r9 μ9 hq => ?_)
                    obtain ⟨rfl, rfl⟩ := hq
                    show Z 0 142 [(5, .int 4), (4, .int 1000), (3, .int 3000), (2, .int (nB (!(decide ((lg_cmp wd 0) = 0))))), (1, .int 1), (0, .ref 0)] [] (eHB (z_ui (z_ui (z_ui (z_ui μ 18 4 ((μ.1 18 4) + 3000)) 26 4 ((μ.1 26 4) + (-1000))) 34 4 ((μ.1 34 4) + (-1000))) 42 4 ((μ.1 42 4) + (-1000))) (!(decide ((lg_cmp wd 0) = 0))) false (xBk (z_ui (z_ui (z_ui (z_ui μ 18 4 ((μ.1 18 4) + 3000)) 26 4 ((μ.1 26 4) + (-1000))) 34 4 ((μ.1 34 4) + (-1000))) 42 4 ((μ.1 42 4) + (-1000)))) dl e (rcM (z_ui (z_ui (z_ui (z_ui μ 18 4 ((μ.1 18 4) + 3000)) 26 4 ((μ.1 26 4) + (-1000))) 34 4 ((μ.1 34 4) + (-1000))) 42 4 ((μ.1 42 4) + (-1000)))))
                    exact hr 0 142 _ _ _ none (by decide +kernel) (by rfl) (⟨rfl, rfl⟩)
                  · have h9 : (decide ((lg_cmp w3 0) = 0)) = false := decide_eq_false (cn_eq.mp h9)
                    exact absurd (Eq.trans (Eq.symm (hb3)) h9) (by decide)
                · have h8 : (decide ((lg_cmp w2 0) = 0)) = false := decide_eq_false (cn_eq.mp h8)
                  exact absurd (Eq.trans (Eq.symm (hb2)) h8) (by decide)
              · have h7 : (decide ((lg_cmp w1 0) = 0)) = false := decide_eq_false (cn_eq.mp h7)
                exact absurd (Eq.trans (Eq.symm (hb1)) h7) (by decide)
          refine zq_if hc hH (by rfl) (tg := 57) (by rfl) (fun h10 => ?_) (fun h10 => ?_)
          · have h10 : (decide ((lg_cmp wd 0) = 0)) = true := decide_eq_true (cm_eq9.mp h10)
            refine z_rcs hc hH 1 (pc' := 58) (lv' := [(2, .int 4), (1, .int 1), (0, .ref 0)]) (st' := [.int 0]) (μ' := μ) (by rfl) ?_
            exact zJ hJ5 rfl (by first | with_reducible rfl | (simp only [h10, lb_f, Int64.or_zero, Int32.add_zero, nB_t, nB_f, Bool.not_true, Bool.not_false, Bool.and_true, Bool.true_and, Bool.false_and, Bool.and_false, Bool.or_true, Bool.true_or, Bool.false_or, Bool.or_false, cond_true, cond_false]; done) | rfl) rfl
          · have h10 : (decide ((lg_cmp wd 0) = 0)) = false := decide_eq_false (cn_eq.mp h10)
            refine z_rcs hc hH 2 (pc' := 58) (lv' := [(2, .int 4), (1, .int 1), (0, .ref 0)]) (st' := [.int 1]) (μ' := μ) (by rfl) ?_
            exact zJ hJ5 rfl (by first | with_reducible rfl | (simp only [h10, lb_f, Int64.or_zero, Int32.add_zero, nB_t, nB_f, Bool.not_true, Bool.not_false, Bool.and_true, Bool.true_and, Bool.false_and, Bool.and_false, Bool.or_true, Bool.true_or, Bool.false_or, Bool.or_false, cond_true, cond_false]; done) | rfl) rfl
        · have h4 : (decide ((lg_cmp w3 0) = 0)) = false := decide_eq_false (cn_eq.mp h4)
          exact absurd (Eq.trans (Eq.symm (hb3)) h4) (by decide)
      · have h3 : (decide ((lg_cmp w2 0) = 0)) = false := decide_eq_false (cn_eq.mp h3)
        exact absurd (Eq.trans (Eq.symm (hb2)) h3) (by decide)
    · have h2 : (decide ((lg_cmp w1 0) = 0)) = false := decide_eq_false (cn_eq.mp h2)
      exact absurd (Eq.trans (Eq.symm (hb1)) h2) (by decide)
theorem gc_endUnwon1001 (d : Nat) (hd : 8 ≤ d) (μ : zM) (dl e : Nat) (hdl : μ.1 0 9 = nI dl) (hdl4 : dl < 4) (he : (dl + 1) % 4 = e) (w0 : Int64) (hw0 : ∀ μ1, TE μ μ1 → ∀ d, 7 ≤ d → z_C d mi_X3_waiting [.ref 19] μ1 (zR μ1 (.long w0))) (w1 : Int64) (hw1 : ∀ μ1, TE μ μ1 → ∀ d, 7 ≤ d → z_C d mi_X3_waiting [.ref 27] μ1 (zR μ1 (.long w1))) (w2 : Int64) (hw2 : ∀ μ1, TE μ μ1 → ∀ d, 7 ≤ d → z_C d mi_X3_waiting [.ref 35] μ1 (zR μ1 (.long w2))) (w3 : Int64) (hw3 : ∀ μ1, TE μ μ1 → ∀ d, 7 ≤ d → z_C d mi_X3_waiting [.ref 43] μ1 (zR μ1 (.long w3))) (wd : Int64) (hwd : ∀ μ1, TE μ μ1 → ∀ d, 7 ≤ d → z_C d mi_X3_waiting [.ref (19 + 8 * dl)] μ1 (zR μ1 (.long wd))) (hb0 : decide (lg_cmp w0 0 = 0) = false) (hb1 : decide (lg_cmp w1 0 = 0) = true) (hb2 : decide (lg_cmp w2 0 = 0) = true) (hb3 : decide (lg_cmp w3 0 = 0) = false) : z_C d mi_X6_endUnwon [.ref 0] μ (fun r μ' => r = none ∧ μ' = eHB (z_ui (z_ui (z_ui (z_ui μ 18 4 ((μ.1 18 4) + 1500)) 26 4 ((μ.1 26 4) + (-1500))) 34 4 ((μ.1 34 4) + (-1500))) 42 4 ((μ.1 42 4) + 1500)) (!(decide ((lg_cmp wd 0) = 0))) false (xBk (z_ui (z_ui (z_ui (z_ui μ 18 4 ((μ.1 18 4) + 1500)) 26 4 ((μ.1 26 4) + (-1500))) 34 4 ((μ.1 34 4) + (-1500))) 42 4 ((μ.1 42 4) + 1500))) dl e (rcM (z_ui (z_ui (z_ui (z_ui μ 18 4 ((μ.1 18 4) + 1500)) 26 4 ((μ.1 26 4) + (-1500))) 34 4 ((μ.1 34 4) + (-1500))) 42 4 ((μ.1 42 4) + 1500)))) := by
  refine z_C_in (by decide) (by omega) (fun d' Z ed hc hr => ?_)
  have hH : zH mi_X6_endUnwon zt_X6_endUnwon 79 6 6 := hh_X6_endUnwon
  refine z_rcs hc hH 9 (pc' := 11) (lv' := [(2, .int 0), (1, .int 0), (0, .ref 0)]) (st' := [.int 0, .ref 0]) (μ' := μ) (by rfl) ?_
  refine zq_call hc (z_cx_ok hH (by rfl)) (gc_at d' (by omega) μ 0 (by decide)) (by decide +kernel) (fun r9 μ9 hq => ?_)
  obtain ⟨hμ9, rfl⟩ := hq
  rw [hμ9]
  clear hμ9 μ9
  show Z 0 14 [(2, .int 0), (1, .int 0), (0, .ref 0)] [.ref 18] μ
  refine zq_gfr hc hH (by rfl) (ci := 1) (f := 0) (q := 19) (by rfl) (by decide +kernel) (by rfl) (by decide +kernel) ?_
  refine zq_call hc (z_cx_ok hH (by rfl)) (hw0 _ (TE_rf _) d' (by omega)) (by decide +kernel) (fun r9 μ9 hq => ?_)
  obtain ⟨hμ9, rfl⟩ := hq
  rw [hμ9]
  clear hμ9 μ9
  show Z 0 20 [(2, .int 0), (1, .int 0), (0, .ref 0)] [.long w0] μ
  refine z_rcs hc hH 2 (pc' := 22) (lv' := [(2, .int 0), (1, .int 0), (0, .ref 0)]) (st' := [.int (lg_cmp w0 0)]) (μ' := μ) (by rfl) ?_
  refine zq_if hc hH (by rfl) (tg := 28) (by rfl) (fun h1 => ?_) (fun h1 => ?_)
  · have h1 : (decide ((lg_cmp w0 0) = 0)) = true := decide_eq_true (cm_eq9.mp h1)
    exact absurd (Eq.trans (Eq.symm (hb0)) h1) (by decide)
  · have h1 : (decide ((lg_cmp w0 0) = 0)) = false := decide_eq_false (cn_eq.mp h1)
    refine z_rcs hc hH 8 (pc' := 11) (lv' := [(2, .int 1), (1, .int 1), (0, .ref 0)]) (st' := [.int 1, .ref 0]) (μ' := μ) (by rfl) ?_
    refine zq_call hc (z_cx_ok hH (by rfl)) (gc_at d' (by omega) μ 1 (by decide)) (by decide +kernel) (fun r9 μ9 hq => ?_)
    obtain ⟨hμ9, rfl⟩ := hq
    rw [hμ9]
    clear hμ9 μ9
    show Z 0 14 [(2, .int 1), (1, .int 1), (0, .ref 0)] [.ref 26] μ
    refine zq_gfr hc hH (by rfl) (ci := 1) (f := 0) (q := 27) (by rfl) (by decide +kernel) (by rfl) (by decide +kernel) ?_
    refine zq_call hc (z_cx_ok hH (by rfl)) (hw1 _ (TE_rf _) d' (by omega)) (by decide +kernel) (fun r9 μ9 hq => ?_)
    obtain ⟨hμ9, rfl⟩ := hq
    rw [hμ9]
    clear hμ9 μ9
    show Z 0 20 [(2, .int 1), (1, .int 1), (0, .ref 0)] [.long w1] μ
    refine z_rcs hc hH 2 (pc' := 22) (lv' := [(2, .int 1), (1, .int 1), (0, .ref 0)]) (st' := [.int (lg_cmp w1 0)]) (μ' := μ) (by rfl) ?_
    refine zq_if hc hH (by rfl) (tg := 28) (by rfl) (fun h2 => ?_) (fun h2 => ?_)
    · have h2 : (decide ((lg_cmp w1 0) = 0)) = true := decide_eq_true (cm_eq9.mp h2)
      refine z_rcs hc hH 7 (pc' := 11) (lv' := [(2, .int 2), (1, .int 1), (0, .ref 0)]) (st' := [.int 2, .ref 0]) (μ' := μ) (by rfl) ?_
      refine zq_call hc (z_cx_ok hH (by rfl)) (gc_at d' (by omega) μ 2 (by decide)) (by decide +kernel) (fun r9 μ9 hq => ?_)
      obtain ⟨hμ9, rfl⟩ := hq
      rw [hμ9]
      clear hμ9 μ9
      show Z 0 14 [(2, .int 2), (1, .int 1), (0, .ref 0)] [.ref 34] μ
      refine zq_gfr hc hH (by rfl) (ci := 1) (f := 0) (q := 35) (by rfl) (by decide +kernel) (by rfl) (by decide +kernel) ?_
      refine zq_call hc (z_cx_ok hH (by rfl)) (hw2 _ (TE_rf _) d' (by omega)) (by decide +kernel) (fun r9 μ9 hq => ?_)
      obtain ⟨hμ9, rfl⟩ := hq
      rw [hμ9]
      clear hμ9 μ9
      show Z 0 20 [(2, .int 2), (1, .int 1), (0, .ref 0)] [.long w2] μ
      refine z_rcs hc hH 2 (pc' := 22) (lv' := [(2, .int 2), (1, .int 1), (0, .ref 0)]) (st' := [.int (lg_cmp w2 0)]) (μ' := μ) (by rfl) ?_
      refine zq_if hc hH (by rfl) (tg := 28) (by rfl) (fun h3 => ?_) (fun h3 => ?_)
      · have h3 : (decide ((lg_cmp w2 0) = 0)) = true := decide_eq_true (cm_eq9.mp h3)
        refine z_rcs hc hH 7 (pc' := 11) (lv' := [(2, .int 3), (1, .int 1), (0, .ref 0)]) (st' := [.int 3, .ref 0]) (μ' := μ) (by rfl) ?_
        refine zq_call hc (z_cx_ok hH (by rfl)) (gc_at d' (by omega) μ 3 (by decide)) (by decide +kernel) (fun r9 μ9 hq => ?_)
        obtain ⟨hμ9, rfl⟩ := hq
        rw [hμ9]
        clear hμ9 μ9
        show Z 0 14 [(2, .int 3), (1, .int 1), (0, .ref 0)] [.ref 42] μ
        refine zq_gfr hc hH (by rfl) (ci := 1) (f := 0) (q := 43) (by rfl) (by decide +kernel) (by rfl) (by decide +kernel) ?_
        refine zq_call hc (z_cx_ok hH (by rfl)) (hw3 _ (TE_rf _) d' (by omega)) (by decide +kernel) (fun r9 μ9 hq => ?_)
        obtain ⟨hμ9, rfl⟩ := hq
        rw [hμ9]
        clear hμ9 μ9
        show Z 0 20 [(2, .int 3), (1, .int 1), (0, .ref 0)] [.long w3] μ
        refine z_rcs hc hH 2 (pc' := 22) (lv' := [(2, .int 3), (1, .int 1), (0, .ref 0)]) (st' := [.int (lg_cmp w3 0)]) (μ' := μ) (by rfl) ?_
        refine zq_if hc hH (by rfl) (tg := 28) (by rfl) (fun h4 => ?_) (fun h4 => ?_)
        · have h4 : (decide ((lg_cmp w3 0) = 0)) = true := decide_eq_true (cm_eq9.mp h4)
          exact absurd (Eq.trans (Eq.symm (hb3)) h4) (by decide)
        · have h4 : (decide ((lg_cmp w3 0) = 0)) = false := decide_eq_false (cn_eq.mp h4)
          refine z_rcs hc hH 8 (pc' := 36) (lv' := [(2, .int 4), (1, .int 2), (0, .ref 0)]) (st' := [.ref 0, .ref 0]) (μ' := μ) (by rfl) ?_
          refine zq_gfi hc hH (by rfl) (ci := 5) (f := 9) (by rfl) (by decide +kernel) (by rfl) ?_
          rw [hdl]
          refine zq_call hc (z_cx_ok hH (by rfl)) (gc_at4 d' (by omega) μ dl hdl4) (by decide +kernel) (fun r9 μ9 hq => ?_)
          obtain ⟨hμ9, rfl⟩ := hq
          rw [hμ9]
          clear hμ9 μ9
          show Z 0 42 [(2, .int 4), (1, .int 2), (0, .ref 0)] [.ref (18 + 8 * dl)] μ
          refine zq_gfr hc hH (by rfl) (ci := 1) (f := 0) (q := 19 + 8 * dl) (by rfl) (sj (P := fun i => okf 79 1 0 (18 + 8 * i)) hdl4 (by decide +kernel)) (by rfl) (sj (P := fun i => Nat.beq (z_gr (18 + 8 * i) 0) (19 + 8 * i)) hdl4 (by decide +kernel)) ?_
          refine zq_call hc (z_clv9 hH (by rfl) (by rfl) (by rfl) (by rfl) (sj (P := fun i => okr 79 2 (19 + 8 * i)) hdl4 (by decide +kernel)) (by rfl) (by rfl)) ((hwd _ (TE_rf _) d' (by omega))) (by decide +kernel) (fun r9 μ9 hq => ?_)
          obtain ⟨hμ9, rfl⟩ := hq
          rw [hμ9]
          clear hμ9 μ9
          show Z 0 48 [(2, .int 4), (1, .int 2), (0, .ref 0)] [.long wd] μ
          refine z_rcs hc hH 2 (pc' := 50) (lv' := [(2, .int 4), (1, .int 2), (0, .ref 0)]) (st' := [.int (lg_cmp wd 0)]) (μ' := μ) (by rfl) ?_
          have hJ5 : Z 0 58 [(2, .int 4), (1, .int 2), (0, .ref 0)] [.int (nB (!(decide ((lg_cmp wd 0) = 0))))] μ := by
            refine z_rcs hc hH 23 (pc' := 95) (lv' := [(5, .int 0), (4, .int 1500), (3, .int 1500), (2, .int (nB (!(decide ((lg_cmp wd 0) = 0))))), (1, .int 2), (0, .ref 0)]) (st' := [.int 0, .ref 0]) (μ' := μ) (by rfl) ?_
            refine zq_call hc (z_cx_ok hH (by rfl)) (gc_at d' (by omega) μ 0 (by decide)) (by decide +kernel) (fun r9 μ9 hq => ?_)
            obtain ⟨hμ9, rfl⟩ := hq
            rw [hμ9]
            clear hμ9 μ9
            show Z 0 98 [(5, .int 0), (4, .int 1500), (3, .int 1500), (2, .int (nB (!(decide ((lg_cmp wd 0) = 0))))), (1, .int 2), (0, .ref 0)] [.ref 18] μ
            refine z_rcs hc hH 1 (pc' := 99) (lv' := [(5, .int 0), (4, .int 1500), (3, .int 1500), (2, .int (nB (!(decide ((lg_cmp wd 0) = 0))))), (1, .int 2), (0, .ref 0)]) (st' := [.ref 18, .ref 18]) (μ' := μ) (by rfl) ?_
            refine zq_gfi hc hH (by rfl) (ci := 1) (f := 4) (by rfl) (by decide +kernel) (by rfl) ?_
            refine z_rcs hc hH 2 (pc' := 105) (lv' := [(5, .int 0), (4, .int 1500), (3, .int 1500), (2, .int (nB (!(decide ((lg_cmp wd 0) = 0))))), (1, .int 2), (0, .ref 0)]) (st' := [.int 0, .ref 0, .int (μ.1 18 4), .ref 18]) (μ' := μ) (by rfl) ?_
            refine zq_call hc (z_cx_ok hH (by rfl)) (gc_at d' (by omega) μ 0 (by decide)) (by decide +kernel) (fun r9 μ9 hq => ?_)
            obtain ⟨hμ9, rfl⟩ := hq
            rw [hμ9]
            clear hμ9 μ9
            show Z 0 108 [(5, .int 0), (4, .int 1500), (3, .int 1500), (2, .int (nB (!(decide ((lg_cmp wd 0) = 0))))), (1, .int 2), (0, .ref 0)] [.ref 18, .int (μ.1 18 4), .ref 18] μ
            refine zq_gfr hc hH (by rfl) (ci := 1) (f := 0) (q := 19) (by rfl) (by decide +kernel) (by rfl) (by decide +kernel) ?_
            refine zq_call hc (z_cx_ok hH (by rfl)) (hw0 _ (TE_rf _) d' (by omega)) (by decide +kernel) (fun r9 μ9 hq => ?_)
            obtain ⟨hμ9, rfl⟩ := hq
            rw [hμ9]
            clear hμ9 μ9
            show Z 0 114 [(5, .int 0), (4, .int 1500), (3, .int 1500), (2, .int (nB (!(decide ((lg_cmp wd 0) = 0))))), (1, .int 2), (0, .ref 0)] [.long w0, .int (μ.1 18 4), .ref 18] μ
            refine z_rcs hc hH 2 (pc' := 116) (lv' := [(5, .int 0), (4, .int 1500), (3, .int 1500), (2, .int (nB (!(decide ((lg_cmp wd 0) = 0))))), (1, .int 2), (0, .ref 0)]) (st' := [.int (lg_cmp w0 0), .int (μ.1 18 4), .ref 18]) (μ' := μ) (by rfl) ?_
            refine zq_if hc hH (by rfl) (tg := 123) (by rfl) (fun h6 => ?_) (fun h6 => ?_)
            · have h6 : (decide ((lg_cmp w0 0) = 0)) = true := decide_eq_true (cm_eq9.mp h6)
              exact absurd (Eq.trans (Eq.symm (hb0)) h6) (by decide)
            · have h6 : (decide ((lg_cmp w0 0) = 0)) = false := decide_eq_false (cn_eq.mp h6)
              refine z_rcs hc hH 3 (pc' := 127) (lv' := [(5, .int 0), (4, .int 1500), (3, .int 1500), (2, .int (nB (!(decide ((lg_cmp wd 0) = 0))))), (1, .int 2), (0, .ref 0)]) (st' := [.int ((μ.1 18 4) + 1500), .ref 18]) (μ' := μ) (by rfl) ?_
              refine zq_pfi hc hH (by rfl) (ci := 1) (f := 4) (by rfl) (by decide +kernel) (by rfl) ?_
              show Z 0 130 [(5, .int 0), (4, .int 1500), (3, .int 1500), (2, .int (nB (!(decide ((lg_cmp wd 0) = 0))))), (1, .int 2), (0, .ref 0)] [] (z_ui μ 18 4 ((μ.1 18 4) + 1500))
              refine z_rcs0 hc hH 7 (pc' := 95) (lv' := [(5, .int 1), (4, .int 1500), (3, .int 1500), (2, .int (nB (!(decide ((lg_cmp wd 0) = 0))))), (1, .int 2), (0, .ref 0)]) (st' := [.int 1, .ref 0]) (by rfl) ?_
              refine zq_call hc (z_cx_ok hH (by rfl)) (gc_at d' (by omega) (z_ui μ 18 4 ((μ.1 18 4) + 1500)) 1 (by decide)) (by decide +kernel) (fun r9 μ9 hq => ?_)
              obtain ⟨hμ9, rfl⟩ := hq
              rw [hμ9]
              clear hμ9 μ9
              show Z 0 98 [(5, .int 1), (4, .int 1500), (3, .int 1500), (2, .int (nB (!(decide ((lg_cmp wd 0) = 0))))), (1, .int 2), (0, .ref 0)] [.ref 26] _
              refine z_rcs0 hc hH 1 (pc' := 99) (lv' := [(5, .int 1), (4, .int 1500), (3, .int 1500), (2, .int (nB (!(decide ((lg_cmp wd 0) = 0))))), (1, .int 2), (0, .ref 0)]) (st' := [.ref 26, .ref 26]) (by rfl) ?_
              refine zq_gfi hc hH (by rfl) (ci := 1) (f := 4) (by rfl) (by decide +kernel) (by rfl) ?_
              refine zV1 (Z := Z) (ui_o (by first | decide | omega)) ?_
              refine z_rcs0 hc hH 2 (pc' := 105) (lv' := [(5, .int 1), (4, .int 1500), (3, .int 1500), (2, .int (nB (!(decide ((lg_cmp wd 0) = 0))))), (1, .int 2), (0, .ref 0)]) (st' := [.int 1, .ref 0, .int (μ.1 26 4), .ref 26]) (by rfl) ?_
              refine zq_call hc (z_cx_ok hH (by rfl)) (gc_at d' (by omega) (z_ui μ 18 4 ((μ.1 18 4) + 1500)) 1 (by decide)) (by decide +kernel) (fun r9 μ9 hq => ?_)
              obtain ⟨hμ9, rfl⟩ := hq
              rw [hμ9]
              clear hμ9 μ9
              show Z 0 108 [(5, .int 1), (4, .int 1500), (3, .int 1500), (2, .int (nB (!(decide ((lg_cmp wd 0) = 0))))), (1, .int 2), (0, .ref 0)] [.ref 26, .int (μ.1 26 4), .ref 26] _
              refine zq_gfr hc hH (by rfl) (ci := 1) (f := 0) (q := 27) (by rfl) (by decide +kernel) (by rfl) (by decide +kernel) ?_
              refine zq_call hc (z_cx_ok hH (by rfl)) (hw1 _ (TE_ui (TE_rf _) (by intro i a hi h1 h2; omega)) d' (by omega)) (by decide +kernel) (fun r9 μ9 hq => ?_)
              obtain ⟨hμ9, rfl⟩ := hq
              rw [hμ9]
              clear hμ9 μ9
              show Z 0 114 [(5, .int 1), (4, .int 1500), (3, .int 1500), (2, .int (nB (!(decide ((lg_cmp wd 0) = 0))))), (1, .int 2), (0, .ref 0)] [.long w1, .int (μ.1 26 4), .ref 26] _
              refine z_rcs0 hc hH 2 (pc' := 116) (lv' := [(5, .int 1), (4, .int 1500), (3, .int 1500), (2, .int (nB (!(decide ((lg_cmp wd 0) = 0))))), (1, .int 2), (0, .ref 0)]) (st' := [.int (lg_cmp w1 0), .int (μ.1 26 4), .ref 26]) (by rfl) ?_
              refine zq_if hc hH (by rfl) (tg := 123) (by rfl) (fun h7 => ?_) (fun h7 => ?_)
              · have h7 : (decide ((lg_cmp w1 0) = 0)) = true := decide_eq_true (cm_eq9.mp h7)
                refine z_rcs0 hc hH 3 (pc' := 127) (lv' := [(5, .int 1), (4, .int 1500), (3, .int 1500), (2, .int (nB (!(decide ((lg_cmp wd 0) = 0))))), (1, .int 2), (0, .ref 0)]) (st' := [.int ((μ.1 26 4) + (-1500)), .ref 26]) (by rfl) ?_
                refine zq_pfi hc hH (by rfl) (ci := 1) (f := 4) (by rfl) (by decide +kernel) (by rfl) ?_
                show Z 0 130 [(5, .int 1), (4, .int 1500), (3, .int 1500), (2, .int (nB (!(decide ((lg_cmp wd 0) = 0))))), (1, .int 2), (0, .ref 0)] [] (z_ui (z_ui μ 18 4 ((μ.1 18 4) + 1500)) 26 4 ((μ.1 26 4) + (-1500)))
                refine z_rcs0 hc hH 7 (pc' := 95) (lv' := [(5, .int 2), (4, .int 1500), (3, .int 1500), (2, .int (nB (!(decide ((lg_cmp wd 0) = 0))))), (1, .int 2), (0, .ref 0)]) (st' := [.int 2, .ref 0]) (by rfl) ?_
                refine zq_call hc (z_cx_ok hH (by rfl)) (gc_at d' (by omega) (z_ui (z_ui μ 18 4 ((μ.1 18 4) + 1500)) 26 4 ((μ.1 26 4) + (-1500))) 2 (by decide)) (by decide +kernel) (fun r9 μ9 hq => ?_)
                obtain ⟨hμ9, rfl⟩ := hq
                rw [hμ9]
                clear hμ9 μ9
                show Z 0 98 [(5, .int 2), (4, .int 1500), (3, .int 1500), (2, .int (nB (!(decide ((lg_cmp wd 0) = 0))))), (1, .int 2), (0, .ref 0)] [.ref 34] _
                refine z_rcs0 hc hH 1 (pc' := 99) (lv' := [(5, .int 2), (4, .int 1500), (3, .int 1500), (2, .int (nB (!(decide ((lg_cmp wd 0) = 0))))), (1, .int 2), (0, .ref 0)]) (st' := [.ref 34, .ref 34]) (by rfl) ?_
                refine zq_gfi hc hH (by rfl) (ci := 1) (f := 4) (by rfl) (by decide +kernel) (by rfl) ?_
                refine zV1 (Z := Z) (Eq.trans (ui_o (by first | decide | omega)) (ui_o (by first | decide | omega))) ?_
                refine z_rcs0 hc hH 2 (pc' := 105) (lv' := [(5, .int 2), (4, .int 1500), (3, .int 1500), (2, .int (nB (!(decide ((lg_cmp wd 0) = 0))))), (1, .int 2), (0, .ref 0)]) (st' := [.int 2, .ref 0, .int (μ.1 34 4), .ref 34]) (by rfl) ?_
                refine zq_call hc (z_cx_ok hH (by rfl)) (gc_at d' (by omega) (z_ui (z_ui μ 18 4 ((μ.1 18 4) + 1500)) 26 4 ((μ.1 26 4) + (-1500))) 2 (by decide)) (by decide +kernel) (fun r9 μ9 hq => ?_)
                obtain ⟨hμ9, rfl⟩ := hq
                rw [hμ9]
                clear hμ9 μ9
                show Z 0 108 [(5, .int 2), (4, .int 1500), (3, .int 1500), (2, .int (nB (!(decide ((lg_cmp wd 0) = 0))))), (1, .int 2), (0, .ref 0)] [.ref 34, .int (μ.1 34 4), .ref 34] _
                refine zq_gfr hc hH (by rfl) (ci := 1) (f := 0) (q := 35) (by rfl) (by decide +kernel) (by rfl) (by decide +kernel) ?_
                refine zq_call hc (z_cx_ok hH (by rfl)) (hw2 _ (TE_ui (TE_ui (TE_rf _) (by intro i a hi h1 h2; omega)) (by intro i a hi h1 h2; omega)) d' (by omega)) (by decide +kernel) (fun r9 μ9 hq => ?_)
                obtain ⟨hμ9, rfl⟩ := hq
                rw [hμ9]
                clear hμ9 μ9
                show Z 0 114 [(5, .int 2), (4, .int 1500), (3, .int 1500), (2, .int (nB (!(decide ((lg_cmp wd 0) = 0))))), (1, .int 2), (0, .ref 0)] [.long w2, .int (μ.1 34 4), .ref 34] _
                refine z_rcs0 hc hH 2 (pc' := 116) (lv' := [(5, .int 2), (4, .int 1500), (3, .int 1500), (2, .int (nB (!(decide ((lg_cmp wd 0) = 0))))), (1, .int 2), (0, .ref 0)]) (st' := [.int (lg_cmp w2 0), .int (μ.1 34 4), .ref 34]) (by rfl) ?_
                refine zq_if hc hH (by rfl) (tg := 123) (by rfl) (fun h8 => ?_) (fun h8 => ?_)
                · have h8 : (decide ((lg_cmp w2 0) = 0)) = true := decide_eq_true (cm_eq9.mp h8)
                  refine z_rcs0 hc hH 3 (pc' := 127) (lv' := [(5, .int 2), (4, .int 1500), (3, .int 1500), (2, .int (nB (!(decide ((lg_cmp wd 0) = 0))))), (1, .int 2), (0, .ref 0)]) (st' := [.int ((μ.1 34 4) + (-1500)), .ref 34]) (by rfl) ?_
                  refine zq_pfi hc hH (by rfl) (ci := 1) (f := 4) (by rfl) (by decide +kernel) (by rfl) ?_
                  show Z 0 130 [(5, .int 2), (4, .int 1500), (3, .int 1500), (2, .int (nB (!(decide ((lg_cmp wd 0) = 0))))), (1, .int 2), (0, .ref 0)] [] (z_ui (z_ui (z_ui μ 18 4 ((μ.1 18 4) + 1500)) 26 4 ((μ.1 26 4) + (-1500))) 34 4 ((μ.1 34 4) + (-1500)))
                  refine z_rcs0 hc hH 7 (pc' := 95) (lv' := [(5, .int 3), (4, .int 1500), (3, .int 1500), (2, .int (nB (!(decide ((lg_cmp wd 0) = 0))))), (1, .int 2), (0, .ref 0)]) (st' := [.int 3, .ref 0]) (by rfl) ?_
                  refine zq_call hc (z_cx_ok hH (by rfl)) (gc_at d' (by omega) (z_ui (z_ui (z_ui μ 18 4 ((μ.1 18 4) + 1500)) 26 4 ((μ.1 26 4) + (-1500))) 34 4 ((μ.1 34 4) + (-1500))) 3 (by decide)) (by decide +kernel) (fun r9 μ9 hq => ?_)
                  obtain ⟨hμ9, rfl⟩ := hq
                  rw [hμ9]
                  clear hμ9 μ9
                  show Z 0 98 [(5, .int 3), (4, .int 1500), (3, .int 1500), (2, .int (nB (!(decide ((lg_cmp wd 0) = 0))))), (1, .int 2), (0, .ref 0)] [.ref 42] _
                  refine z_rcs0 hc hH 1 (pc' := 99) (lv' := [(5, .int 3), (4, .int 1500), (3, .int 1500), (2, .int (nB (!(decide ((lg_cmp wd 0) = 0))))), (1, .int 2), (0, .ref 0)]) (st' := [.ref 42, .ref 42]) (by rfl) ?_
                  refine zq_gfi hc hH (by rfl) (ci := 1) (f := 4) (by rfl) (by decide +kernel) (by rfl) ?_
                  refine zV1 (Z := Z) (Eq.trans (ui_o (by first | decide | omega)) (Eq.trans (ui_o (by first | decide | omega)) (ui_o (by first | decide | omega)))) ?_
                  refine z_rcs0 hc hH 2 (pc' := 105) (lv' := [(5, .int 3), (4, .int 1500), (3, .int 1500), (2, .int (nB (!(decide ((lg_cmp wd 0) = 0))))), (1, .int 2), (0, .ref 0)]) (st' := [.int 3, .ref 0, .int (μ.1 42 4), .ref 42]) (by rfl) ?_
                  refine zq_call hc (z_cx_ok hH (by rfl)) (gc_at d' (by omega) (z_ui (z_ui (z_ui μ 18 4 ((μ.1 18 4) + 1500)) 26 4 ((μ.1 26 4) + (-1500))) 34 4 ((μ.1 34 4) + (-1500))) 3 (by decide)) (by decide +kernel) (fun r9 μ9 hq => ?_)
                  obtain ⟨hμ9, rfl⟩ := hq
                  rw [hμ9]
                  clear hμ9 μ9
                  show Z 0 108 [(5, .int 3), (4, .int 1500), (3, .int 1500), (2, .int (nB (!(decide ((lg_cmp wd 0) = 0))))), (1, .int 2), (0, .ref 0)] [.ref 42, .int (μ.1 42 4), .ref 42] _
                  refine zq_gfr hc hH (by rfl) (ci := 1) (f := 0) (q := 43) (by rfl) (by decide +kernel) (by rfl) (by decide +kernel) ?_
                  refine zq_call hc (z_cx_ok hH (by rfl)) (hw3 _ (TE_ui (TE_ui (TE_ui (TE_rf _) (by intro i a hi h1 h2; omega)) (by intro i a hi h1 h2; omega)) (by intro i a hi h1 h2; omega)) d' (by omega)) (by decide +kernel) (fun r9 μ9 hq => ?_)
                  obtain ⟨hμ9, rfl⟩ := hq
                  rw [hμ9]
                  clear hμ9 μ9
                  show Z 0 114 [(5, .int 3), (4, .int 1500), (3, .int 1500), (2, .int (nB (!(decide ((lg_cmp wd 0) = 0))))), (1, .int 2), (0, .ref 0)] [.long w3, .int (μ.1 42 4), .ref 42] _
                  refine z_rcs0 hc hH 2 (pc' := 116) (lv' := [(5, .int 3), (4, .int 1500), (3, .int 1500), (2, .int (nB (!(decide ((lg_cmp wd 0) = 0))))), (1, .int 2), (0, .ref 0)]) (st' := [.int (lg_cmp w3 0), .int (μ.1 42 4), .ref 42]) (by rfl) ?_
                  refine zq_if hc hH (by rfl) (tg := 123) (by rfl) (fun h9 => ?_) (fun h9 => ?_)
                  · have h9 : (decide ((lg_cmp w3 0) = 0)) = true := decide_eq_true (cm_eq9.mp h9)
                    exact absurd (Eq.trans (Eq.symm (hb3)) h9) (by decide)
                  · have h9 : (decide ((lg_cmp w3 0) = 0)) = false := decide_eq_false (cn_eq.mp h9)
                    refine z_rcs0 hc hH 3 (pc' := 127) (lv' := [(5, .int 3), (4, .int 1500), (3, .int 1500), (2, .int (nB (!(decide ((lg_cmp wd 0) = 0))))), (1, .int 2), (0, .ref 0)]) (st' := [.int ((μ.1 42 4) + 1500), .ref 42]) (by rfl) ?_
                    refine zq_pfi hc hH (by rfl) (ci := 1) (f := 4) (by rfl) (by decide +kernel) (by rfl) ?_
                    show Z 0 130 [(5, .int 3), (4, .int 1500), (3, .int 1500), (2, .int (nB (!(decide ((lg_cmp wd 0) = 0))))), (1, .int 2), (0, .ref 0)] [] (z_ui (z_ui (z_ui (z_ui μ 18 4 ((μ.1 18 4) + 1500)) 26 4 ((μ.1 26 4) + (-1500))) 34 4 ((μ.1 34 4) + (-1500))) 42 4 ((μ.1 42 4) + 1500))
                    refine z_rcs0 hc hH 8 (pc' := 139) (lv' := [(5, .int 4), (4, .int 1500), (3, .int 1500), (2, .int (nB (!(decide ((lg_cmp wd 0) = 0))))), (1, .int 2), (0, .ref 0)]) (st' := [.int 0, .int (nB (!(decide ((lg_cmp wd 0) = 0)))), .ref 0]) (by rfl) ?_
                    refine zq_call hc (z_cx_ok hH (by rfl)) (gc_endHandB d' (by omega) (z_ui (z_ui (z_ui (z_ui μ 18 4 ((μ.1 18 4) + 1500)) 26 4 ((μ.1 26 4) + (-1500))) 34 4 ((μ.1 34 4) + (-1500))) 42 4 ((μ.1 42 4) + 1500)) (!(decide ((lg_cmp wd 0) = 0))) false dl e (by rw [ui_o (by first | decide | omega), ui_o (by first | decide | omega), ui_o (by first | decide | omega), ui_o (by first | decide | omega)]; exact hdl) hdl4 he) (by decide +kernel) (fun r9 μ9 hq => ?_)
                    obtain ⟨rfl, rfl⟩ := hq
                    show Z 0 142 [(5, .int 4), (4, .int 1500), (3, .int 1500), (2, .int (nB (!(decide ((lg_cmp wd 0) = 0))))), (1, .int 2), (0, .ref 0)] [] (eHB (z_ui (z_ui (z_ui (z_ui μ 18 4 ((μ.1 18 4) + 1500)) 26 4 ((μ.1 26 4) + (-1500))) 34 4 ((μ.1 34 4) + (-1500))) 42 4 ((μ.1 42 4) + 1500)) (!(decide ((lg_cmp wd 0) = 0))) false (xBk (z_ui (z_ui (z_ui (z_ui μ 18 4 ((μ.1 18 4) + 1500)) 26 4 ((μ.1 26 4) + (-1500))) 34 4 ((μ.1 34 4) + (-1500))) 42 4 ((μ.1 42 4) + 1500))) dl e (rcM (z_ui (z_ui (z_ui (z_ui μ 18 4 ((μ.1 18 4) + 1500)) 26 4 ((μ.1 26 4) + (-1500))) 34 4 ((μ.1 34 4) + (-1500))) 42 4 ((μ.1 42 4) + 1500))))
                    exact hr 0 142 _ _ _ none (by decide +kernel) (by rfl) (⟨rfl, rfl⟩)
                · have h8 : (decide ((lg_cmp w2 0) = 0)) = false := decide_eq_false (cn_eq.mp h8)
                  exact absurd (Eq.trans (Eq.symm (hb2)) h8) (by decide)
              · have h7 : (decide ((lg_cmp w1 0) = 0)) = false := decide_eq_false (cn_eq.mp h7)
                exact absurd (Eq.trans (Eq.symm (hb1)) h7) (by decide)
          refine zq_if hc hH (by rfl) (tg := 57) (by rfl) (fun h10 => ?_) (fun h10 => ?_)
          · have h10 : (decide ((lg_cmp wd 0) = 0)) = true := decide_eq_true (cm_eq9.mp h10)
            refine z_rcs hc hH 1 (pc' := 58) (lv' := [(2, .int 4), (1, .int 2), (0, .ref 0)]) (st' := [.int 0]) (μ' := μ) (by rfl) ?_
            exact zJ hJ5 rfl (by first | with_reducible rfl | (simp only [h10, lb_f, Int64.or_zero, Int32.add_zero, nB_t, nB_f, Bool.not_true, Bool.not_false, Bool.and_true, Bool.true_and, Bool.false_and, Bool.and_false, Bool.or_true, Bool.true_or, Bool.false_or, Bool.or_false, cond_true, cond_false]; done) | rfl) rfl
          · have h10 : (decide ((lg_cmp wd 0) = 0)) = false := decide_eq_false (cn_eq.mp h10)
            refine z_rcs hc hH 2 (pc' := 58) (lv' := [(2, .int 4), (1, .int 2), (0, .ref 0)]) (st' := [.int 1]) (μ' := μ) (by rfl) ?_
            exact zJ hJ5 rfl (by first | with_reducible rfl | (simp only [h10, lb_f, Int64.or_zero, Int32.add_zero, nB_t, nB_f, Bool.not_true, Bool.not_false, Bool.and_true, Bool.true_and, Bool.false_and, Bool.and_false, Bool.or_true, Bool.true_or, Bool.false_or, Bool.or_false, cond_true, cond_false]; done) | rfl) rfl
      · have h3 : (decide ((lg_cmp w2 0) = 0)) = false := decide_eq_false (cn_eq.mp h3)
        exact absurd (Eq.trans (Eq.symm (hb2)) h3) (by decide)
    · have h2 : (decide ((lg_cmp w1 0) = 0)) = false := decide_eq_false (cn_eq.mp h2)
      exact absurd (Eq.trans (Eq.symm (hb1)) h2) (by decide)
theorem gc_endUnwon1010 (d : Nat) (hd : 8 ≤ d) (μ : zM) (dl e : Nat) (hdl : μ.1 0 9 = nI dl) (hdl4 : dl < 4) (he : (dl + 1) % 4 = e) (w0 : Int64) (hw0 : ∀ μ1, TE μ μ1 → ∀ d, 7 ≤ d → z_C d mi_X3_waiting [.ref 19] μ1 (zR μ1 (.long w0))) (w1 : Int64) (hw1 : ∀ μ1, TE μ μ1 → ∀ d, 7 ≤ d → z_C d mi_X3_waiting [.ref 27] μ1 (zR μ1 (.long w1))) (w2 : Int64) (hw2 : ∀ μ1, TE μ μ1 → ∀ d, 7 ≤ d → z_C d mi_X3_waiting [.ref 35] μ1 (zR μ1 (.long w2))) (w3 : Int64) (hw3 : ∀ μ1, TE μ μ1 → ∀ d, 7 ≤ d → z_C d mi_X3_waiting [.ref 43] μ1 (zR μ1 (.long w3))) (wd : Int64) (hwd : ∀ μ1, TE μ μ1 → ∀ d, 7 ≤ d → z_C d mi_X3_waiting [.ref (19 + 8 * dl)] μ1 (zR μ1 (.long wd))) (hb0 : decide (lg_cmp w0 0 = 0) = false) (hb1 : decide (lg_cmp w1 0 = 0) = true) (hb2 : decide (lg_cmp w2 0 = 0) = false) (hb3 : decide (lg_cmp w3 0 = 0) = true) : z_C d mi_X6_endUnwon [.ref 0] μ (fun r μ' => r = none ∧ μ' = eHB (z_ui (z_ui (z_ui (z_ui μ 18 4 ((μ.1 18 4) + 1500)) 26 4 ((μ.1 26 4) + (-1500))) 34 4 ((μ.1 34 4) + 1500)) 42 4 ((μ.1 42 4) + (-1500))) (!(decide ((lg_cmp wd 0) = 0))) false (xBk (z_ui (z_ui (z_ui (z_ui μ 18 4 ((μ.1 18 4) + 1500)) 26 4 ((μ.1 26 4) + (-1500))) 34 4 ((μ.1 34 4) + 1500)) 42 4 ((μ.1 42 4) + (-1500)))) dl e (rcM (z_ui (z_ui (z_ui (z_ui μ 18 4 ((μ.1 18 4) + 1500)) 26 4 ((μ.1 26 4) + (-1500))) 34 4 ((μ.1 34 4) + 1500)) 42 4 ((μ.1 42 4) + (-1500))))) := by
  refine z_C_in (by decide) (by omega) (fun d' Z ed hc hr => ?_)
  have hH : zH mi_X6_endUnwon zt_X6_endUnwon 79 6 6 := hh_X6_endUnwon
  refine z_rcs hc hH 9 (pc' := 11) (lv' := [(2, .int 0), (1, .int 0), (0, .ref 0)]) (st' := [.int 0, .ref 0]) (μ' := μ) (by rfl) ?_
  refine zq_call hc (z_cx_ok hH (by rfl)) (gc_at d' (by omega) μ 0 (by decide)) (by decide +kernel) (fun r9 μ9 hq => ?_)
  obtain ⟨hμ9, rfl⟩ := hq
  rw [hμ9]
  clear hμ9 μ9
  show Z 0 14 [(2, .int 0), (1, .int 0), (0, .ref 0)] [.ref 18] μ
  refine zq_gfr hc hH (by rfl) (ci := 1) (f := 0) (q := 19) (by rfl) (by decide +kernel) (by rfl) (by decide +kernel) ?_
  refine zq_call hc (z_cx_ok hH (by rfl)) (hw0 _ (TE_rf _) d' (by omega)) (by decide +kernel) (fun r9 μ9 hq => ?_)
  obtain ⟨hμ9, rfl⟩ := hq
  rw [hμ9]
  clear hμ9 μ9
  show Z 0 20 [(2, .int 0), (1, .int 0), (0, .ref 0)] [.long w0] μ
  refine z_rcs hc hH 2 (pc' := 22) (lv' := [(2, .int 0), (1, .int 0), (0, .ref 0)]) (st' := [.int (lg_cmp w0 0)]) (μ' := μ) (by rfl) ?_
  refine zq_if hc hH (by rfl) (tg := 28) (by rfl) (fun h1 => ?_) (fun h1 => ?_)
  · have h1 : (decide ((lg_cmp w0 0) = 0)) = true := decide_eq_true (cm_eq9.mp h1)
    exact absurd (Eq.trans (Eq.symm (hb0)) h1) (by decide)
  · have h1 : (decide ((lg_cmp w0 0) = 0)) = false := decide_eq_false (cn_eq.mp h1)
    refine z_rcs hc hH 8 (pc' := 11) (lv' := [(2, .int 1), (1, .int 1), (0, .ref 0)]) (st' := [.int 1, .ref 0]) (μ' := μ) (by rfl) ?_
    refine zq_call hc (z_cx_ok hH (by rfl)) (gc_at d' (by omega) μ 1 (by decide)) (by decide +kernel) (fun r9 μ9 hq => ?_)
    obtain ⟨hμ9, rfl⟩ := hq
    rw [hμ9]
    clear hμ9 μ9
    show Z 0 14 [(2, .int 1), (1, .int 1), (0, .ref 0)] [.ref 26] μ
    refine zq_gfr hc hH (by rfl) (ci := 1) (f := 0) (q := 27) (by rfl) (by decide +kernel) (by rfl) (by decide +kernel) ?_
    refine zq_call hc (z_cx_ok hH (by rfl)) (hw1 _ (TE_rf _) d' (by omega)) (by decide +kernel) (fun r9 μ9 hq => ?_)
    obtain ⟨hμ9, rfl⟩ := hq
    rw [hμ9]
    clear hμ9 μ9
    show Z 0 20 [(2, .int 1), (1, .int 1), (0, .ref 0)] [.long w1] μ
    refine z_rcs hc hH 2 (pc' := 22) (lv' := [(2, .int 1), (1, .int 1), (0, .ref 0)]) (st' := [.int (lg_cmp w1 0)]) (μ' := μ) (by rfl) ?_
    refine zq_if hc hH (by rfl) (tg := 28) (by rfl) (fun h2 => ?_) (fun h2 => ?_)
    · have h2 : (decide ((lg_cmp w1 0) = 0)) = true := decide_eq_true (cm_eq9.mp h2)
      refine z_rcs hc hH 7 (pc' := 11) (lv' := [(2, .int 2), (1, .int 1), (0, .ref 0)]) (st' := [.int 2, .ref 0]) (μ' := μ) (by rfl) ?_
      refine zq_call hc (z_cx_ok hH (by rfl)) (gc_at d' (by omega) μ 2 (by decide)) (by decide +kernel) (fun r9 μ9 hq => ?_)
      obtain ⟨hμ9, rfl⟩ := hq
      rw [hμ9]
      clear hμ9 μ9
      show Z 0 14 [(2, .int 2), (1, .int 1), (0, .ref 0)] [.ref 34] μ
      refine zq_gfr hc hH (by rfl) (ci := 1) (f := 0) (q := 35) (by rfl) (by decide +kernel) (by rfl) (by decide +kernel) ?_
      refine zq_call hc (z_cx_ok hH (by rfl)) (hw2 _ (TE_rf _) d' (by omega)) (by decide +kernel) (fun r9 μ9 hq => ?_)
      obtain ⟨hμ9, rfl⟩ := hq
      rw [hμ9]
      clear hμ9 μ9
      show Z 0 20 [(2, .int 2), (1, .int 1), (0, .ref 0)] [.long w2] μ
      refine z_rcs hc hH 2 (pc' := 22) (lv' := [(2, .int 2), (1, .int 1), (0, .ref 0)]) (st' := [.int (lg_cmp w2 0)]) (μ' := μ) (by rfl) ?_
      refine zq_if hc hH (by rfl) (tg := 28) (by rfl) (fun h3 => ?_) (fun h3 => ?_)
      · have h3 : (decide ((lg_cmp w2 0) = 0)) = true := decide_eq_true (cm_eq9.mp h3)
        exact absurd (Eq.trans (Eq.symm (hb2)) h3) (by decide)
      · have h3 : (decide ((lg_cmp w2 0) = 0)) = false := decide_eq_false (cn_eq.mp h3)
        refine z_rcs hc hH 8 (pc' := 11) (lv' := [(2, .int 3), (1, .int 2), (0, .ref 0)]) (st' := [.int 3, .ref 0]) (μ' := μ) (by rfl) ?_
        refine zq_call hc (z_cx_ok hH (by rfl)) (gc_at d' (by omega) μ 3 (by decide)) (by decide +kernel) (fun r9 μ9 hq => ?_)
        obtain ⟨hμ9, rfl⟩ := hq
        rw [hμ9]
        clear hμ9 μ9
        show Z 0 14 [(2, .int 3), (1, .int 2), (0, .ref 0)] [.ref 42] μ
        refine zq_gfr hc hH (by rfl) (ci := 1) (f := 0) (q := 43) (by rfl) (by decide +kernel) (by rfl) (by decide +kernel) ?_
        refine zq_call hc (z_cx_ok hH (by rfl)) (hw3 _ (TE_rf _) d' (by omega)) (by decide +kernel) (fun r9 μ9 hq => ?_)
        obtain ⟨hμ9, rfl⟩ := hq
        rw [hμ9]
        clear hμ9 μ9
        show Z 0 20 [(2, .int 3), (1, .int 2), (0, .ref 0)] [.long w3] μ
        refine z_rcs hc hH 2 (pc' := 22) (lv' := [(2, .int 3), (1, .int 2), (0, .ref 0)]) (st' := [.int (lg_cmp w3 0)]) (μ' := μ) (by rfl) ?_
        refine zq_if hc hH (by rfl) (tg := 28) (by rfl) (fun h4 => ?_) (fun h4 => ?_)
        · have h4 : (decide ((lg_cmp w3 0) = 0)) = true := decide_eq_true (cm_eq9.mp h4)
          refine z_rcs hc hH 7 (pc' := 36) (lv' := [(2, .int 4), (1, .int 2), (0, .ref 0)]) (st' := [.ref 0, .ref 0]) (μ' := μ) (by rfl) ?_
          refine zq_gfi hc hH (by rfl) (ci := 5) (f := 9) (by rfl) (by decide +kernel) (by rfl) ?_
          rw [hdl]
          refine zq_call hc (z_cx_ok hH (by rfl)) (gc_at4 d' (by omega) μ dl hdl4) (by decide +kernel) (fun r9 μ9 hq => ?_)
          obtain ⟨hμ9, rfl⟩ := hq
          rw [hμ9]
          clear hμ9 μ9
          show Z 0 42 [(2, .int 4), (1, .int 2), (0, .ref 0)] [.ref (18 + 8 * dl)] μ
          refine zq_gfr hc hH (by rfl) (ci := 1) (f := 0) (q := 19 + 8 * dl) (by rfl) (sj (P := fun i => okf 79 1 0 (18 + 8 * i)) hdl4 (by decide +kernel)) (by rfl) (sj (P := fun i => Nat.beq (z_gr (18 + 8 * i) 0) (19 + 8 * i)) hdl4 (by decide +kernel)) ?_
          refine zq_call hc (z_clv9 hH (by rfl) (by rfl) (by rfl) (by rfl) (sj (P := fun i => okr 79 2 (19 + 8 * i)) hdl4 (by decide +kernel)) (by rfl) (by rfl)) ((hwd _ (TE_rf _) d' (by omega))) (by decide +kernel) (fun r9 μ9 hq => ?_)
          obtain ⟨hμ9, rfl⟩ := hq
          rw [hμ9]
          clear hμ9 μ9
          show Z 0 48 [(2, .int 4), (1, .int 2), (0, .ref 0)] [.long wd] μ
          refine z_rcs hc hH 2 (pc' := 50) (lv' := [(2, .int 4), (1, .int 2), (0, .ref 0)]) (st' := [.int (lg_cmp wd 0)]) (μ' := μ) (by rfl) ?_
          have hJ5 : Z 0 58 [(2, .int 4), (1, .int 2), (0, .ref 0)] [.int (nB (!(decide ((lg_cmp wd 0) = 0))))] μ := by
            refine z_rcs hc hH 23 (pc' := 95) (lv' := [(5, .int 0), (4, .int 1500), (3, .int 1500), (2, .int (nB (!(decide ((lg_cmp wd 0) = 0))))), (1, .int 2), (0, .ref 0)]) (st' := [.int 0, .ref 0]) (μ' := μ) (by rfl) ?_
            refine zq_call hc (z_cx_ok hH (by rfl)) (gc_at d' (by omega) μ 0 (by decide)) (by decide +kernel) (fun r9 μ9 hq => ?_)
            obtain ⟨hμ9, rfl⟩ := hq
            rw [hμ9]
            clear hμ9 μ9
            show Z 0 98 [(5, .int 0), (4, .int 1500), (3, .int 1500), (2, .int (nB (!(decide ((lg_cmp wd 0) = 0))))), (1, .int 2), (0, .ref 0)] [.ref 18] μ
            refine z_rcs hc hH 1 (pc' := 99) (lv' := [(5, .int 0), (4, .int 1500), (3, .int 1500), (2, .int (nB (!(decide ((lg_cmp wd 0) = 0))))), (1, .int 2), (0, .ref 0)]) (st' := [.ref 18, .ref 18]) (μ' := μ) (by rfl) ?_
            refine zq_gfi hc hH (by rfl) (ci := 1) (f := 4) (by rfl) (by decide +kernel) (by rfl) ?_
            refine z_rcs hc hH 2 (pc' := 105) (lv' := [(5, .int 0), (4, .int 1500), (3, .int 1500), (2, .int (nB (!(decide ((lg_cmp wd 0) = 0))))), (1, .int 2), (0, .ref 0)]) (st' := [.int 0, .ref 0, .int (μ.1 18 4), .ref 18]) (μ' := μ) (by rfl) ?_
            refine zq_call hc (z_cx_ok hH (by rfl)) (gc_at d' (by omega) μ 0 (by decide)) (by decide +kernel) (fun r9 μ9 hq => ?_)
            obtain ⟨hμ9, rfl⟩ := hq
            rw [hμ9]
            clear hμ9 μ9
            show Z 0 108 [(5, .int 0), (4, .int 1500), (3, .int 1500), (2, .int (nB (!(decide ((lg_cmp wd 0) = 0))))), (1, .int 2), (0, .ref 0)] [.ref 18, .int (μ.1 18 4), .ref 18] μ
            refine zq_gfr hc hH (by rfl) (ci := 1) (f := 0) (q := 19) (by rfl) (by decide +kernel) (by rfl) (by decide +kernel) ?_
            refine zq_call hc (z_cx_ok hH (by rfl)) (hw0 _ (TE_rf _) d' (by omega)) (by decide +kernel) (fun r9 μ9 hq => ?_)
            obtain ⟨hμ9, rfl⟩ := hq
            rw [hμ9]
            clear hμ9 μ9
            show Z 0 114 [(5, .int 0), (4, .int 1500), (3, .int 1500), (2, .int (nB (!(decide ((lg_cmp wd 0) = 0))))), (1, .int 2), (0, .ref 0)] [.long w0, .int (μ.1 18 4), .ref 18] μ
            refine z_rcs hc hH 2 (pc' := 116) (lv' := [(5, .int 0), (4, .int 1500), (3, .int 1500), (2, .int (nB (!(decide ((lg_cmp wd 0) = 0))))), (1, .int 2), (0, .ref 0)]) (st' := [.int (lg_cmp w0 0), .int (μ.1 18 4), .ref 18]) (μ' := μ) (by rfl) ?_
            refine zq_if hc hH (by rfl) (tg := 123) (by rfl) (fun h6 => ?_) (fun h6 => ?_)
            · have h6 : (decide ((lg_cmp w0 0) = 0)) = true := decide_eq_true (cm_eq9.mp h6)
              exact absurd (Eq.trans (Eq.symm (hb0)) h6) (by decide)
            · have h6 : (decide ((lg_cmp w0 0) = 0)) = false := decide_eq_false (cn_eq.mp h6)
              refine z_rcs hc hH 3 (pc' := 127) (lv' := [(5, .int 0), (4, .int 1500), (3, .int 1500), (2, .int (nB (!(decide ((lg_cmp wd 0) = 0))))), (1, .int 2), (0, .ref 0)]) (st' := [.int ((μ.1 18 4) + 1500), .ref 18]) (μ' := μ) (by rfl) ?_
              refine zq_pfi hc hH (by rfl) (ci := 1) (f := 4) (by rfl) (by decide +kernel) (by rfl) ?_
              show Z 0 130 [(5, .int 0), (4, .int 1500), (3, .int 1500), (2, .int (nB (!(decide ((lg_cmp wd 0) = 0))))), (1, .int 2), (0, .ref 0)] [] (z_ui μ 18 4 ((μ.1 18 4) + 1500))
              refine z_rcs0 hc hH 7 (pc' := 95) (lv' := [(5, .int 1), (4, .int 1500), (3, .int 1500), (2, .int (nB (!(decide ((lg_cmp wd 0) = 0))))), (1, .int 2), (0, .ref 0)]) (st' := [.int 1, .ref 0]) (by rfl) ?_
              refine zq_call hc (z_cx_ok hH (by rfl)) (gc_at d' (by omega) (z_ui μ 18 4 ((μ.1 18 4) + 1500)) 1 (by decide)) (by decide +kernel) (fun r9 μ9 hq => ?_)
              obtain ⟨hμ9, rfl⟩ := hq
              rw [hμ9]
              clear hμ9 μ9
              show Z 0 98 [(5, .int 1), (4, .int 1500), (3, .int 1500), (2, .int (nB (!(decide ((lg_cmp wd 0) = 0))))), (1, .int 2), (0, .ref 0)] [.ref 26] _
              refine z_rcs0 hc hH 1 (pc' := 99) (lv' := [(5, .int 1), (4, .int 1500), (3, .int 1500), (2, .int (nB (!(decide ((lg_cmp wd 0) = 0))))), (1, .int 2), (0, .ref 0)]) (st' := [.ref 26, .ref 26]) (by rfl) ?_
              refine zq_gfi hc hH (by rfl) (ci := 1) (f := 4) (by rfl) (by decide +kernel) (by rfl) ?_
              refine zV1 (Z := Z) (ui_o (by first | decide | omega)) ?_
              refine z_rcs0 hc hH 2 (pc' := 105) (lv' := [(5, .int 1), (4, .int 1500), (3, .int 1500), (2, .int (nB (!(decide ((lg_cmp wd 0) = 0))))), (1, .int 2), (0, .ref 0)]) (st' := [.int 1, .ref 0, .int (μ.1 26 4), .ref 26]) (by rfl) ?_
              refine zq_call hc (z_cx_ok hH (by rfl)) (gc_at d' (by omega) (z_ui μ 18 4 ((μ.1 18 4) + 1500)) 1 (by decide)) (by decide +kernel) (fun r9 μ9 hq => ?_)
              obtain ⟨hμ9, rfl⟩ := hq
              rw [hμ9]
              clear hμ9 μ9
              show Z 0 108 [(5, .int 1), (4, .int 1500), (3, .int 1500), (2, .int (nB (!(decide ((lg_cmp wd 0) = 0))))), (1, .int 2), (0, .ref 0)] [.ref 26, .int (μ.1 26 4), .ref 26] _
              refine zq_gfr hc hH (by rfl) (ci := 1) (f := 0) (q := 27) (by rfl) (by decide +kernel) (by rfl) (by decide +kernel) ?_
              refine zq_call hc (z_cx_ok hH (by rfl)) (hw1 _ (TE_ui (TE_rf _) (by intro i a hi h1 h2; omega)) d' (by omega)) (by decide +kernel) (fun r9 μ9 hq => ?_)
              obtain ⟨hμ9, rfl⟩ := hq
              rw [hμ9]
              clear hμ9 μ9
              show Z 0 114 [(5, .int 1), (4, .int 1500), (3, .int 1500), (2, .int (nB (!(decide ((lg_cmp wd 0) = 0))))), (1, .int 2), (0, .ref 0)] [.long w1, .int (μ.1 26 4), .ref 26] _
              refine z_rcs0 hc hH 2 (pc' := 116) (lv' := [(5, .int 1), (4, .int 1500), (3, .int 1500), (2, .int (nB (!(decide ((lg_cmp wd 0) = 0))))), (1, .int 2), (0, .ref 0)]) (st' := [.int (lg_cmp w1 0), .int (μ.1 26 4), .ref 26]) (by rfl) ?_
              refine zq_if hc hH (by rfl) (tg := 123) (by rfl) (fun h7 => ?_) (fun h7 => ?_)
              · have h7 : (decide ((lg_cmp w1 0) = 0)) = true := decide_eq_true (cm_eq9.mp h7)
                refine z_rcs0 hc hH 3 (pc' := 127) (lv' := [(5, .int 1), (4, .int 1500), (3, .int 1500), (2, .int (nB (!(decide ((lg_cmp wd 0) = 0))))), (1, .int 2), (0, .ref 0)]) (st' := [.int ((μ.1 26 4) + (-1500)), .ref 26]) (by rfl) ?_
                refine zq_pfi hc hH (by rfl) (ci := 1) (f := 4) (by rfl) (by decide +kernel) (by rfl) ?_
                show Z 0 130 [(5, .int 1), (4, .int 1500), (3, .int 1500), (2, .int (nB (!(decide ((lg_cmp wd 0) = 0))))), (1, .int 2), (0, .ref 0)] [] (z_ui (z_ui μ 18 4 ((μ.1 18 4) + 1500)) 26 4 ((μ.1 26 4) + (-1500)))
                refine z_rcs0 hc hH 7 (pc' := 95) (lv' := [(5, .int 2), (4, .int 1500), (3, .int 1500), (2, .int (nB (!(decide ((lg_cmp wd 0) = 0))))), (1, .int 2), (0, .ref 0)]) (st' := [.int 2, .ref 0]) (by rfl) ?_
                refine zq_call hc (z_cx_ok hH (by rfl)) (gc_at d' (by omega) (z_ui (z_ui μ 18 4 ((μ.1 18 4) + 1500)) 26 4 ((μ.1 26 4) + (-1500))) 2 (by decide)) (by decide +kernel) (fun r9 μ9 hq => ?_)
                obtain ⟨hμ9, rfl⟩ := hq
                rw [hμ9]
                clear hμ9 μ9
                show Z 0 98 [(5, .int 2), (4, .int 1500), (3, .int 1500), (2, .int (nB (!(decide ((lg_cmp wd 0) = 0))))), (1, .int 2), (0, .ref 0)] [.ref 34] _
                refine z_rcs0 hc hH 1 (pc' := 99) (lv' := [(5, .int 2), (4, .int 1500), (3, .int 1500), (2, .int (nB (!(decide ((lg_cmp wd 0) = 0))))), (1, .int 2), (0, .ref 0)]) (st' := [.ref 34, .ref 34]) (by rfl) ?_
                refine zq_gfi hc hH (by rfl) (ci := 1) (f := 4) (by rfl) (by decide +kernel) (by rfl) ?_
                refine zV1 (Z := Z) (Eq.trans (ui_o (by first | decide | omega)) (ui_o (by first | decide | omega))) ?_
                refine z_rcs0 hc hH 2 (pc' := 105) (lv' := [(5, .int 2), (4, .int 1500), (3, .int 1500), (2, .int (nB (!(decide ((lg_cmp wd 0) = 0))))), (1, .int 2), (0, .ref 0)]) (st' := [.int 2, .ref 0, .int (μ.1 34 4), .ref 34]) (by rfl) ?_
                refine zq_call hc (z_cx_ok hH (by rfl)) (gc_at d' (by omega) (z_ui (z_ui μ 18 4 ((μ.1 18 4) + 1500)) 26 4 ((μ.1 26 4) + (-1500))) 2 (by decide)) (by decide +kernel) (fun r9 μ9 hq => ?_)
                obtain ⟨hμ9, rfl⟩ := hq
                rw [hμ9]
                clear hμ9 μ9
                show Z 0 108 [(5, .int 2), (4, .int 1500), (3, .int 1500), (2, .int (nB (!(decide ((lg_cmp wd 0) = 0))))), (1, .int 2), (0, .ref 0)] [.ref 34, .int (μ.1 34 4), .ref 34] _
                refine zq_gfr hc hH (by rfl) (ci := 1) (f := 0) (q := 35) (by rfl) (by decide +kernel) (by rfl) (by decide +kernel) ?_
                refine zq_call hc (z_cx_ok hH (by rfl)) (hw2 _ (TE_ui (TE_ui (TE_rf _) (by intro i a hi h1 h2; omega)) (by intro i a hi h1 h2; omega)) d' (by omega)) (by decide +kernel) (fun r9 μ9 hq => ?_)
                obtain ⟨hμ9, rfl⟩ := hq
                rw [hμ9]
                clear hμ9 μ9
                show Z 0 114 [(5, .int 2), (4, .int 1500), (3, .int 1500), (2, .int (nB (!(decide ((lg_cmp wd 0) = 0))))), (1, .int 2), (0, .ref 0)] [.long w2, .int (μ.1 34 4), .ref 34] _
                refine z_rcs0 hc hH 2 (pc' := 116) (lv' := [(5, .int 2), (4, .int 1500), (3, .int 1500), (2, .int (nB (!(decide ((lg_cmp wd 0) = 0))))), (1, .int 2), (0, .ref 0)]) (st' := [.int (lg_cmp w2 0), .int (μ.1 34 4), .ref 34]) (by rfl) ?_
                refine zq_if hc hH (by rfl) (tg := 123) (by rfl) (fun h8 => ?_) (fun h8 => ?_)
                · have h8 : (decide ((lg_cmp w2 0) = 0)) = true := decide_eq_true (cm_eq9.mp h8)
                  exact absurd (Eq.trans (Eq.symm (hb2)) h8) (by decide)
                · have h8 : (decide ((lg_cmp w2 0) = 0)) = false := decide_eq_false (cn_eq.mp h8)
                  refine z_rcs0 hc hH 3 (pc' := 127) (lv' := [(5, .int 2), (4, .int 1500), (3, .int 1500), (2, .int (nB (!(decide ((lg_cmp wd 0) = 0))))), (1, .int 2), (0, .ref 0)]) (st' := [.int ((μ.1 34 4) + 1500), .ref 34]) (by rfl) ?_
                  refine zq_pfi hc hH (by rfl) (ci := 1) (f := 4) (by rfl) (by decide +kernel) (by rfl) ?_
                  show Z 0 130 [(5, .int 2), (4, .int 1500), (3, .int 1500), (2, .int (nB (!(decide ((lg_cmp wd 0) = 0))))), (1, .int 2), (0, .ref 0)] [] (z_ui (z_ui (z_ui μ 18 4 ((μ.1 18 4) + 1500)) 26 4 ((μ.1 26 4) + (-1500))) 34 4 ((μ.1 34 4) + 1500))
                  refine z_rcs0 hc hH 7 (pc' := 95) (lv' := [(5, .int 3), (4, .int 1500), (3, .int 1500), (2, .int (nB (!(decide ((lg_cmp wd 0) = 0))))), (1, .int 2), (0, .ref 0)]) (st' := [.int 3, .ref 0]) (by rfl) ?_
                  refine zq_call hc (z_cx_ok hH (by rfl)) (gc_at d' (by omega) (z_ui (z_ui (z_ui μ 18 4 ((μ.1 18 4) + 1500)) 26 4 ((μ.1 26 4) + (-1500))) 34 4 ((μ.1 34 4) + 1500)) 3 (by decide)) (by decide +kernel) (fun r9 μ9 hq => ?_)
                  obtain ⟨hμ9, rfl⟩ := hq
                  rw [hμ9]
                  clear hμ9 μ9
                  show Z 0 98 [(5, .int 3), (4, .int 1500), (3, .int 1500), (2, .int (nB (!(decide ((lg_cmp wd 0) = 0))))), (1, .int 2), (0, .ref 0)] [.ref 42] _
                  refine z_rcs0 hc hH 1 (pc' := 99) (lv' := [(5, .int 3), (4, .int 1500), (3, .int 1500), (2, .int (nB (!(decide ((lg_cmp wd 0) = 0))))), (1, .int 2), (0, .ref 0)]) (st' := [.ref 42, .ref 42]) (by rfl) ?_
                  refine zq_gfi hc hH (by rfl) (ci := 1) (f := 4) (by rfl) (by decide +kernel) (by rfl) ?_
                  refine zV1 (Z := Z) (Eq.trans (ui_o (by first | decide | omega)) (Eq.trans (ui_o (by first | decide | omega)) (ui_o (by first | decide | omega)))) ?_
                  refine z_rcs0 hc hH 2 (pc' := 105) (lv' := [(5, .int 3), (4, .int 1500), (3, .int 1500), (2, .int (nB (!(decide ((lg_cmp wd 0) = 0))))), (1, .int 2), (0, .ref 0)]) (st' := [.int 3, .ref 0, .int (μ.1 42 4), .ref 42]) (by rfl) ?_
                  refine zq_call hc (z_cx_ok hH (by rfl)) (gc_at d' (by omega) (z_ui (z_ui (z_ui μ 18 4 ((μ.1 18 4) + 1500)) 26 4 ((μ.1 26 4) + (-1500))) 34 4 ((μ.1 34 4) + 1500)) 3 (by decide)) (by decide +kernel) (fun r9 μ9 hq => ?_)
                  obtain ⟨hμ9, rfl⟩ := hq
                  rw [hμ9]
                  clear hμ9 μ9
                  show Z 0 108 [(5, .int 3), (4, .int 1500), (3, .int 1500), (2, .int (nB (!(decide ((lg_cmp wd 0) = 0))))), (1, .int 2), (0, .ref 0)] [.ref 42, .int (μ.1 42 4), .ref 42] _
                  refine zq_gfr hc hH (by rfl) (ci := 1) (f := 0) (q := 43) (by rfl) (by decide +kernel) (by rfl) (by decide +kernel) ?_
                  refine zq_call hc (z_cx_ok hH (by rfl)) (hw3 _ (TE_ui (TE_ui (TE_ui (TE_rf _) (by intro i a hi h1 h2; omega)) (by intro i a hi h1 h2; omega)) (by intro i a hi h1 h2; omega)) d' (by omega)) (by decide +kernel) (fun r9 μ9 hq => ?_)
                  obtain ⟨hμ9, rfl⟩ := hq
                  rw [hμ9]
                  clear hμ9 μ9
                  show Z 0 114 [(5, .int 3), (4, .int 1500), (3, .int 1500), (2, .int (nB (!(decide ((lg_cmp wd 0) = 0))))), (1, .int 2), (0, .ref 0)] [.long w3, .int (μ.1 42 4), .ref 42] _
                  refine z_rcs0 hc hH 2 (pc' := 116) (lv' := [(5, .int 3), (4, .int 1500), (3, .int 1500), (2, .int (nB (!(decide ((lg_cmp wd 0) = 0))))), (1, .int 2), (0, .ref 0)]) (st' := [.int (lg_cmp w3 0), .int (μ.1 42 4), .ref 42]) (by rfl) ?_
                  refine zq_if hc hH (by rfl) (tg := 123) (by rfl) (fun h9 => ?_) (fun h9 => ?_)
                  · have h9 : (decide ((lg_cmp w3 0) = 0)) = true := decide_eq_true (cm_eq9.mp h9)
                    refine z_rcs0 hc hH 3 (pc' := 127) (lv' := [(5, .int 3), (4, .int 1500), (3, .int 1500), (2, .int (nB (!(decide ((lg_cmp wd 0) = 0))))), (1, .int 2), (0, .ref 0)]) (st' := [.int ((μ.1 42 4) + (-1500)), .ref 42]) (by rfl) ?_
                    refine zq_pfi hc hH (by rfl) (ci := 1) (f := 4) (by rfl) (by decide +kernel) (by rfl) ?_
                    show Z 0 130 [(5, .int 3), (4, .int 1500), (3, .int 1500), (2, .int (nB (!(decide ((lg_cmp wd 0) = 0))))), (1, .int 2), (0, .ref 0)] [] (z_ui (z_ui (z_ui (z_ui μ 18 4 ((μ.1 18 4) + 1500)) 26 4 ((μ.1 26 4) + (-1500))) 34 4 ((μ.1 34 4) + 1500)) 42 4 ((μ.1 42 4) + (-1500)))
                    refine z_rcs0 hc hH 8 (pc' := 139) (lv' := [(5, .int 4), (4, .int 1500), (3, .int 1500), (2, .int (nB (!(decide ((lg_cmp wd 0) = 0))))), (1, .int 2), (0, .ref 0)]) (st' := [.int 0, .int (nB (!(decide ((lg_cmp wd 0) = 0)))), .ref 0]) (by rfl) ?_
                    refine zq_call hc (z_cx_ok hH (by rfl)) (gc_endHandB d' (by omega) (z_ui (z_ui (z_ui (z_ui μ 18 4 ((μ.1 18 4) + 1500)) 26 4 ((μ.1 26 4) + (-1500))) 34 4 ((μ.1 34 4) + 1500)) 42 4 ((μ.1 42 4) + (-1500))) (!(decide ((lg_cmp wd 0) = 0))) false dl e (by rw [ui_o (by first | decide | omega), ui_o (by first | decide | omega), ui_o (by first | decide | omega), ui_o (by first | decide | omega)]; exact hdl) hdl4 he) (by decide +kernel) (fun r9 μ9 hq => ?_)
                    obtain ⟨rfl, rfl⟩ := hq
                    show Z 0 142 [(5, .int 4), (4, .int 1500), (3, .int 1500), (2, .int (nB (!(decide ((lg_cmp wd 0) = 0))))), (1, .int 2), (0, .ref 0)] [] (eHB (z_ui (z_ui (z_ui (z_ui μ 18 4 ((μ.1 18 4) + 1500)) 26 4 ((μ.1 26 4) + (-1500))) 34 4 ((μ.1 34 4) + 1500)) 42 4 ((μ.1 42 4) + (-1500))) (!(decide ((lg_cmp wd 0) = 0))) false (xBk (z_ui (z_ui (z_ui (z_ui μ 18 4 ((μ.1 18 4) + 1500)) 26 4 ((μ.1 26 4) + (-1500))) 34 4 ((μ.1 34 4) + 1500)) 42 4 ((μ.1 42 4) + (-1500)))) dl e (rcM (z_ui (z_ui (z_ui (z_ui μ 18 4 ((μ.1 18 4) + 1500)) 26 4 ((μ.1 26 4) + (-1500))) 34 4 ((μ.1 34 4) + 1500)) 42 4 ((μ.1 42 4) + (-1500)))))
                    exact hr 0 142 _ _ _ none (by decide +kernel) (by rfl) (⟨rfl, rfl⟩)
                  · have h9 : (decide ((lg_cmp w3 0) = 0)) = false := decide_eq_false (cn_eq.mp h9)
                    exact absurd (Eq.trans (Eq.symm (hb3)) h9) (by decide)
              · have h7 : (decide ((lg_cmp w1 0) = 0)) = false := decide_eq_false (cn_eq.mp h7)
                exact absurd (Eq.trans (Eq.symm (hb1)) h7) (by decide)
          refine zq_if hc hH (by rfl) (tg := 57) (by rfl) (fun h10 => ?_) (fun h10 => ?_)
          · have h10 : (decide ((lg_cmp wd 0) = 0)) = true := decide_eq_true (cm_eq9.mp h10)
            refine z_rcs hc hH 1 (pc' := 58) (lv' := [(2, .int 4), (1, .int 2), (0, .ref 0)]) (st' := [.int 0]) (μ' := μ) (by rfl) ?_
            exact zJ hJ5 rfl (by first | with_reducible rfl | (simp only [h10, lb_f, Int64.or_zero, Int32.add_zero, nB_t, nB_f, Bool.not_true, Bool.not_false, Bool.and_true, Bool.true_and, Bool.false_and, Bool.and_false, Bool.or_true, Bool.true_or, Bool.false_or, Bool.or_false, cond_true, cond_false]; done) | rfl) rfl
          · have h10 : (decide ((lg_cmp wd 0) = 0)) = false := decide_eq_false (cn_eq.mp h10)
            refine z_rcs hc hH 2 (pc' := 58) (lv' := [(2, .int 4), (1, .int 2), (0, .ref 0)]) (st' := [.int 1]) (μ' := μ) (by rfl) ?_
            exact zJ hJ5 rfl (by first | with_reducible rfl | (simp only [h10, lb_f, Int64.or_zero, Int32.add_zero, nB_t, nB_f, Bool.not_true, Bool.not_false, Bool.and_true, Bool.true_and, Bool.false_and, Bool.and_false, Bool.or_true, Bool.true_or, Bool.false_or, Bool.or_false, cond_true, cond_false]; done) | rfl) rfl
        · have h4 : (decide ((lg_cmp w3 0) = 0)) = false := decide_eq_false (cn_eq.mp h4)
          exact absurd (Eq.trans (Eq.symm (hb3)) h4) (by decide)
    · have h2 : (decide ((lg_cmp w1 0) = 0)) = false := decide_eq_false (cn_eq.mp h2)
      exact absurd (Eq.trans (Eq.symm (hb1)) h2) (by decide)
theorem gc_endUnwon1011 (d : Nat) (hd : 8 ≤ d) (μ : zM) (dl e : Nat) (hdl : μ.1 0 9 = nI dl) (hdl4 : dl < 4) (he : (dl + 1) % 4 = e) (w0 : Int64) (hw0 : ∀ μ1, TE μ μ1 → ∀ d, 7 ≤ d → z_C d mi_X3_waiting [.ref 19] μ1 (zR μ1 (.long w0))) (w1 : Int64) (hw1 : ∀ μ1, TE μ μ1 → ∀ d, 7 ≤ d → z_C d mi_X3_waiting [.ref 27] μ1 (zR μ1 (.long w1))) (w2 : Int64) (hw2 : ∀ μ1, TE μ μ1 → ∀ d, 7 ≤ d → z_C d mi_X3_waiting [.ref 35] μ1 (zR μ1 (.long w2))) (w3 : Int64) (hw3 : ∀ μ1, TE μ μ1 → ∀ d, 7 ≤ d → z_C d mi_X3_waiting [.ref 43] μ1 (zR μ1 (.long w3))) (wd : Int64) (hwd : ∀ μ1, TE μ μ1 → ∀ d, 7 ≤ d → z_C d mi_X3_waiting [.ref (19 + 8 * dl)] μ1 (zR μ1 (.long wd))) (hb0 : decide (lg_cmp w0 0 = 0) = false) (hb1 : decide (lg_cmp w1 0 = 0) = true) (hb2 : decide (lg_cmp w2 0 = 0) = false) (hb3 : decide (lg_cmp w3 0 = 0) = false) : z_C d mi_X6_endUnwon [.ref 0] μ (fun r μ' => r = none ∧ μ' = eHB (z_ui (z_ui (z_ui (z_ui μ 18 4 ((μ.1 18 4) + 1000)) 26 4 ((μ.1 26 4) + (-3000))) 34 4 ((μ.1 34 4) + 1000)) 42 4 ((μ.1 42 4) + 1000)) (!(decide ((lg_cmp wd 0) = 0))) false (xBk (z_ui (z_ui (z_ui (z_ui μ 18 4 ((μ.1 18 4) + 1000)) 26 4 ((μ.1 26 4) + (-3000))) 34 4 ((μ.1 34 4) + 1000)) 42 4 ((μ.1 42 4) + 1000))) dl e (rcM (z_ui (z_ui (z_ui (z_ui μ 18 4 ((μ.1 18 4) + 1000)) 26 4 ((μ.1 26 4) + (-3000))) 34 4 ((μ.1 34 4) + 1000)) 42 4 ((μ.1 42 4) + 1000)))) := by
  refine z_C_in (by decide) (by omega) (fun d' Z ed hc hr => ?_)
  have hH : zH mi_X6_endUnwon zt_X6_endUnwon 79 6 6 := hh_X6_endUnwon
  refine z_rcs hc hH 9 (pc' := 11) (lv' := [(2, .int 0), (1, .int 0), (0, .ref 0)]) (st' := [.int 0, .ref 0]) (μ' := μ) (by rfl) ?_
  refine zq_call hc (z_cx_ok hH (by rfl)) (gc_at d' (by omega) μ 0 (by decide)) (by decide +kernel) (fun r9 μ9 hq => ?_)
  obtain ⟨hμ9, rfl⟩ := hq
  rw [hμ9]
  clear hμ9 μ9
  show Z 0 14 [(2, .int 0), (1, .int 0), (0, .ref 0)] [.ref 18] μ
  refine zq_gfr hc hH (by rfl) (ci := 1) (f := 0) (q := 19) (by rfl) (by decide +kernel) (by rfl) (by decide +kernel) ?_
  refine zq_call hc (z_cx_ok hH (by rfl)) (hw0 _ (TE_rf _) d' (by omega)) (by decide +kernel) (fun r9 μ9 hq => ?_)
  obtain ⟨hμ9, rfl⟩ := hq
  rw [hμ9]
  clear hμ9 μ9
  show Z 0 20 [(2, .int 0), (1, .int 0), (0, .ref 0)] [.long w0] μ
  refine z_rcs hc hH 2 (pc' := 22) (lv' := [(2, .int 0), (1, .int 0), (0, .ref 0)]) (st' := [.int (lg_cmp w0 0)]) (μ' := μ) (by rfl) ?_
  refine zq_if hc hH (by rfl) (tg := 28) (by rfl) (fun h1 => ?_) (fun h1 => ?_)
  · have h1 : (decide ((lg_cmp w0 0) = 0)) = true := decide_eq_true (cm_eq9.mp h1)
    exact absurd (Eq.trans (Eq.symm (hb0)) h1) (by decide)
  · have h1 : (decide ((lg_cmp w0 0) = 0)) = false := decide_eq_false (cn_eq.mp h1)
    refine z_rcs hc hH 8 (pc' := 11) (lv' := [(2, .int 1), (1, .int 1), (0, .ref 0)]) (st' := [.int 1, .ref 0]) (μ' := μ) (by rfl) ?_
    refine zq_call hc (z_cx_ok hH (by rfl)) (gc_at d' (by omega) μ 1 (by decide)) (by decide +kernel) (fun r9 μ9 hq => ?_)
    obtain ⟨hμ9, rfl⟩ := hq
    rw [hμ9]
    clear hμ9 μ9
    show Z 0 14 [(2, .int 1), (1, .int 1), (0, .ref 0)] [.ref 26] μ
    refine zq_gfr hc hH (by rfl) (ci := 1) (f := 0) (q := 27) (by rfl) (by decide +kernel) (by rfl) (by decide +kernel) ?_
    refine zq_call hc (z_cx_ok hH (by rfl)) (hw1 _ (TE_rf _) d' (by omega)) (by decide +kernel) (fun r9 μ9 hq => ?_)
    obtain ⟨hμ9, rfl⟩ := hq
    rw [hμ9]
    clear hμ9 μ9
    show Z 0 20 [(2, .int 1), (1, .int 1), (0, .ref 0)] [.long w1] μ
    refine z_rcs hc hH 2 (pc' := 22) (lv' := [(2, .int 1), (1, .int 1), (0, .ref 0)]) (st' := [.int (lg_cmp w1 0)]) (μ' := μ) (by rfl) ?_
    refine zq_if hc hH (by rfl) (tg := 28) (by rfl) (fun h2 => ?_) (fun h2 => ?_)
    · have h2 : (decide ((lg_cmp w1 0) = 0)) = true := decide_eq_true (cm_eq9.mp h2)
      refine z_rcs hc hH 7 (pc' := 11) (lv' := [(2, .int 2), (1, .int 1), (0, .ref 0)]) (st' := [.int 2, .ref 0]) (μ' := μ) (by rfl) ?_
      refine zq_call hc (z_cx_ok hH (by rfl)) (gc_at d' (by omega) μ 2 (by decide)) (by decide +kernel) (fun r9 μ9 hq => ?_)
      obtain ⟨hμ9, rfl⟩ := hq
      rw [hμ9]
      clear hμ9 μ9
      show Z 0 14 [(2, .int 2), (1, .int 1), (0, .ref 0)] [.ref 34] μ
      refine zq_gfr hc hH (by rfl) (ci := 1) (f := 0) (q := 35) (by rfl) (by decide +kernel) (by rfl) (by decide +kernel) ?_
      refine zq_call hc (z_cx_ok hH (by rfl)) (hw2 _ (TE_rf _) d' (by omega)) (by decide +kernel) (fun r9 μ9 hq => ?_)
      obtain ⟨hμ9, rfl⟩ := hq
      rw [hμ9]
      clear hμ9 μ9
      show Z 0 20 [(2, .int 2), (1, .int 1), (0, .ref 0)] [.long w2] μ
      refine z_rcs hc hH 2 (pc' := 22) (lv' := [(2, .int 2), (1, .int 1), (0, .ref 0)]) (st' := [.int (lg_cmp w2 0)]) (μ' := μ) (by rfl) ?_
      refine zq_if hc hH (by rfl) (tg := 28) (by rfl) (fun h3 => ?_) (fun h3 => ?_)
      · have h3 : (decide ((lg_cmp w2 0) = 0)) = true := decide_eq_true (cm_eq9.mp h3)
        exact absurd (Eq.trans (Eq.symm (hb2)) h3) (by decide)
      · have h3 : (decide ((lg_cmp w2 0) = 0)) = false := decide_eq_false (cn_eq.mp h3)
        refine z_rcs hc hH 8 (pc' := 11) (lv' := [(2, .int 3), (1, .int 2), (0, .ref 0)]) (st' := [.int 3, .ref 0]) (μ' := μ) (by rfl) ?_
        refine zq_call hc (z_cx_ok hH (by rfl)) (gc_at d' (by omega) μ 3 (by decide)) (by decide +kernel) (fun r9 μ9 hq => ?_)
        obtain ⟨hμ9, rfl⟩ := hq
        rw [hμ9]
        clear hμ9 μ9
        show Z 0 14 [(2, .int 3), (1, .int 2), (0, .ref 0)] [.ref 42] μ
        refine zq_gfr hc hH (by rfl) (ci := 1) (f := 0) (q := 43) (by rfl) (by decide +kernel) (by rfl) (by decide +kernel) ?_
        refine zq_call hc (z_cx_ok hH (by rfl)) (hw3 _ (TE_rf _) d' (by omega)) (by decide +kernel) (fun r9 μ9 hq => ?_)
        obtain ⟨hμ9, rfl⟩ := hq
        rw [hμ9]
        clear hμ9 μ9
        show Z 0 20 [(2, .int 3), (1, .int 2), (0, .ref 0)] [.long w3] μ
        refine z_rcs hc hH 2 (pc' := 22) (lv' := [(2, .int 3), (1, .int 2), (0, .ref 0)]) (st' := [.int (lg_cmp w3 0)]) (μ' := μ) (by rfl) ?_
        refine zq_if hc hH (by rfl) (tg := 28) (by rfl) (fun h4 => ?_) (fun h4 => ?_)
        · have h4 : (decide ((lg_cmp w3 0) = 0)) = true := decide_eq_true (cm_eq9.mp h4)
          exact absurd (Eq.trans (Eq.symm (hb3)) h4) (by decide)
        · have h4 : (decide ((lg_cmp w3 0) = 0)) = false := decide_eq_false (cn_eq.mp h4)
          refine z_rcs hc hH 8 (pc' := 36) (lv' := [(2, .int 4), (1, .int 3), (0, .ref 0)]) (st' := [.ref 0, .ref 0]) (μ' := μ) (by rfl) ?_
          refine zq_gfi hc hH (by rfl) (ci := 5) (f := 9) (by rfl) (by decide +kernel) (by rfl) ?_
          rw [hdl]
          refine zq_call hc (z_cx_ok hH (by rfl)) (gc_at4 d' (by omega) μ dl hdl4) (by decide +kernel) (fun r9 μ9 hq => ?_)
          obtain ⟨hμ9, rfl⟩ := hq
          rw [hμ9]
          clear hμ9 μ9
          show Z 0 42 [(2, .int 4), (1, .int 3), (0, .ref 0)] [.ref (18 + 8 * dl)] μ
          refine zq_gfr hc hH (by rfl) (ci := 1) (f := 0) (q := 19 + 8 * dl) (by rfl) (sj (P := fun i => okf 79 1 0 (18 + 8 * i)) hdl4 (by decide +kernel)) (by rfl) (sj (P := fun i => Nat.beq (z_gr (18 + 8 * i) 0) (19 + 8 * i)) hdl4 (by decide +kernel)) ?_
          refine zq_call hc (z_clv9 hH (by rfl) (by rfl) (by rfl) (by rfl) (sj (P := fun i => okr 79 2 (19 + 8 * i)) hdl4 (by decide +kernel)) (by rfl) (by rfl)) ((hwd _ (TE_rf _) d' (by omega))) (by decide +kernel) (fun r9 μ9 hq => ?_)
          obtain ⟨hμ9, rfl⟩ := hq
          rw [hμ9]
          clear hμ9 μ9
          show Z 0 48 [(2, .int 4), (1, .int 3), (0, .ref 0)] [.long wd] μ
          refine z_rcs hc hH 2 (pc' := 50) (lv' := [(2, .int 4), (1, .int 3), (0, .ref 0)]) (st' := [.int (lg_cmp wd 0)]) (μ' := μ) (by rfl) ?_
          have hJ5 : Z 0 58 [(2, .int 4), (1, .int 3), (0, .ref 0)] [.int (nB (!(decide ((lg_cmp wd 0) = 0))))] μ := by
            refine z_rcs hc hH 23 (pc' := 95) (lv' := [(5, .int 0), (4, .int 3000), (3, .int 1000), (2, .int (nB (!(decide ((lg_cmp wd 0) = 0))))), (1, .int 3), (0, .ref 0)]) (st' := [.int 0, .ref 0]) (μ' := μ) (by rfl) ?_
            refine zq_call hc (z_cx_ok hH (by rfl)) (gc_at d' (by omega) μ 0 (by decide)) (by decide +kernel) (fun r9 μ9 hq => ?_)
            obtain ⟨hμ9, rfl⟩ := hq
            rw [hμ9]
            clear hμ9 μ9
            show Z 0 98 [(5, .int 0), (4, .int 3000), (3, .int 1000), (2, .int (nB (!(decide ((lg_cmp wd 0) = 0))))), (1, .int 3), (0, .ref 0)] [.ref 18] μ
            refine z_rcs hc hH 1 (pc' := 99) (lv' := [(5, .int 0), (4, .int 3000), (3, .int 1000), (2, .int (nB (!(decide ((lg_cmp wd 0) = 0))))), (1, .int 3), (0, .ref 0)]) (st' := [.ref 18, .ref 18]) (μ' := μ) (by rfl) ?_
            refine zq_gfi hc hH (by rfl) (ci := 1) (f := 4) (by rfl) (by decide +kernel) (by rfl) ?_
            refine z_rcs hc hH 2 (pc' := 105) (lv' := [(5, .int 0), (4, .int 3000), (3, .int 1000), (2, .int (nB (!(decide ((lg_cmp wd 0) = 0))))), (1, .int 3), (0, .ref 0)]) (st' := [.int 0, .ref 0, .int (μ.1 18 4), .ref 18]) (μ' := μ) (by rfl) ?_
            refine zq_call hc (z_cx_ok hH (by rfl)) (gc_at d' (by omega) μ 0 (by decide)) (by decide +kernel) (fun r9 μ9 hq => ?_)
            obtain ⟨hμ9, rfl⟩ := hq
            rw [hμ9]
            clear hμ9 μ9
            show Z 0 108 [(5, .int 0), (4, .int 3000), (3, .int 1000), (2, .int (nB (!(decide ((lg_cmp wd 0) = 0))))), (1, .int 3), (0, .ref 0)] [.ref 18, .int (μ.1 18 4), .ref 18] μ
            refine zq_gfr hc hH (by rfl) (ci := 1) (f := 0) (q := 19) (by rfl) (by decide +kernel) (by rfl) (by decide +kernel) ?_
            refine zq_call hc (z_cx_ok hH (by rfl)) (hw0 _ (TE_rf _) d' (by omega)) (by decide +kernel) (fun r9 μ9 hq => ?_)
            obtain ⟨hμ9, rfl⟩ := hq
            rw [hμ9]
            clear hμ9 μ9
            show Z 0 114 [(5, .int 0), (4, .int 3000), (3, .int 1000), (2, .int (nB (!(decide ((lg_cmp wd 0) = 0))))), (1, .int 3), (0, .ref 0)] [.long w0, .int (μ.1 18 4), .ref 18] μ
            refine z_rcs hc hH 2 (pc' := 116) (lv' := [(5, .int 0), (4, .int 3000), (3, .int 1000), (2, .int (nB (!(decide ((lg_cmp wd 0) = 0))))), (1, .int 3), (0, .ref 0)]) (st' := [.int (lg_cmp w0 0), .int (μ.1 18 4), .ref 18]) (μ' := μ) (by rfl) ?_
            refine zq_if hc hH (by rfl) (tg := 123) (by rfl) (fun h6 => ?_) (fun h6 => ?_)
            · have h6 : (decide ((lg_cmp w0 0) = 0)) = true := decide_eq_true (cm_eq9.mp h6)
              exact absurd (Eq.trans (Eq.symm (hb0)) h6) (by decide)
            · have h6 : (decide ((lg_cmp w0 0) = 0)) = false := decide_eq_false (cn_eq.mp h6)
              refine z_rcs hc hH 3 (pc' := 127) (lv' := [(5, .int 0), (4, .int 3000), (3, .int 1000), (2, .int (nB (!(decide ((lg_cmp wd 0) = 0))))), (1, .int 3), (0, .ref 0)]) (st' := [.int ((μ.1 18 4) + 1000), .ref 18]) (μ' := μ) (by rfl) ?_
              refine zq_pfi hc hH (by rfl) (ci := 1) (f := 4) (by rfl) (by decide +kernel) (by rfl) ?_
              show Z 0 130 [(5, .int 0), (4, .int 3000), (3, .int 1000), (2, .int (nB (!(decide ((lg_cmp wd 0) = 0))))), (1, .int 3), (0, .ref 0)] [] (z_ui μ 18 4 ((μ.1 18 4) + 1000))
              refine z_rcs0 hc hH 7 (pc' := 95) (lv' := [(5, .int 1), (4, .int 3000), (3, .int 1000), (2, .int (nB (!(decide ((lg_cmp wd 0) = 0))))), (1, .int 3), (0, .ref 0)]) (st' := [.int 1, .ref 0]) (by rfl) ?_
              refine zq_call hc (z_cx_ok hH (by rfl)) (gc_at d' (by omega) (z_ui μ 18 4 ((μ.1 18 4) + 1000)) 1 (by decide)) (by decide +kernel) (fun r9 μ9 hq => ?_)
              obtain ⟨hμ9, rfl⟩ := hq
              rw [hμ9]
              clear hμ9 μ9
              show Z 0 98 [(5, .int 1), (4, .int 3000), (3, .int 1000), (2, .int (nB (!(decide ((lg_cmp wd 0) = 0))))), (1, .int 3), (0, .ref 0)] [.ref 26] _
              refine z_rcs0 hc hH 1 (pc' := 99) (lv' := [(5, .int 1), (4, .int 3000), (3, .int 1000), (2, .int (nB (!(decide ((lg_cmp wd 0) = 0))))), (1, .int 3), (0, .ref 0)]) (st' := [.ref 26, .ref 26]) (by rfl) ?_
              refine zq_gfi hc hH (by rfl) (ci := 1) (f := 4) (by rfl) (by decide +kernel) (by rfl) ?_
              refine zV1 (Z := Z) (ui_o (by first | decide | omega)) ?_
              refine z_rcs0 hc hH 2 (pc' := 105) (lv' := [(5, .int 1), (4, .int 3000), (3, .int 1000), (2, .int (nB (!(decide ((lg_cmp wd 0) = 0))))), (1, .int 3), (0, .ref 0)]) (st' := [.int 1, .ref 0, .int (μ.1 26 4), .ref 26]) (by rfl) ?_
              refine zq_call hc (z_cx_ok hH (by rfl)) (gc_at d' (by omega) (z_ui μ 18 4 ((μ.1 18 4) + 1000)) 1 (by decide)) (by decide +kernel) (fun r9 μ9 hq => ?_)
              obtain ⟨hμ9, rfl⟩ := hq
              rw [hμ9]
              clear hμ9 μ9
              show Z 0 108 [(5, .int 1), (4, .int 3000), (3, .int 1000), (2, .int (nB (!(decide ((lg_cmp wd 0) = 0))))), (1, .int 3), (0, .ref 0)] [.ref 26, .int (μ.1 26 4), .ref 26] _
              refine zq_gfr hc hH (by rfl) (ci := 1) (f := 0) (q := 27) (by rfl) (by decide +kernel) (by rfl) (by decide +kernel) ?_
              refine zq_call hc (z_cx_ok hH (by rfl)) (hw1 _ (TE_ui (TE_rf _) (by intro i a hi h1 h2; omega)) d' (by omega)) (by decide +kernel) (fun r9 μ9 hq => ?_)
              obtain ⟨hμ9, rfl⟩ := hq
              rw [hμ9]
              clear hμ9 μ9
              show Z 0 114 [(5, .int 1), (4, .int 3000), (3, .int 1000), (2, .int (nB (!(decide ((lg_cmp wd 0) = 0))))), (1, .int 3), (0, .ref 0)] [.long w1, .int (μ.1 26 4), .ref 26] _
              refine z_rcs0 hc hH 2 (pc' := 116) (lv' := [(5, .int 1), (4, .int 3000), (3, .int 1000), (2, .int (nB (!(decide ((lg_cmp wd 0) = 0))))), (1, .int 3), (0, .ref 0)]) (st' := [.int (lg_cmp w1 0), .int (μ.1 26 4), .ref 26]) (by rfl) ?_
              refine zq_if hc hH (by rfl) (tg := 123) (by rfl) (fun h7 => ?_) (fun h7 => ?_)
              · have h7 : (decide ((lg_cmp w1 0) = 0)) = true := decide_eq_true (cm_eq9.mp h7)
                refine z_rcs0 hc hH 3 (pc' := 127) (lv' := [(5, .int 1), (4, .int 3000), (3, .int 1000), (2, .int (nB (!(decide ((lg_cmp wd 0) = 0))))), (1, .int 3), (0, .ref 0)]) (st' := [.int ((μ.1 26 4) + (-3000)), .ref 26]) (by rfl) ?_
                refine zq_pfi hc hH (by rfl) (ci := 1) (f := 4) (by rfl) (by decide +kernel) (by rfl) ?_
                show Z 0 130 [(5, .int 1), (4, .int 3000), (3, .int 1000), (2, .int (nB (!(decide ((lg_cmp wd 0) = 0))))), (1, .int 3), (0, .ref 0)] [] (z_ui (z_ui μ 18 4 ((μ.1 18 4) + 1000)) 26 4 ((μ.1 26 4) + (-3000)))
                refine z_rcs0 hc hH 7 (pc' := 95) (lv' := [(5, .int 2), (4, .int 3000), (3, .int 1000), (2, .int (nB (!(decide ((lg_cmp wd 0) = 0))))), (1, .int 3), (0, .ref 0)]) (st' := [.int 2, .ref 0]) (by rfl) ?_
                refine zq_call hc (z_cx_ok hH (by rfl)) (gc_at d' (by omega) (z_ui (z_ui μ 18 4 ((μ.1 18 4) + 1000)) 26 4 ((μ.1 26 4) + (-3000))) 2 (by decide)) (by decide +kernel) (fun r9 μ9 hq => ?_)
                obtain ⟨hμ9, rfl⟩ := hq
                rw [hμ9]
                clear hμ9 μ9
                show Z 0 98 [(5, .int 2), (4, .int 3000), (3, .int 1000), (2, .int (nB (!(decide ((lg_cmp wd 0) = 0))))), (1, .int 3), (0, .ref 0)] [.ref 34] _
                refine z_rcs0 hc hH 1 (pc' := 99) (lv' := [(5, .int 2), (4, .int 3000), (3, .int 1000), (2, .int (nB (!(decide ((lg_cmp wd 0) = 0))))), (1, .int 3), (0, .ref 0)]) (st' := [.ref 34, .ref 34]) (by rfl) ?_
                refine zq_gfi hc hH (by rfl) (ci := 1) (f := 4) (by rfl) (by decide +kernel) (by rfl) ?_
                refine zV1 (Z := Z) (Eq.trans (ui_o (by first | decide | omega)) (ui_o (by first | decide | omega))) ?_
                refine z_rcs0 hc hH 2 (pc' := 105) (lv' := [(5, .int 2), (4, .int 3000), (3, .int 1000), (2, .int (nB (!(decide ((lg_cmp wd 0) = 0))))), (1, .int 3), (0, .ref 0)]) (st' := [.int 2, .ref 0, .int (μ.1 34 4), .ref 34]) (by rfl) ?_
                refine zq_call hc (z_cx_ok hH (by rfl)) (gc_at d' (by omega) (z_ui (z_ui μ 18 4 ((μ.1 18 4) + 1000)) 26 4 ((μ.1 26 4) + (-3000))) 2 (by decide)) (by decide +kernel) (fun r9 μ9 hq => ?_)
                obtain ⟨hμ9, rfl⟩ := hq
                rw [hμ9]
                clear hμ9 μ9
                show Z 0 108 [(5, .int 2), (4, .int 3000), (3, .int 1000), (2, .int (nB (!(decide ((lg_cmp wd 0) = 0))))), (1, .int 3), (0, .ref 0)] [.ref 34, .int (μ.1 34 4), .ref 34] _
                refine zq_gfr hc hH (by rfl) (ci := 1) (f := 0) (q := 35) (by rfl) (by decide +kernel) (by rfl) (by decide +kernel) ?_
                refine zq_call hc (z_cx_ok hH (by rfl)) (hw2 _ (TE_ui (TE_ui (TE_rf _) (by intro i a hi h1 h2; omega)) (by intro i a hi h1 h2; omega)) d' (by omega)) (by decide +kernel) (fun r9 μ9 hq => ?_)
                obtain ⟨hμ9, rfl⟩ := hq
                rw [hμ9]
                clear hμ9 μ9
                show Z 0 114 [(5, .int 2), (4, .int 3000), (3, .int 1000), (2, .int (nB (!(decide ((lg_cmp wd 0) = 0))))), (1, .int 3), (0, .ref 0)] [.long w2, .int (μ.1 34 4), .ref 34] _
                refine z_rcs0 hc hH 2 (pc' := 116) (lv' := [(5, .int 2), (4, .int 3000), (3, .int 1000), (2, .int (nB (!(decide ((lg_cmp wd 0) = 0))))), (1, .int 3), (0, .ref 0)]) (st' := [.int (lg_cmp w2 0), .int (μ.1 34 4), .ref 34]) (by rfl) ?_
                refine zq_if hc hH (by rfl) (tg := 123) (by rfl) (fun h8 => ?_) (fun h8 => ?_)
                · have h8 : (decide ((lg_cmp w2 0) = 0)) = true := decide_eq_true (cm_eq9.mp h8)
                  exact absurd (Eq.trans (Eq.symm (hb2)) h8) (by decide)
                · have h8 : (decide ((lg_cmp w2 0) = 0)) = false := decide_eq_false (cn_eq.mp h8)
                  refine z_rcs0 hc hH 3 (pc' := 127) (lv' := [(5, .int 2), (4, .int 3000), (3, .int 1000), (2, .int (nB (!(decide ((lg_cmp wd 0) = 0))))), (1, .int 3), (0, .ref 0)]) (st' := [.int ((μ.1 34 4) + 1000), .ref 34]) (by rfl) ?_
                  refine zq_pfi hc hH (by rfl) (ci := 1) (f := 4) (by rfl) (by decide +kernel) (by rfl) ?_
                  show Z 0 130 [(5, .int 2), (4, .int 3000), (3, .int 1000), (2, .int (nB (!(decide ((lg_cmp wd 0) = 0))))), (1, .int 3), (0, .ref 0)] [] (z_ui (z_ui (z_ui μ 18 4 ((μ.1 18 4) + 1000)) 26 4 ((μ.1 26 4) + (-3000))) 34 4 ((μ.1 34 4) + 1000))
                  refine z_rcs0 hc hH 7 (pc' := 95) (lv' := [(5, .int 3), (4, .int 3000), (3, .int 1000), (2, .int (nB (!(decide ((lg_cmp wd 0) = 0))))), (1, .int 3), (0, .ref 0)]) (st' := [.int 3, .ref 0]) (by rfl) ?_
                  refine zq_call hc (z_cx_ok hH (by rfl)) (gc_at d' (by omega) (z_ui (z_ui (z_ui μ 18 4 ((μ.1 18 4) + 1000)) 26 4 ((μ.1 26 4) + (-3000))) 34 4 ((μ.1 34 4) + 1000)) 3 (by decide)) (by decide +kernel) (fun r9 μ9 hq => ?_)
                  obtain ⟨hμ9, rfl⟩ := hq
                  rw [hμ9]
                  clear hμ9 μ9
                  show Z 0 98 [(5, .int 3), (4, .int 3000), (3, .int 1000), (2, .int (nB (!(decide ((lg_cmp wd 0) = 0))))), (1, .int 3), (0, .ref 0)] [.ref 42] _
                  refine z_rcs0 hc hH 1 (pc' := 99) (lv' := [(5, .int 3), (4, .int 3000), (3, .int 1000), (2, .int (nB (!(decide ((lg_cmp wd 0) = 0))))), (1, .int 3), (0, .ref 0)]) (st' := [.ref 42, .ref 42]) (by rfl) ?_
                  refine zq_gfi hc hH (by rfl) (ci := 1) (f := 4) (by rfl) (by decide +kernel) (by rfl) ?_
                  refine zV1 (Z := Z) (Eq.trans (ui_o (by first | decide | omega)) (Eq.trans (ui_o (by first | decide | omega)) (ui_o (by first | decide | omega)))) ?_
                  refine z_rcs0 hc hH 2 (pc' := 105) (lv' := [(5, .int 3), (4, .int 3000), (3, .int 1000), (2, .int (nB (!(decide ((lg_cmp wd 0) = 0))))), (1, .int 3), (0, .ref 0)]) (st' := [.int 3, .ref 0, .int (μ.1 42 4), .ref 42]) (by rfl) ?_
                  refine zq_call hc (z_cx_ok hH (by rfl)) (gc_at d' (by omega) (z_ui (z_ui (z_ui μ 18 4 ((μ.1 18 4) + 1000)) 26 4 ((μ.1 26 4) + (-3000))) 34 4 ((μ.1 34 4) + 1000)) 3 (by decide)) (by decide +kernel) (fun r9 μ9 hq => ?_)
                  obtain ⟨hμ9, rfl⟩ := hq
                  rw [hμ9]
                  clear hμ9 μ9
                  show Z 0 108 [(5, .int 3), (4, .int 3000), (3, .int 1000), (2, .int (nB (!(decide ((lg_cmp wd 0) = 0))))), (1, .int 3), (0, .ref 0)] [.ref 42, .int (μ.1 42 4), .ref 42] _
                  refine zq_gfr hc hH (by rfl) (ci := 1) (f := 0) (q := 43) (by rfl) (by decide +kernel) (by rfl) (by decide +kernel) ?_
                  refine zq_call hc (z_cx_ok hH (by rfl)) (hw3 _ (TE_ui (TE_ui (TE_ui (TE_rf _) (by intro i a hi h1 h2; omega)) (by intro i a hi h1 h2; omega)) (by intro i a hi h1 h2; omega)) d' (by omega)) (by decide +kernel) (fun r9 μ9 hq => ?_)
                  obtain ⟨hμ9, rfl⟩ := hq
                  rw [hμ9]
                  clear hμ9 μ9
                  show Z 0 114 [(5, .int 3), (4, .int 3000), (3, .int 1000), (2, .int (nB (!(decide ((lg_cmp wd 0) = 0))))), (1, .int 3), (0, .ref 0)] [.long w3, .int (μ.1 42 4), .ref 42] _
                  refine z_rcs0 hc hH 2 (pc' := 116) (lv' := [(5, .int 3), (4, .int 3000), (3, .int 1000), (2, .int (nB (!(decide ((lg_cmp wd 0) = 0))))), (1, .int 3), (0, .ref 0)]) (st' := [.int (lg_cmp w3 0), .int (μ.1 42 4), .ref 42]) (by rfl) ?_
                  refine zq_if hc hH (by rfl) (tg := 123) (by rfl) (fun h9 => ?_) (fun h9 => ?_)
                  · have h9 : (decide ((lg_cmp w3 0) = 0)) = true := decide_eq_true (cm_eq9.mp h9)
                    exact absurd (Eq.trans (Eq.symm (hb3)) h9) (by decide)
                  · have h9 : (decide ((lg_cmp w3 0) = 0)) = false := decide_eq_false (cn_eq.mp h9)
                    refine z_rcs0 hc hH 3 (pc' := 127) (lv' := [(5, .int 3), (4, .int 3000), (3, .int 1000), (2, .int (nB (!(decide ((lg_cmp wd 0) = 0))))), (1, .int 3), (0, .ref 0)]) (st' := [.int ((μ.1 42 4) + 1000), .ref 42]) (by rfl) ?_
                    refine zq_pfi hc hH (by rfl) (ci := 1) (f := 4) (by rfl) (by decide +kernel) (by rfl) ?_
                    show Z 0 130 [(5, .int 3), (4, .int 3000), (3, .int 1000), (2, .int (nB (!(decide ((lg_cmp wd 0) = 0))))), (1, .int 3), (0, .ref 0)] [] (z_ui (z_ui (z_ui (z_ui μ 18 4 ((μ.1 18 4) + 1000)) 26 4 ((μ.1 26 4) + (-3000))) 34 4 ((μ.1 34 4) + 1000)) 42 4 ((μ.1 42 4) + 1000))
                    refine z_rcs0 hc hH 8 (pc' := 139) (lv' := [(5, .int 4), (4, .int 3000), (3, .int 1000), (2, .int (nB (!(decide ((lg_cmp wd 0) = 0))))), (1, .int 3), (0, .ref 0)]) (st' := [.int 0, .int (nB (!(decide ((lg_cmp wd 0) = 0)))), .ref 0]) (by rfl) ?_
                    refine zq_call hc (z_cx_ok hH (by rfl)) (gc_endHandB d' (by omega) (z_ui (z_ui (z_ui (z_ui μ 18 4 ((μ.1 18 4) + 1000)) 26 4 ((μ.1 26 4) + (-3000))) 34 4 ((μ.1 34 4) + 1000)) 42 4 ((μ.1 42 4) + 1000)) (!(decide ((lg_cmp wd 0) = 0))) false dl e (by rw [ui_o (by first | decide | omega), ui_o (by first | decide | omega), ui_o (by first | decide | omega), ui_o (by first | decide | omega)]; exact hdl) hdl4 he) (by decide +kernel) (fun r9 μ9 hq => ?_)
                    obtain ⟨rfl, rfl⟩ := hq
                    show Z 0 142 [(5, .int 4), (4, .int 3000), (3, .int 1000), (2, .int (nB (!(decide ((lg_cmp wd 0) = 0))))), (1, .int 3), (0, .ref 0)] [] (eHB (z_ui (z_ui (z_ui (z_ui μ 18 4 ((μ.1 18 4) + 1000)) 26 4 ((μ.1 26 4) + (-3000))) 34 4 ((μ.1 34 4) + 1000)) 42 4 ((μ.1 42 4) + 1000)) (!(decide ((lg_cmp wd 0) = 0))) false (xBk (z_ui (z_ui (z_ui (z_ui μ 18 4 ((μ.1 18 4) + 1000)) 26 4 ((μ.1 26 4) + (-3000))) 34 4 ((μ.1 34 4) + 1000)) 42 4 ((μ.1 42 4) + 1000))) dl e (rcM (z_ui (z_ui (z_ui (z_ui μ 18 4 ((μ.1 18 4) + 1000)) 26 4 ((μ.1 26 4) + (-3000))) 34 4 ((μ.1 34 4) + 1000)) 42 4 ((μ.1 42 4) + 1000))))
                    exact hr 0 142 _ _ _ none (by decide +kernel) (by rfl) (⟨rfl, rfl⟩)
              · have h7 : (decide ((lg_cmp w1 0) = 0)) = false := decide_eq_false (cn_eq.mp h7)
                exact absurd (Eq.trans (Eq.symm (hb1)) h7) (by decide)
          refine zq_if hc hH (by rfl) (tg := 57) (by rfl) (fun h10 => ?_) (fun h10 => ?_)
          · have h10 : (decide ((lg_cmp wd 0) = 0)) = true := decide_eq_true (cm_eq9.mp h10)
            refine z_rcs hc hH 1 (pc' := 58) (lv' := [(2, .int 4), (1, .int 3), (0, .ref 0)]) (st' := [.int 0]) (μ' := μ) (by rfl) ?_
            exact zJ hJ5 rfl (by first | with_reducible rfl | (simp only [h10, lb_f, Int64.or_zero, Int32.add_zero, nB_t, nB_f, Bool.not_true, Bool.not_false, Bool.and_true, Bool.true_and, Bool.false_and, Bool.and_false, Bool.or_true, Bool.true_or, Bool.false_or, Bool.or_false, cond_true, cond_false]; done) | rfl) rfl
          · have h10 : (decide ((lg_cmp wd 0) = 0)) = false := decide_eq_false (cn_eq.mp h10)
            refine z_rcs hc hH 2 (pc' := 58) (lv' := [(2, .int 4), (1, .int 3), (0, .ref 0)]) (st' := [.int 1]) (μ' := μ) (by rfl) ?_
            exact zJ hJ5 rfl (by first | with_reducible rfl | (simp only [h10, lb_f, Int64.or_zero, Int32.add_zero, nB_t, nB_f, Bool.not_true, Bool.not_false, Bool.and_true, Bool.true_and, Bool.false_and, Bool.and_false, Bool.or_true, Bool.true_or, Bool.false_or, Bool.or_false, cond_true, cond_false]; done) | rfl) rfl
    · have h2 : (decide ((lg_cmp w1 0) = 0)) = false := decide_eq_false (cn_eq.mp h2)
      exact absurd (Eq.trans (Eq.symm (hb1)) h2) (by decide)
theorem gc_endUnwon1100 (d : Nat) (hd : 8 ≤ d) (μ : zM) (dl e : Nat) (hdl : μ.1 0 9 = nI dl) (hdl4 : dl < 4) (he : (dl + 1) % 4 = e) (w0 : Int64) (hw0 : ∀ μ1, TE μ μ1 → ∀ d, 7 ≤ d → z_C d mi_X3_waiting [.ref 19] μ1 (zR μ1 (.long w0))) (w1 : Int64) (hw1 : ∀ μ1, TE μ μ1 → ∀ d, 7 ≤ d → z_C d mi_X3_waiting [.ref 27] μ1 (zR μ1 (.long w1))) (w2 : Int64) (hw2 : ∀ μ1, TE μ μ1 → ∀ d, 7 ≤ d → z_C d mi_X3_waiting [.ref 35] μ1 (zR μ1 (.long w2))) (w3 : Int64) (hw3 : ∀ μ1, TE μ μ1 → ∀ d, 7 ≤ d → z_C d mi_X3_waiting [.ref 43] μ1 (zR μ1 (.long w3))) (wd : Int64) (hwd : ∀ μ1, TE μ μ1 → ∀ d, 7 ≤ d → z_C d mi_X3_waiting [.ref (19 + 8 * dl)] μ1 (zR μ1 (.long wd))) (hb0 : decide (lg_cmp w0 0 = 0) = false) (hb1 : decide (lg_cmp w1 0 = 0) = false) (hb2 : decide (lg_cmp w2 0 = 0) = true) (hb3 : decide (lg_cmp w3 0 = 0) = true) : z_C d mi_X6_endUnwon [.ref 0] μ (fun r μ' => r = none ∧ μ' = eHB (z_ui (z_ui (z_ui (z_ui μ 18 4 ((μ.1 18 4) + 1500)) 26 4 ((μ.1 26 4) + 1500)) 34 4 ((μ.1 34 4) + (-1500))) 42 4 ((μ.1 42 4) + (-1500))) (!(decide ((lg_cmp wd 0) = 0))) false (xBk (z_ui (z_ui (z_ui (z_ui μ 18 4 ((μ.1 18 4) + 1500)) 26 4 ((μ.1 26 4) + 1500)) 34 4 ((μ.1 34 4) + (-1500))) 42 4 ((μ.1 42 4) + (-1500)))) dl e (rcM (z_ui (z_ui (z_ui (z_ui μ 18 4 ((μ.1 18 4) + 1500)) 26 4 ((μ.1 26 4) + 1500)) 34 4 ((μ.1 34 4) + (-1500))) 42 4 ((μ.1 42 4) + (-1500))))) := by
  refine z_C_in (by decide) (by omega) (fun d' Z ed hc hr => ?_)
  have hH : zH mi_X6_endUnwon zt_X6_endUnwon 79 6 6 := hh_X6_endUnwon
  refine z_rcs hc hH 9 (pc' := 11) (lv' := [(2, .int 0), (1, .int 0), (0, .ref 0)]) (st' := [.int 0, .ref 0]) (μ' := μ) (by rfl) ?_
  refine zq_call hc (z_cx_ok hH (by rfl)) (gc_at d' (by omega) μ 0 (by decide)) (by decide +kernel) (fun r9 μ9 hq => ?_)
  obtain ⟨hμ9, rfl⟩ := hq
  rw [hμ9]
  clear hμ9 μ9
  show Z 0 14 [(2, .int 0), (1, .int 0), (0, .ref 0)] [.ref 18] μ
  refine zq_gfr hc hH (by rfl) (ci := 1) (f := 0) (q := 19) (by rfl) (by decide +kernel) (by rfl) (by decide +kernel) ?_
  refine zq_call hc (z_cx_ok hH (by rfl)) (hw0 _ (TE_rf _) d' (by omega)) (by decide +kernel) (fun r9 μ9 hq => ?_)
  obtain ⟨hμ9, rfl⟩ := hq
  rw [hμ9]
  clear hμ9 μ9
  show Z 0 20 [(2, .int 0), (1, .int 0), (0, .ref 0)] [.long w0] μ
  refine z_rcs hc hH 2 (pc' := 22) (lv' := [(2, .int 0), (1, .int 0), (0, .ref 0)]) (st' := [.int (lg_cmp w0 0)]) (μ' := μ) (by rfl) ?_
  refine zq_if hc hH (by rfl) (tg := 28) (by rfl) (fun h1 => ?_) (fun h1 => ?_)
  · have h1 : (decide ((lg_cmp w0 0) = 0)) = true := decide_eq_true (cm_eq9.mp h1)
    exact absurd (Eq.trans (Eq.symm (hb0)) h1) (by decide)
  · have h1 : (decide ((lg_cmp w0 0) = 0)) = false := decide_eq_false (cn_eq.mp h1)
    refine z_rcs hc hH 8 (pc' := 11) (lv' := [(2, .int 1), (1, .int 1), (0, .ref 0)]) (st' := [.int 1, .ref 0]) (μ' := μ) (by rfl) ?_
    refine zq_call hc (z_cx_ok hH (by rfl)) (gc_at d' (by omega) μ 1 (by decide)) (by decide +kernel) (fun r9 μ9 hq => ?_)
    obtain ⟨hμ9, rfl⟩ := hq
    rw [hμ9]
    clear hμ9 μ9
    show Z 0 14 [(2, .int 1), (1, .int 1), (0, .ref 0)] [.ref 26] μ
    refine zq_gfr hc hH (by rfl) (ci := 1) (f := 0) (q := 27) (by rfl) (by decide +kernel) (by rfl) (by decide +kernel) ?_
    refine zq_call hc (z_cx_ok hH (by rfl)) (hw1 _ (TE_rf _) d' (by omega)) (by decide +kernel) (fun r9 μ9 hq => ?_)
    obtain ⟨hμ9, rfl⟩ := hq
    rw [hμ9]
    clear hμ9 μ9
    show Z 0 20 [(2, .int 1), (1, .int 1), (0, .ref 0)] [.long w1] μ
    refine z_rcs hc hH 2 (pc' := 22) (lv' := [(2, .int 1), (1, .int 1), (0, .ref 0)]) (st' := [.int (lg_cmp w1 0)]) (μ' := μ) (by rfl) ?_
    refine zq_if hc hH (by rfl) (tg := 28) (by rfl) (fun h2 => ?_) (fun h2 => ?_)
    · have h2 : (decide ((lg_cmp w1 0) = 0)) = true := decide_eq_true (cm_eq9.mp h2)
      exact absurd (Eq.trans (Eq.symm (hb1)) h2) (by decide)
    · have h2 : (decide ((lg_cmp w1 0) = 0)) = false := decide_eq_false (cn_eq.mp h2)
      refine z_rcs hc hH 8 (pc' := 11) (lv' := [(2, .int 2), (1, .int 2), (0, .ref 0)]) (st' := [.int 2, .ref 0]) (μ' := μ) (by rfl) ?_
      refine zq_call hc (z_cx_ok hH (by rfl)) (gc_at d' (by omega) μ 2 (by decide)) (by decide +kernel) (fun r9 μ9 hq => ?_)
      obtain ⟨hμ9, rfl⟩ := hq
      rw [hμ9]
      clear hμ9 μ9
      show Z 0 14 [(2, .int 2), (1, .int 2), (0, .ref 0)] [.ref 34] μ
      refine zq_gfr hc hH (by rfl) (ci := 1) (f := 0) (q := 35) (by rfl) (by decide +kernel) (by rfl) (by decide +kernel) ?_
      refine zq_call hc (z_cx_ok hH (by rfl)) (hw2 _ (TE_rf _) d' (by omega)) (by decide +kernel) (fun r9 μ9 hq => ?_)
      obtain ⟨hμ9, rfl⟩ := hq
      rw [hμ9]
      clear hμ9 μ9
      show Z 0 20 [(2, .int 2), (1, .int 2), (0, .ref 0)] [.long w2] μ
      refine z_rcs hc hH 2 (pc' := 22) (lv' := [(2, .int 2), (1, .int 2), (0, .ref 0)]) (st' := [.int (lg_cmp w2 0)]) (μ' := μ) (by rfl) ?_
      refine zq_if hc hH (by rfl) (tg := 28) (by rfl) (fun h3 => ?_) (fun h3 => ?_)
      · have h3 : (decide ((lg_cmp w2 0) = 0)) = true := decide_eq_true (cm_eq9.mp h3)
        refine z_rcs hc hH 7 (pc' := 11) (lv' := [(2, .int 3), (1, .int 2), (0, .ref 0)]) (st' := [.int 3, .ref 0]) (μ' := μ) (by rfl) ?_
        refine zq_call hc (z_cx_ok hH (by rfl)) (gc_at d' (by omega) μ 3 (by decide)) (by decide +kernel) (fun r9 μ9 hq => ?_)
        obtain ⟨hμ9, rfl⟩ := hq
        rw [hμ9]
        clear hμ9 μ9
        show Z 0 14 [(2, .int 3), (1, .int 2), (0, .ref 0)] [.ref 42] μ
        refine zq_gfr hc hH (by rfl) (ci := 1) (f := 0) (q := 43) (by rfl) (by decide +kernel) (by rfl) (by decide +kernel) ?_
        refine zq_call hc (z_cx_ok hH (by rfl)) (hw3 _ (TE_rf _) d' (by omega)) (by decide +kernel) (fun r9 μ9 hq => ?_)
        obtain ⟨hμ9, rfl⟩ := hq
        rw [hμ9]
        clear hμ9 μ9
        show Z 0 20 [(2, .int 3), (1, .int 2), (0, .ref 0)] [.long w3] μ
        refine z_rcs hc hH 2 (pc' := 22) (lv' := [(2, .int 3), (1, .int 2), (0, .ref 0)]) (st' := [.int (lg_cmp w3 0)]) (μ' := μ) (by rfl) ?_
        refine zq_if hc hH (by rfl) (tg := 28) (by rfl) (fun h4 => ?_) (fun h4 => ?_)
        · have h4 : (decide ((lg_cmp w3 0) = 0)) = true := decide_eq_true (cm_eq9.mp h4)
          refine z_rcs hc hH 7 (pc' := 36) (lv' := [(2, .int 4), (1, .int 2), (0, .ref 0)]) (st' := [.ref 0, .ref 0]) (μ' := μ) (by rfl) ?_
          refine zq_gfi hc hH (by rfl) (ci := 5) (f := 9) (by rfl) (by decide +kernel) (by rfl) ?_
          rw [hdl]
          refine zq_call hc (z_cx_ok hH (by rfl)) (gc_at4 d' (by omega) μ dl hdl4) (by decide +kernel) (fun r9 μ9 hq => ?_)
          obtain ⟨hμ9, rfl⟩ := hq
          rw [hμ9]
          clear hμ9 μ9
          show Z 0 42 [(2, .int 4), (1, .int 2), (0, .ref 0)] [.ref (18 + 8 * dl)] μ
          refine zq_gfr hc hH (by rfl) (ci := 1) (f := 0) (q := 19 + 8 * dl) (by rfl) (sj (P := fun i => okf 79 1 0 (18 + 8 * i)) hdl4 (by decide +kernel)) (by rfl) (sj (P := fun i => Nat.beq (z_gr (18 + 8 * i) 0) (19 + 8 * i)) hdl4 (by decide +kernel)) ?_
          refine zq_call hc (z_clv9 hH (by rfl) (by rfl) (by rfl) (by rfl) (sj (P := fun i => okr 79 2 (19 + 8 * i)) hdl4 (by decide +kernel)) (by rfl) (by rfl)) ((hwd _ (TE_rf _) d' (by omega))) (by decide +kernel) (fun r9 μ9 hq => ?_)
          obtain ⟨hμ9, rfl⟩ := hq
          rw [hμ9]
          clear hμ9 μ9
          show Z 0 48 [(2, .int 4), (1, .int 2), (0, .ref 0)] [.long wd] μ
          refine z_rcs hc hH 2 (pc' := 50) (lv' := [(2, .int 4), (1, .int 2), (0, .ref 0)]) (st' := [.int (lg_cmp wd 0)]) (μ' := μ) (by rfl) ?_
          have hJ5 : Z 0 58 [(2, .int 4), (1, .int 2), (0, .ref 0)] [.int (nB (!(decide ((lg_cmp wd 0) = 0))))] μ := by
            refine z_rcs hc hH 23 (pc' := 95) (lv' := [(5, .int 0), (4, .int 1500), (3, .int 1500), (2, .int (nB (!(decide ((lg_cmp wd 0) = 0))))), (1, .int 2), (0, .ref 0)]) (st' := [.int 0, .ref 0]) (μ' := μ) (by rfl) ?_
            refine zq_call hc (z_cx_ok hH (by rfl)) (gc_at d' (by omega) μ 0 (by decide)) (by decide +kernel) (fun r9 μ9 hq => ?_)
            obtain ⟨hμ9, rfl⟩ := hq
            rw [hμ9]
            clear hμ9 μ9
            show Z 0 98 [(5, .int 0), (4, .int 1500), (3, .int 1500), (2, .int (nB (!(decide ((lg_cmp wd 0) = 0))))), (1, .int 2), (0, .ref 0)] [.ref 18] μ
            refine z_rcs hc hH 1 (pc' := 99) (lv' := [(5, .int 0), (4, .int 1500), (3, .int 1500), (2, .int (nB (!(decide ((lg_cmp wd 0) = 0))))), (1, .int 2), (0, .ref 0)]) (st' := [.ref 18, .ref 18]) (μ' := μ) (by rfl) ?_
            refine zq_gfi hc hH (by rfl) (ci := 1) (f := 4) (by rfl) (by decide +kernel) (by rfl) ?_
            refine z_rcs hc hH 2 (pc' := 105) (lv' := [(5, .int 0), (4, .int 1500), (3, .int 1500), (2, .int (nB (!(decide ((lg_cmp wd 0) = 0))))), (1, .int 2), (0, .ref 0)]) (st' := [.int 0, .ref 0, .int (μ.1 18 4), .ref 18]) (μ' := μ) (by rfl) ?_
            refine zq_call hc (z_cx_ok hH (by rfl)) (gc_at d' (by omega) μ 0 (by decide)) (by decide +kernel) (fun r9 μ9 hq => ?_)
            obtain ⟨hμ9, rfl⟩ := hq
            rw [hμ9]
            clear hμ9 μ9
            show Z 0 108 [(5, .int 0), (4, .int 1500), (3, .int 1500), (2, .int (nB (!(decide ((lg_cmp wd 0) = 0))))), (1, .int 2), (0, .ref 0)] [.ref 18, .int (μ.1 18 4), .ref 18] μ
            refine zq_gfr hc hH (by rfl) (ci := 1) (f := 0) (q := 19) (by rfl) (by decide +kernel) (by rfl) (by decide +kernel) ?_
            refine zq_call hc (z_cx_ok hH (by rfl)) (hw0 _ (TE_rf _) d' (by omega)) (by decide +kernel) (fun r9 μ9 hq => ?_)
            obtain ⟨hμ9, rfl⟩ := hq
            rw [hμ9]
            clear hμ9 μ9
            show Z 0 114 [(5, .int 0), (4, .int 1500), (3, .int 1500), (2, .int (nB (!(decide ((lg_cmp wd 0) = 0))))), (1, .int 2), (0, .ref 0)] [.long w0, .int (μ.1 18 4), .ref 18] μ
            refine z_rcs hc hH 2 (pc' := 116) (lv' := [(5, .int 0), (4, .int 1500), (3, .int 1500), (2, .int (nB (!(decide ((lg_cmp wd 0) = 0))))), (1, .int 2), (0, .ref 0)]) (st' := [.int (lg_cmp w0 0), .int (μ.1 18 4), .ref 18]) (μ' := μ) (by rfl) ?_
            refine zq_if hc hH (by rfl) (tg := 123) (by rfl) (fun h6 => ?_) (fun h6 => ?_)
            · have h6 : (decide ((lg_cmp w0 0) = 0)) = true := decide_eq_true (cm_eq9.mp h6)
              exact absurd (Eq.trans (Eq.symm (hb0)) h6) (by decide)
            · have h6 : (decide ((lg_cmp w0 0) = 0)) = false := decide_eq_false (cn_eq.mp h6)
              refine z_rcs hc hH 3 (pc' := 127) (lv' := [(5, .int 0), (4, .int 1500), (3, .int 1500), (2, .int (nB (!(decide ((lg_cmp wd 0) = 0))))), (1, .int 2), (0, .ref 0)]) (st' := [.int ((μ.1 18 4) + 1500), .ref 18]) (μ' := μ) (by rfl) ?_
              refine zq_pfi hc hH (by rfl) (ci := 1) (f := 4) (by rfl) (by decide +kernel) (by rfl) ?_
              show Z 0 130 [(5, .int 0), (4, .int 1500), (3, .int 1500), (2, .int (nB (!(decide ((lg_cmp wd 0) = 0))))), (1, .int 2), (0, .ref 0)] [] (z_ui μ 18 4 ((μ.1 18 4) + 1500))
              refine z_rcs0 hc hH 7 (pc' := 95) (lv' := [(5, .int 1), (4, .int 1500), (3, .int 1500), (2, .int (nB (!(decide ((lg_cmp wd 0) = 0))))), (1, .int 2), (0, .ref 0)]) (st' := [.int 1, .ref 0]) (by rfl) ?_
              refine zq_call hc (z_cx_ok hH (by rfl)) (gc_at d' (by omega) (z_ui μ 18 4 ((μ.1 18 4) + 1500)) 1 (by decide)) (by decide +kernel) (fun r9 μ9 hq => ?_)
              obtain ⟨hμ9, rfl⟩ := hq
              rw [hμ9]
              clear hμ9 μ9
              show Z 0 98 [(5, .int 1), (4, .int 1500), (3, .int 1500), (2, .int (nB (!(decide ((lg_cmp wd 0) = 0))))), (1, .int 2), (0, .ref 0)] [.ref 26] _
              refine z_rcs0 hc hH 1 (pc' := 99) (lv' := [(5, .int 1), (4, .int 1500), (3, .int 1500), (2, .int (nB (!(decide ((lg_cmp wd 0) = 0))))), (1, .int 2), (0, .ref 0)]) (st' := [.ref 26, .ref 26]) (by rfl) ?_
              refine zq_gfi hc hH (by rfl) (ci := 1) (f := 4) (by rfl) (by decide +kernel) (by rfl) ?_
              refine zV1 (Z := Z) (ui_o (by first | decide | omega)) ?_
              refine z_rcs0 hc hH 2 (pc' := 105) (lv' := [(5, .int 1), (4, .int 1500), (3, .int 1500), (2, .int (nB (!(decide ((lg_cmp wd 0) = 0))))), (1, .int 2), (0, .ref 0)]) (st' := [.int 1, .ref 0, .int (μ.1 26 4), .ref 26]) (by rfl) ?_
              refine zq_call hc (z_cx_ok hH (by rfl)) (gc_at d' (by omega) (z_ui μ 18 4 ((μ.1 18 4) + 1500)) 1 (by decide)) (by decide +kernel) (fun r9 μ9 hq => ?_)
              obtain ⟨hμ9, rfl⟩ := hq
              rw [hμ9]
              clear hμ9 μ9
              show Z 0 108 [(5, .int 1), (4, .int 1500), (3, .int 1500), (2, .int (nB (!(decide ((lg_cmp wd 0) = 0))))), (1, .int 2), (0, .ref 0)] [.ref 26, .int (μ.1 26 4), .ref 26] _
              refine zq_gfr hc hH (by rfl) (ci := 1) (f := 0) (q := 27) (by rfl) (by decide +kernel) (by rfl) (by decide +kernel) ?_
              refine zq_call hc (z_cx_ok hH (by rfl)) (hw1 _ (TE_ui (TE_rf _) (by intro i a hi h1 h2; omega)) d' (by omega)) (by decide +kernel) (fun r9 μ9 hq => ?_)
              obtain ⟨hμ9, rfl⟩ := hq
              rw [hμ9]
              clear hμ9 μ9
              show Z 0 114 [(5, .int 1), (4, .int 1500), (3, .int 1500), (2, .int (nB (!(decide ((lg_cmp wd 0) = 0))))), (1, .int 2), (0, .ref 0)] [.long w1, .int (μ.1 26 4), .ref 26] _
              refine z_rcs0 hc hH 2 (pc' := 116) (lv' := [(5, .int 1), (4, .int 1500), (3, .int 1500), (2, .int (nB (!(decide ((lg_cmp wd 0) = 0))))), (1, .int 2), (0, .ref 0)]) (st' := [.int (lg_cmp w1 0), .int (μ.1 26 4), .ref 26]) (by rfl) ?_
              refine zq_if hc hH (by rfl) (tg := 123) (by rfl) (fun h7 => ?_) (fun h7 => ?_)
              · have h7 : (decide ((lg_cmp w1 0) = 0)) = true := decide_eq_true (cm_eq9.mp h7)
                exact absurd (Eq.trans (Eq.symm (hb1)) h7) (by decide)
              · have h7 : (decide ((lg_cmp w1 0) = 0)) = false := decide_eq_false (cn_eq.mp h7)
                refine z_rcs0 hc hH 3 (pc' := 127) (lv' := [(5, .int 1), (4, .int 1500), (3, .int 1500), (2, .int (nB (!(decide ((lg_cmp wd 0) = 0))))), (1, .int 2), (0, .ref 0)]) (st' := [.int ((μ.1 26 4) + 1500), .ref 26]) (by rfl) ?_
                refine zq_pfi hc hH (by rfl) (ci := 1) (f := 4) (by rfl) (by decide +kernel) (by rfl) ?_
                show Z 0 130 [(5, .int 1), (4, .int 1500), (3, .int 1500), (2, .int (nB (!(decide ((lg_cmp wd 0) = 0))))), (1, .int 2), (0, .ref 0)] [] (z_ui (z_ui μ 18 4 ((μ.1 18 4) + 1500)) 26 4 ((μ.1 26 4) + 1500))
                refine z_rcs0 hc hH 7 (pc' := 95) (lv' := [(5, .int 2), (4, .int 1500), (3, .int 1500), (2, .int (nB (!(decide ((lg_cmp wd 0) = 0))))), (1, .int 2), (0, .ref 0)]) (st' := [.int 2, .ref 0]) (by rfl) ?_
                refine zq_call hc (z_cx_ok hH (by rfl)) (gc_at d' (by omega) (z_ui (z_ui μ 18 4 ((μ.1 18 4) + 1500)) 26 4 ((μ.1 26 4) + 1500)) 2 (by decide)) (by decide +kernel) (fun r9 μ9 hq => ?_)
                obtain ⟨hμ9, rfl⟩ := hq
                rw [hμ9]
                clear hμ9 μ9
                show Z 0 98 [(5, .int 2), (4, .int 1500), (3, .int 1500), (2, .int (nB (!(decide ((lg_cmp wd 0) = 0))))), (1, .int 2), (0, .ref 0)] [.ref 34] _
                refine z_rcs0 hc hH 1 (pc' := 99) (lv' := [(5, .int 2), (4, .int 1500), (3, .int 1500), (2, .int (nB (!(decide ((lg_cmp wd 0) = 0))))), (1, .int 2), (0, .ref 0)]) (st' := [.ref 34, .ref 34]) (by rfl) ?_
                refine zq_gfi hc hH (by rfl) (ci := 1) (f := 4) (by rfl) (by decide +kernel) (by rfl) ?_
                refine zV1 (Z := Z) (Eq.trans (ui_o (by first | decide | omega)) (ui_o (by first | decide | omega))) ?_
                refine z_rcs0 hc hH 2 (pc' := 105) (lv' := [(5, .int 2), (4, .int 1500), (3, .int 1500), (2, .int (nB (!(decide ((lg_cmp wd 0) = 0))))), (1, .int 2), (0, .ref 0)]) (st' := [.int 2, .ref 0, .int (μ.1 34 4), .ref 34]) (by rfl) ?_
                refine zq_call hc (z_cx_ok hH (by rfl)) (gc_at d' (by omega) (z_ui (z_ui μ 18 4 ((μ.1 18 4) + 1500)) 26 4 ((μ.1 26 4) + 1500)) 2 (by decide)) (by decide +kernel) (fun r9 μ9 hq => ?_)
                obtain ⟨hμ9, rfl⟩ := hq
                rw [hμ9]
                clear hμ9 μ9
                show Z 0 108 [(5, .int 2), (4, .int 1500), (3, .int 1500), (2, .int (nB (!(decide ((lg_cmp wd 0) = 0))))), (1, .int 2), (0, .ref 0)] [.ref 34, .int (μ.1 34 4), .ref 34] _
                refine zq_gfr hc hH (by rfl) (ci := 1) (f := 0) (q := 35) (by rfl) (by decide +kernel) (by rfl) (by decide +kernel) ?_
                refine zq_call hc (z_cx_ok hH (by rfl)) (hw2 _ (TE_ui (TE_ui (TE_rf _) (by intro i a hi h1 h2; omega)) (by intro i a hi h1 h2; omega)) d' (by omega)) (by decide +kernel) (fun r9 μ9 hq => ?_)
                obtain ⟨hμ9, rfl⟩ := hq
                rw [hμ9]
                clear hμ9 μ9
                show Z 0 114 [(5, .int 2), (4, .int 1500), (3, .int 1500), (2, .int (nB (!(decide ((lg_cmp wd 0) = 0))))), (1, .int 2), (0, .ref 0)] [.long w2, .int (μ.1 34 4), .ref 34] _
                refine z_rcs0 hc hH 2 (pc' := 116) (lv' := [(5, .int 2), (4, .int 1500), (3, .int 1500), (2, .int (nB (!(decide ((lg_cmp wd 0) = 0))))), (1, .int 2), (0, .ref 0)]) (st' := [.int (lg_cmp w2 0), .int (μ.1 34 4), .ref 34]) (by rfl) ?_
                refine zq_if hc hH (by rfl) (tg := 123) (by rfl) (fun h8 => ?_) (fun h8 => ?_)
                · have h8 : (decide ((lg_cmp w2 0) = 0)) = true := decide_eq_true (cm_eq9.mp h8)
                  refine z_rcs0 hc hH 3 (pc' := 127) (lv' := [(5, .int 2), (4, .int 1500), (3, .int 1500), (2, .int (nB (!(decide ((lg_cmp wd 0) = 0))))), (1, .int 2), (0, .ref 0)]) (st' := [.int ((μ.1 34 4) + (-1500)), .ref 34]) (by rfl) ?_
                  refine zq_pfi hc hH (by rfl) (ci := 1) (f := 4) (by rfl) (by decide +kernel) (by rfl) ?_
                  show Z 0 130 [(5, .int 2), (4, .int 1500), (3, .int 1500), (2, .int (nB (!(decide ((lg_cmp wd 0) = 0))))), (1, .int 2), (0, .ref 0)] [] (z_ui (z_ui (z_ui μ 18 4 ((μ.1 18 4) + 1500)) 26 4 ((μ.1 26 4) + 1500)) 34 4 ((μ.1 34 4) + (-1500)))
                  refine z_rcs0 hc hH 7 (pc' := 95) (lv' := [(5, .int 3), (4, .int 1500), (3, .int 1500), (2, .int (nB (!(decide ((lg_cmp wd 0) = 0))))), (1, .int 2), (0, .ref 0)]) (st' := [.int 3, .ref 0]) (by rfl) ?_
                  refine zq_call hc (z_cx_ok hH (by rfl)) (gc_at d' (by omega) (z_ui (z_ui (z_ui μ 18 4 ((μ.1 18 4) + 1500)) 26 4 ((μ.1 26 4) + 1500)) 34 4 ((μ.1 34 4) + (-1500))) 3 (by decide)) (by decide +kernel) (fun r9 μ9 hq => ?_)
                  obtain ⟨hμ9, rfl⟩ := hq
                  rw [hμ9]
                  clear hμ9 μ9
                  show Z 0 98 [(5, .int 3), (4, .int 1500), (3, .int 1500), (2, .int (nB (!(decide ((lg_cmp wd 0) = 0))))), (1, .int 2), (0, .ref 0)] [.ref 42] _
                  refine z_rcs0 hc hH 1 (pc' := 99) (lv' := [(5, .int 3), (4, .int 1500), (3, .int 1500), (2, .int (nB (!(decide ((lg_cmp wd 0) = 0))))), (1, .int 2), (0, .ref 0)]) (st' := [.ref 42, .ref 42]) (by rfl) ?_
                  refine zq_gfi hc hH (by rfl) (ci := 1) (f := 4) (by rfl) (by decide +kernel) (by rfl) ?_
                  refine zV1 (Z := Z) (Eq.trans (ui_o (by first | decide | omega)) (Eq.trans (ui_o (by first | decide | omega)) (ui_o (by first | decide | omega)))) ?_
                  refine z_rcs0 hc hH 2 (pc' := 105) (lv' := [(5, .int 3), (4, .int 1500), (3, .int 1500), (2, .int (nB (!(decide ((lg_cmp wd 0) = 0))))), (1, .int 2), (0, .ref 0)]) (st' := [.int 3, .ref 0, .int (μ.1 42 4), .ref 42]) (by rfl) ?_
                  refine zq_call hc (z_cx_ok hH (by rfl)) (gc_at d' (by omega) (z_ui (z_ui (z_ui μ 18 4 ((μ.1 18 4) + 1500)) 26 4 ((μ.1 26 4) + 1500)) 34 4 ((μ.1 34 4) + (-1500))) 3 (by decide)) (by decide +kernel) (fun r9 μ9 hq => ?_)
                  obtain ⟨hμ9, rfl⟩ := hq
                  rw [hμ9]
                  clear hμ9 μ9
                  show Z 0 108 [(5, .int 3), (4, .int 1500), (3, .int 1500), (2, .int (nB (!(decide ((lg_cmp wd 0) = 0))))), (1, .int 2), (0, .ref 0)] [.ref 42, .int (μ.1 42 4), .ref 42] _
                  refine zq_gfr hc hH (by rfl) (ci := 1) (f := 0) (q := 43) (by rfl) (by decide +kernel) (by rfl) (by decide +kernel) ?_
                  refine zq_call hc (z_cx_ok hH (by rfl)) (hw3 _ (TE_ui (TE_ui (TE_ui (TE_rf _) (by intro i a hi h1 h2; omega)) (by intro i a hi h1 h2; omega)) (by intro i a hi h1 h2; omega)) d' (by omega)) (by decide +kernel) (fun r9 μ9 hq => ?_)
                  obtain ⟨hμ9, rfl⟩ := hq
                  rw [hμ9]
                  clear hμ9 μ9
                  show Z 0 114 [(5, .int 3), (4, .int 1500), (3, .int 1500), (2, .int (nB (!(decide ((lg_cmp wd 0) = 0))))), (1, .int 2), (0, .ref 0)] [.long w3, .int (μ.1 42 4), .ref 42] _
                  refine z_rcs0 hc hH 2 (pc' := 116) (lv' := [(5, .int 3), (4, .int 1500), (3, .int 1500), (2, .int (nB (!(decide ((lg_cmp wd 0) = 0))))), (1, .int 2), (0, .ref 0)]) (st' := [.int (lg_cmp w3 0), .int (μ.1 42 4), .ref 42]) (by rfl) ?_
                  refine zq_if hc hH (by rfl) (tg := 123) (by rfl) (fun h9 => ?_) (fun h9 => ?_)
                  · have h9 : (decide ((lg_cmp w3 0) = 0)) = true := decide_eq_true (cm_eq9.mp h9)
                    refine z_rcs0 hc hH 3 (pc' := 127) (lv' := [(5, .int 3), (4, .int 1500), (3, .int 1500), (2, .int (nB (!(decide ((lg_cmp wd 0) = 0))))), (1, .int 2), (0, .ref 0)]) (st' := [.int ((μ.1 42 4) + (-1500)), .ref 42]) (by rfl) ?_
                    refine zq_pfi hc hH (by rfl) (ci := 1) (f := 4) (by rfl) (by decide +kernel) (by rfl) ?_
                    show Z 0 130 [(5, .int 3), (4, .int 1500), (3, .int 1500), (2, .int (nB (!(decide ((lg_cmp wd 0) = 0))))), (1, .int 2), (0, .ref 0)] [] (z_ui (z_ui (z_ui (z_ui μ 18 4 ((μ.1 18 4) + 1500)) 26 4 ((μ.1 26 4) + 1500)) 34 4 ((μ.1 34 4) + (-1500))) 42 4 ((μ.1 42 4) + (-1500)))
                    refine z_rcs0 hc hH 8 (pc' := 139) (lv' := [(5, .int 4), (4, .int 1500), (3, .int 1500), (2, .int (nB (!(decide ((lg_cmp wd 0) = 0))))), (1, .int 2), (0, .ref 0)]) (st' := [.int 0, .int (nB (!(decide ((lg_cmp wd 0) = 0)))), .ref 0]) (by rfl) ?_
                    refine zq_call hc (z_cx_ok hH (by rfl)) (gc_endHandB d' (by omega) (z_ui (z_ui (z_ui (z_ui μ 18 4 ((μ.1 18 4) + 1500)) 26 4 ((μ.1 26 4) + 1500)) 34 4 ((μ.1 34 4) + (-1500))) 42 4 ((μ.1 42 4) + (-1500))) (!(decide ((lg_cmp wd 0) = 0))) false dl e (by rw [ui_o (by first | decide | omega), ui_o (by first | decide | omega), ui_o (by first | decide | omega), ui_o (by first | decide | omega)]; exact hdl) hdl4 he) (by decide +kernel) (fun r9 μ9 hq => ?_)
                    obtain ⟨rfl, rfl⟩ := hq
                    show Z 0 142 [(5, .int 4), (4, .int 1500), (3, .int 1500), (2, .int (nB (!(decide ((lg_cmp wd 0) = 0))))), (1, .int 2), (0, .ref 0)] [] (eHB (z_ui (z_ui (z_ui (z_ui μ 18 4 ((μ.1 18 4) + 1500)) 26 4 ((μ.1 26 4) + 1500)) 34 4 ((μ.1 34 4) + (-1500))) 42 4 ((μ.1 42 4) + (-1500))) (!(decide ((lg_cmp wd 0) = 0))) false (xBk (z_ui (z_ui (z_ui (z_ui μ 18 4 ((μ.1 18 4) + 1500)) 26 4 ((μ.1 26 4) + 1500)) 34 4 ((μ.1 34 4) + (-1500))) 42 4 ((μ.1 42 4) + (-1500)))) dl e (rcM (z_ui (z_ui (z_ui (z_ui μ 18 4 ((μ.1 18 4) + 1500)) 26 4 ((μ.1 26 4) + 1500)) 34 4 ((μ.1 34 4) + (-1500))) 42 4 ((μ.1 42 4) + (-1500)))))
                    exact hr 0 142 _ _ _ none (by decide +kernel) (by rfl) (⟨rfl, rfl⟩)
                  · have h9 : (decide ((lg_cmp w3 0) = 0)) = false := decide_eq_false (cn_eq.mp h9)
                    exact absurd (Eq.trans (Eq.symm (hb3)) h9) (by decide)
                · have h8 : (decide ((lg_cmp w2 0) = 0)) = false := decide_eq_false (cn_eq.mp h8)
                  exact absurd (Eq.trans (Eq.symm (hb2)) h8) (by decide)
          refine zq_if hc hH (by rfl) (tg := 57) (by rfl) (fun h10 => ?_) (fun h10 => ?_)
          · have h10 : (decide ((lg_cmp wd 0) = 0)) = true := decide_eq_true (cm_eq9.mp h10)
            refine z_rcs hc hH 1 (pc' := 58) (lv' := [(2, .int 4), (1, .int 2), (0, .ref 0)]) (st' := [.int 0]) (μ' := μ) (by rfl) ?_
            exact zJ hJ5 rfl (by first | with_reducible rfl | (simp only [h10, lb_f, Int64.or_zero, Int32.add_zero, nB_t, nB_f, Bool.not_true, Bool.not_false, Bool.and_true, Bool.true_and, Bool.false_and, Bool.and_false, Bool.or_true, Bool.true_or, Bool.false_or, Bool.or_false, cond_true, cond_false]; done) | rfl) rfl
          · have h10 : (decide ((lg_cmp wd 0) = 0)) = false := decide_eq_false (cn_eq.mp h10)
            refine z_rcs hc hH 2 (pc' := 58) (lv' := [(2, .int 4), (1, .int 2), (0, .ref 0)]) (st' := [.int 1]) (μ' := μ) (by rfl) ?_
            exact zJ hJ5 rfl (by first | with_reducible rfl | (simp only [h10, lb_f, Int64.or_zero, Int32.add_zero, nB_t, nB_f, Bool.not_true, Bool.not_false, Bool.and_true, Bool.true_and, Bool.false_and, Bool.and_false, Bool.or_true, Bool.true_or, Bool.false_or, Bool.or_false, cond_true, cond_false]; done) | rfl) rfl
        · have h4 : (decide ((lg_cmp w3 0) = 0)) = false := decide_eq_false (cn_eq.mp h4)
          exact absurd (Eq.trans (Eq.symm (hb3)) h4) (by decide)
      · have h3 : (decide ((lg_cmp w2 0) = 0)) = false := decide_eq_false (cn_eq.mp h3)
        exact absurd (Eq.trans (Eq.symm (hb2)) h3) (by decide)
theorem gc_endUnwon1101 (d : Nat) (hd : 8 ≤ d) (μ : zM) (dl e : Nat) (hdl : μ.1 0 9 = nI dl) (hdl4 : dl < 4) (he : (dl + 1) % 4 = e) (w0 : Int64) (hw0 : ∀ μ1, TE μ μ1 → ∀ d, 7 ≤ d → z_C d mi_X3_waiting [.ref 19] μ1 (zR μ1 (.long w0))) (w1 : Int64) (hw1 : ∀ μ1, TE μ μ1 → ∀ d, 7 ≤ d → z_C d mi_X3_waiting [.ref 27] μ1 (zR μ1 (.long w1))) (w2 : Int64) (hw2 : ∀ μ1, TE μ μ1 → ∀ d, 7 ≤ d → z_C d mi_X3_waiting [.ref 35] μ1 (zR μ1 (.long w2))) (w3 : Int64) (hw3 : ∀ μ1, TE μ μ1 → ∀ d, 7 ≤ d → z_C d mi_X3_waiting [.ref 43] μ1 (zR μ1 (.long w3))) (wd : Int64) (hwd : ∀ μ1, TE μ μ1 → ∀ d, 7 ≤ d → z_C d mi_X3_waiting [.ref (19 + 8 * dl)] μ1 (zR μ1 (.long wd))) (hb0 : decide (lg_cmp w0 0 = 0) = false) (hb1 : decide (lg_cmp w1 0 = 0) = false) (hb2 : decide (lg_cmp w2 0 = 0) = true) (hb3 : decide (lg_cmp w3 0 = 0) = false) : z_C d mi_X6_endUnwon [.ref 0] μ (fun r μ' => r = none ∧ μ' = eHB (z_ui (z_ui (z_ui (z_ui μ 18 4 ((μ.1 18 4) + 1000)) 26 4 ((μ.1 26 4) + 1000)) 34 4 ((μ.1 34 4) + (-3000))) 42 4 ((μ.1 42 4) + 1000)) (!(decide ((lg_cmp wd 0) = 0))) false (xBk (z_ui (z_ui (z_ui (z_ui μ 18 4 ((μ.1 18 4) + 1000)) 26 4 ((μ.1 26 4) + 1000)) 34 4 ((μ.1 34 4) + (-3000))) 42 4 ((μ.1 42 4) + 1000))) dl e (rcM (z_ui (z_ui (z_ui (z_ui μ 18 4 ((μ.1 18 4) + 1000)) 26 4 ((μ.1 26 4) + 1000)) 34 4 ((μ.1 34 4) + (-3000))) 42 4 ((μ.1 42 4) + 1000)))) := by
  refine z_C_in (by decide) (by omega) (fun d' Z ed hc hr => ?_)
  have hH : zH mi_X6_endUnwon zt_X6_endUnwon 79 6 6 := hh_X6_endUnwon
  refine z_rcs hc hH 9 (pc' := 11) (lv' := [(2, .int 0), (1, .int 0), (0, .ref 0)]) (st' := [.int 0, .ref 0]) (μ' := μ) (by rfl) ?_
  refine zq_call hc (z_cx_ok hH (by rfl)) (gc_at d' (by omega) μ 0 (by decide)) (by decide +kernel) (fun r9 μ9 hq => ?_)
  obtain ⟨hμ9, rfl⟩ := hq
  rw [hμ9]
  clear hμ9 μ9
  show Z 0 14 [(2, .int 0), (1, .int 0), (0, .ref 0)] [.ref 18] μ
  refine zq_gfr hc hH (by rfl) (ci := 1) (f := 0) (q := 19) (by rfl) (by decide +kernel) (by rfl) (by decide +kernel) ?_
  refine zq_call hc (z_cx_ok hH (by rfl)) (hw0 _ (TE_rf _) d' (by omega)) (by decide +kernel) (fun r9 μ9 hq => ?_)
  obtain ⟨hμ9, rfl⟩ := hq
  rw [hμ9]
  clear hμ9 μ9
  show Z 0 20 [(2, .int 0), (1, .int 0), (0, .ref 0)] [.long w0] μ
  refine z_rcs hc hH 2 (pc' := 22) (lv' := [(2, .int 0), (1, .int 0), (0, .ref 0)]) (st' := [.int (lg_cmp w0 0)]) (μ' := μ) (by rfl) ?_
  refine zq_if hc hH (by rfl) (tg := 28) (by rfl) (fun h1 => ?_) (fun h1 => ?_)
  · have h1 : (decide ((lg_cmp w0 0) = 0)) = true := decide_eq_true (cm_eq9.mp h1)
    exact absurd (Eq.trans (Eq.symm (hb0)) h1) (by decide)
  · have h1 : (decide ((lg_cmp w0 0) = 0)) = false := decide_eq_false (cn_eq.mp h1)
    refine z_rcs hc hH 8 (pc' := 11) (lv' := [(2, .int 1), (1, .int 1), (0, .ref 0)]) (st' := [.int 1, .ref 0]) (μ' := μ) (by rfl) ?_
    refine zq_call hc (z_cx_ok hH (by rfl)) (gc_at d' (by omega) μ 1 (by decide)) (by decide +kernel) (fun r9 μ9 hq => ?_)
    obtain ⟨hμ9, rfl⟩ := hq
    rw [hμ9]
    clear hμ9 μ9
    show Z 0 14 [(2, .int 1), (1, .int 1), (0, .ref 0)] [.ref 26] μ
    refine zq_gfr hc hH (by rfl) (ci := 1) (f := 0) (q := 27) (by rfl) (by decide +kernel) (by rfl) (by decide +kernel) ?_
    refine zq_call hc (z_cx_ok hH (by rfl)) (hw1 _ (TE_rf _) d' (by omega)) (by decide +kernel) (fun r9 μ9 hq => ?_)
    obtain ⟨hμ9, rfl⟩ := hq
    rw [hμ9]
    clear hμ9 μ9
    show Z 0 20 [(2, .int 1), (1, .int 1), (0, .ref 0)] [.long w1] μ
    refine z_rcs hc hH 2 (pc' := 22) (lv' := [(2, .int 1), (1, .int 1), (0, .ref 0)]) (st' := [.int (lg_cmp w1 0)]) (μ' := μ) (by rfl) ?_
    refine zq_if hc hH (by rfl) (tg := 28) (by rfl) (fun h2 => ?_) (fun h2 => ?_)
    · have h2 : (decide ((lg_cmp w1 0) = 0)) = true := decide_eq_true (cm_eq9.mp h2)
      exact absurd (Eq.trans (Eq.symm (hb1)) h2) (by decide)
    · have h2 : (decide ((lg_cmp w1 0) = 0)) = false := decide_eq_false (cn_eq.mp h2)
      refine z_rcs hc hH 8 (pc' := 11) (lv' := [(2, .int 2), (1, .int 2), (0, .ref 0)]) (st' := [.int 2, .ref 0]) (μ' := μ) (by rfl) ?_
      refine zq_call hc (z_cx_ok hH (by rfl)) (gc_at d' (by omega) μ 2 (by decide)) (by decide +kernel) (fun r9 μ9 hq => ?_)
      obtain ⟨hμ9, rfl⟩ := hq
      rw [hμ9]
      clear hμ9 μ9
      show Z 0 14 [(2, .int 2), (1, .int 2), (0, .ref 0)] [.ref 34] μ
      refine zq_gfr hc hH (by rfl) (ci := 1) (f := 0) (q := 35) (by rfl) (by decide +kernel) (by rfl) (by decide +kernel) ?_
      refine zq_call hc (z_cx_ok hH (by rfl)) (hw2 _ (TE_rf _) d' (by omega)) (by decide +kernel) (fun r9 μ9 hq => ?_)
      obtain ⟨hμ9, rfl⟩ := hq
      rw [hμ9]
      clear hμ9 μ9
      show Z 0 20 [(2, .int 2), (1, .int 2), (0, .ref 0)] [.long w2] μ
      refine z_rcs hc hH 2 (pc' := 22) (lv' := [(2, .int 2), (1, .int 2), (0, .ref 0)]) (st' := [.int (lg_cmp w2 0)]) (μ' := μ) (by rfl) ?_
      refine zq_if hc hH (by rfl) (tg := 28) (by rfl) (fun h3 => ?_) (fun h3 => ?_)
      · have h3 : (decide ((lg_cmp w2 0) = 0)) = true := decide_eq_true (cm_eq9.mp h3)
        refine z_rcs hc hH 7 (pc' := 11) (lv' := [(2, .int 3), (1, .int 2), (0, .ref 0)]) (st' := [.int 3, .ref 0]) (μ' := μ) (by rfl) ?_
        refine zq_call hc (z_cx_ok hH (by rfl)) (gc_at d' (by omega) μ 3 (by decide)) (by decide +kernel) (fun r9 μ9 hq => ?_)
        obtain ⟨hμ9, rfl⟩ := hq
        rw [hμ9]
        clear hμ9 μ9
        show Z 0 14 [(2, .int 3), (1, .int 2), (0, .ref 0)] [.ref 42] μ
        refine zq_gfr hc hH (by rfl) (ci := 1) (f := 0) (q := 43) (by rfl) (by decide +kernel) (by rfl) (by decide +kernel) ?_
        refine zq_call hc (z_cx_ok hH (by rfl)) (hw3 _ (TE_rf _) d' (by omega)) (by decide +kernel) (fun r9 μ9 hq => ?_)
        obtain ⟨hμ9, rfl⟩ := hq
        rw [hμ9]
        clear hμ9 μ9
        show Z 0 20 [(2, .int 3), (1, .int 2), (0, .ref 0)] [.long w3] μ
        refine z_rcs hc hH 2 (pc' := 22) (lv' := [(2, .int 3), (1, .int 2), (0, .ref 0)]) (st' := [.int (lg_cmp w3 0)]) (μ' := μ) (by rfl) ?_
        refine zq_if hc hH (by rfl) (tg := 28) (by rfl) (fun h4 => ?_) (fun h4 => ?_)
        · have h4 : (decide ((lg_cmp w3 0) = 0)) = true := decide_eq_true (cm_eq9.mp h4)
          exact absurd (Eq.trans (Eq.symm (hb3)) h4) (by decide)
        · have h4 : (decide ((lg_cmp w3 0) = 0)) = false := decide_eq_false (cn_eq.mp h4)
          refine z_rcs hc hH 8 (pc' := 36) (lv' := [(2, .int 4), (1, .int 3), (0, .ref 0)]) (st' := [.ref 0, .ref 0]) (μ' := μ) (by rfl) ?_
          refine zq_gfi hc hH (by rfl) (ci := 5) (f := 9) (by rfl) (by decide +kernel) (by rfl) ?_
          rw [hdl]
          refine zq_call hc (z_cx_ok hH (by rfl)) (gc_at4 d' (by omega) μ dl hdl4) (by decide +kernel) (fun r9 μ9 hq => ?_)
          obtain ⟨hμ9, rfl⟩ := hq
          rw [hμ9]
          clear hμ9 μ9
          show Z 0 42 [(2, .int 4), (1, .int 3), (0, .ref 0)] [.ref (18 + 8 * dl)] μ
          refine zq_gfr hc hH (by rfl) (ci := 1) (f := 0) (q := 19 + 8 * dl) (by rfl) (sj (P := fun i => okf 79 1 0 (18 + 8 * i)) hdl4 (by decide +kernel)) (by rfl) (sj (P := fun i => Nat.beq (z_gr (18 + 8 * i) 0) (19 + 8 * i)) hdl4 (by decide +kernel)) ?_
          refine zq_call hc (z_clv9 hH (by rfl) (by rfl) (by rfl) (by rfl) (sj (P := fun i => okr 79 2 (19 + 8 * i)) hdl4 (by decide +kernel)) (by rfl) (by rfl)) ((hwd _ (TE_rf _) d' (by omega))) (by decide +kernel) (fun r9 μ9 hq => ?_)
          obtain ⟨hμ9, rfl⟩ := hq
          rw [hμ9]
          clear hμ9 μ9
          show Z 0 48 [(2, .int 4), (1, .int 3), (0, .ref 0)] [.long wd] μ
          refine z_rcs hc hH 2 (pc' := 50) (lv' := [(2, .int 4), (1, .int 3), (0, .ref 0)]) (st' := [.int (lg_cmp wd 0)]) (μ' := μ) (by rfl) ?_
          have hJ5 : Z 0 58 [(2, .int 4), (1, .int 3), (0, .ref 0)] [.int (nB (!(decide ((lg_cmp wd 0) = 0))))] μ := by
            refine z_rcs hc hH 23 (pc' := 95) (lv' := [(5, .int 0), (4, .int 3000), (3, .int 1000), (2, .int (nB (!(decide ((lg_cmp wd 0) = 0))))), (1, .int 3), (0, .ref 0)]) (st' := [.int 0, .ref 0]) (μ' := μ) (by rfl) ?_
            refine zq_call hc (z_cx_ok hH (by rfl)) (gc_at d' (by omega) μ 0 (by decide)) (by decide +kernel) (fun r9 μ9 hq => ?_)
            obtain ⟨hμ9, rfl⟩ := hq
            rw [hμ9]
            clear hμ9 μ9
            show Z 0 98 [(5, .int 0), (4, .int 3000), (3, .int 1000), (2, .int (nB (!(decide ((lg_cmp wd 0) = 0))))), (1, .int 3), (0, .ref 0)] [.ref 18] μ
            refine z_rcs hc hH 1 (pc' := 99) (lv' := [(5, .int 0), (4, .int 3000), (3, .int 1000), (2, .int (nB (!(decide ((lg_cmp wd 0) = 0))))), (1, .int 3), (0, .ref 0)]) (st' := [.ref 18, .ref 18]) (μ' := μ) (by rfl) ?_
            refine zq_gfi hc hH (by rfl) (ci := 1) (f := 4) (by rfl) (by decide +kernel) (by rfl) ?_
            refine z_rcs hc hH 2 (pc' := 105) (lv' := [(5, .int 0), (4, .int 3000), (3, .int 1000), (2, .int (nB (!(decide ((lg_cmp wd 0) = 0))))), (1, .int 3), (0, .ref 0)]) (st' := [.int 0, .ref 0, .int (μ.1 18 4), .ref 18]) (μ' := μ) (by rfl) ?_
            refine zq_call hc (z_cx_ok hH (by rfl)) (gc_at d' (by omega) μ 0 (by decide)) (by decide +kernel) (fun r9 μ9 hq => ?_)
            obtain ⟨hμ9, rfl⟩ := hq
            rw [hμ9]
            clear hμ9 μ9
            show Z 0 108 [(5, .int 0), (4, .int 3000), (3, .int 1000), (2, .int (nB (!(decide ((lg_cmp wd 0) = 0))))), (1, .int 3), (0, .ref 0)] [.ref 18, .int (μ.1 18 4), .ref 18] μ
            refine zq_gfr hc hH (by rfl) (ci := 1) (f := 0) (q := 19) (by rfl) (by decide +kernel) (by rfl) (by decide +kernel) ?_
            refine zq_call hc (z_cx_ok hH (by rfl)) (hw0 _ (TE_rf _) d' (by omega)) (by decide +kernel) (fun r9 μ9 hq => ?_)
            obtain ⟨hμ9, rfl⟩ := hq
            rw [hμ9]
            clear hμ9 μ9
            show Z 0 114 [(5, .int 0), (4, .int 3000), (3, .int 1000), (2, .int (nB (!(decide ((lg_cmp wd 0) = 0))))), (1, .int 3), (0, .ref 0)] [.long w0, .int (μ.1 18 4), .ref 18] μ
            refine z_rcs hc hH 2 (pc' := 116) (lv' := [(5, .int 0), (4, .int 3000), (3, .int 1000), (2, .int (nB (!(decide ((lg_cmp wd 0) = 0))))), (1, .int 3), (0, .ref 0)]) (st' := [.int (lg_cmp w0 0), .int (μ.1 18 4), .ref 18]) (μ' := μ) (by rfl) ?_
            refine zq_if hc hH (by rfl) (tg := 123) (by rfl) (fun h6 => ?_) (fun h6 => ?_)
            · have h6 : (decide ((lg_cmp w0 0) = 0)) = true := decide_eq_true (cm_eq9.mp h6)
              exact absurd (Eq.trans (Eq.symm (hb0)) h6) (by decide)
            · have h6 : (decide ((lg_cmp w0 0) = 0)) = false := decide_eq_false (cn_eq.mp h6)
              refine z_rcs hc hH 3 (pc' := 127) (lv' := [(5, .int 0), (4, .int 3000), (3, .int 1000), (2, .int (nB (!(decide ((lg_cmp wd 0) = 0))))), (1, .int 3), (0, .ref 0)]) (st' := [.int ((μ.1 18 4) + 1000), .ref 18]) (μ' := μ) (by rfl) ?_
              refine zq_pfi hc hH (by rfl) (ci := 1) (f := 4) (by rfl) (by decide +kernel) (by rfl) ?_
              show Z 0 130 [(5, .int 0), (4, .int 3000), (3, .int 1000), (2, .int (nB (!(decide ((lg_cmp wd 0) = 0))))), (1, .int 3), (0, .ref 0)] [] (z_ui μ 18 4 ((μ.1 18 4) + 1000))
              refine z_rcs0 hc hH 7 (pc' := 95) (lv' := [(5, .int 1), (4, .int 3000), (3, .int 1000), (2, .int (nB (!(decide ((lg_cmp wd 0) = 0))))), (1, .int 3), (0, .ref 0)]) (st' := [.int 1, .ref 0]) (by rfl) ?_
              refine zq_call hc (z_cx_ok hH (by rfl)) (gc_at d' (by omega) (z_ui μ 18 4 ((μ.1 18 4) + 1000)) 1 (by decide)) (by decide +kernel) (fun r9 μ9 hq => ?_)
              obtain ⟨hμ9, rfl⟩ := hq
              rw [hμ9]
              clear hμ9 μ9
              show Z 0 98 [(5, .int 1), (4, .int 3000), (3, .int 1000), (2, .int (nB (!(decide ((lg_cmp wd 0) = 0))))), (1, .int 3), (0, .ref 0)] [.ref 26] _
              refine z_rcs0 hc hH 1 (pc' := 99) (lv' := [(5, .int 1), (4, .int 3000), (3, .int 1000), (2, .int (nB (!(decide ((lg_cmp wd 0) = 0))))), (1, .int 3), (0, .ref 0)]) (st' := [.ref 26, .ref 26]) (by rfl) ?_
              refine zq_gfi hc hH (by rfl) (ci := 1) (f := 4) (by rfl) (by decide +kernel) (by rfl) ?_
              refine zV1 (Z := Z) (ui_o (by first | decide | omega)) ?_
              refine z_rcs0 hc hH 2 (pc' := 105) (lv' := [(5, .int 1), (4, .int 3000), (3, .int 1000), (2, .int (nB (!(decide ((lg_cmp wd 0) = 0))))), (1, .int 3), (0, .ref 0)]) (st' := [.int 1, .ref 0, .int (μ.1 26 4), .ref 26]) (by rfl) ?_
              refine zq_call hc (z_cx_ok hH (by rfl)) (gc_at d' (by omega) (z_ui μ 18 4 ((μ.1 18 4) + 1000)) 1 (by decide)) (by decide +kernel) (fun r9 μ9 hq => ?_)
              obtain ⟨hμ9, rfl⟩ := hq
              rw [hμ9]
              clear hμ9 μ9
              show Z 0 108 [(5, .int 1), (4, .int 3000), (3, .int 1000), (2, .int (nB (!(decide ((lg_cmp wd 0) = 0))))), (1, .int 3), (0, .ref 0)] [.ref 26, .int (μ.1 26 4), .ref 26] _
              refine zq_gfr hc hH (by rfl) (ci := 1) (f := 0) (q := 27) (by rfl) (by decide +kernel) (by rfl) (by decide +kernel) ?_
              refine zq_call hc (z_cx_ok hH (by rfl)) (hw1 _ (TE_ui (TE_rf _) (by intro i a hi h1 h2; omega)) d' (by omega)) (by decide +kernel) (fun r9 μ9 hq => ?_)
              obtain ⟨hμ9, rfl⟩ := hq
              rw [hμ9]
              clear hμ9 μ9
              show Z 0 114 [(5, .int 1), (4, .int 3000), (3, .int 1000), (2, .int (nB (!(decide ((lg_cmp wd 0) = 0))))), (1, .int 3), (0, .ref 0)] [.long w1, .int (μ.1 26 4), .ref 26] _
              refine z_rcs0 hc hH 2 (pc' := 116) (lv' := [(5, .int 1), (4, .int 3000), (3, .int 1000), (2, .int (nB (!(decide ((lg_cmp wd 0) = 0))))), (1, .int 3), (0, .ref 0)]) (st' := [.int (lg_cmp w1 0), .int (μ.1 26 4), .ref 26]) (by rfl) ?_
              refine zq_if hc hH (by rfl) (tg := 123) (by rfl) (fun h7 => ?_) (fun h7 => ?_)
              · have h7 : (decide ((lg_cmp w1 0) = 0)) = true := decide_eq_true (cm_eq9.mp h7)
                exact absurd (Eq.trans (Eq.symm (hb1)) h7) (by decide)
              · have h7 : (decide ((lg_cmp w1 0) = 0)) = false := decide_eq_false (cn_eq.mp h7)
                refine z_rcs0 hc hH 3 (pc' := 127) (lv' := [(5, .int 1), (4, .int 3000), (3, .int 1000), (2, .int (nB (!(decide ((lg_cmp wd 0) = 0))))), (1, .int 3), (0, .ref 0)]) (st' := [.int ((μ.1 26 4) + 1000), .ref 26]) (by rfl) ?_
                refine zq_pfi hc hH (by rfl) (ci := 1) (f := 4) (by rfl) (by decide +kernel) (by rfl) ?_
                show Z 0 130 [(5, .int 1), (4, .int 3000), (3, .int 1000), (2, .int (nB (!(decide ((lg_cmp wd 0) = 0))))), (1, .int 3), (0, .ref 0)] [] (z_ui (z_ui μ 18 4 ((μ.1 18 4) + 1000)) 26 4 ((μ.1 26 4) + 1000))
                refine z_rcs0 hc hH 7 (pc' := 95) (lv' := [(5, .int 2), (4, .int 3000), (3, .int 1000), (2, .int (nB (!(decide ((lg_cmp wd 0) = 0))))), (1, .int 3), (0, .ref 0)]) (st' := [.int 2, .ref 0]) (by rfl) ?_
                refine zq_call hc (z_cx_ok hH (by rfl)) (gc_at d' (by omega) (z_ui (z_ui μ 18 4 ((μ.1 18 4) + 1000)) 26 4 ((μ.1 26 4) + 1000)) 2 (by decide)) (by decide +kernel) (fun r9 μ9 hq => ?_)
                obtain ⟨hμ9, rfl⟩ := hq
                rw [hμ9]
                clear hμ9 μ9
                show Z 0 98 [(5, .int 2), (4, .int 3000), (3, .int 1000), (2, .int (nB (!(decide ((lg_cmp wd 0) = 0))))), (1, .int 3), (0, .ref 0)] [.ref 34] _
                refine z_rcs0 hc hH 1 (pc' := 99) (lv' := [(5, .int 2), (4, .int 3000), (3, .int 1000), (2, .int (nB (!(decide ((lg_cmp wd 0) = 0))))), (1, .int 3), (0, .ref 0)]) (st' := [.ref 34, .ref 34]) (by rfl) ?_
                refine zq_gfi hc hH (by rfl) (ci := 1) (f := 4) (by rfl) (by decide +kernel) (by rfl) ?_
                refine zV1 (Z := Z) (Eq.trans (ui_o (by first | decide | omega)) (ui_o (by first | decide | omega))) ?_
                refine z_rcs0 hc hH 2 (pc' := 105) (lv' := [(5, .int 2), (4, .int 3000), (3, .int 1000), (2, .int (nB (!(decide ((lg_cmp wd 0) = 0))))), (1, .int 3), (0, .ref 0)]) (st' := [.int 2, .ref 0, .int (μ.1 34 4), .ref 34]) (by rfl) ?_
                refine zq_call hc (z_cx_ok hH (by rfl)) (gc_at d' (by omega) (z_ui (z_ui μ 18 4 ((μ.1 18 4) + 1000)) 26 4 ((μ.1 26 4) + 1000)) 2 (by decide)) (by decide +kernel) (fun r9 μ9 hq => ?_)
                obtain ⟨hμ9, rfl⟩ := hq
                rw [hμ9]
                clear hμ9 μ9
                show Z 0 108 [(5, .int 2), (4, .int 3000), (3, .int 1000), (2, .int (nB (!(decide ((lg_cmp wd 0) = 0))))), (1, .int 3), (0, .ref 0)] [.ref 34, .int (μ.1 34 4), .ref 34] _
                refine zq_gfr hc hH (by rfl) (ci := 1) (f := 0) (q := 35) (by rfl) (by decide +kernel) (by rfl) (by decide +kernel) ?_
                refine zq_call hc (z_cx_ok hH (by rfl)) (hw2 _ (TE_ui (TE_ui (TE_rf _) (by intro i a hi h1 h2; omega)) (by intro i a hi h1 h2; omega)) d' (by omega)) (by decide +kernel) (fun r9 μ9 hq => ?_)
                obtain ⟨hμ9, rfl⟩ := hq
                rw [hμ9]
                clear hμ9 μ9
                show Z 0 114 [(5, .int 2), (4, .int 3000), (3, .int 1000), (2, .int (nB (!(decide ((lg_cmp wd 0) = 0))))), (1, .int 3), (0, .ref 0)] [.long w2, .int (μ.1 34 4), .ref 34] _
                refine z_rcs0 hc hH 2 (pc' := 116) (lv' := [(5, .int 2), (4, .int 3000), (3, .int 1000), (2, .int (nB (!(decide ((lg_cmp wd 0) = 0))))), (1, .int 3), (0, .ref 0)]) (st' := [.int (lg_cmp w2 0), .int (μ.1 34 4), .ref 34]) (by rfl) ?_
                refine zq_if hc hH (by rfl) (tg := 123) (by rfl) (fun h8 => ?_) (fun h8 => ?_)
                · have h8 : (decide ((lg_cmp w2 0) = 0)) = true := decide_eq_true (cm_eq9.mp h8)
                  refine z_rcs0 hc hH 3 (pc' := 127) (lv' := [(5, .int 2), (4, .int 3000), (3, .int 1000), (2, .int (nB (!(decide ((lg_cmp wd 0) = 0))))), (1, .int 3), (0, .ref 0)]) (st' := [.int ((μ.1 34 4) + (-3000)), .ref 34]) (by rfl) ?_
                  refine zq_pfi hc hH (by rfl) (ci := 1) (f := 4) (by rfl) (by decide +kernel) (by rfl) ?_
                  show Z 0 130 [(5, .int 2), (4, .int 3000), (3, .int 1000), (2, .int (nB (!(decide ((lg_cmp wd 0) = 0))))), (1, .int 3), (0, .ref 0)] [] (z_ui (z_ui (z_ui μ 18 4 ((μ.1 18 4) + 1000)) 26 4 ((μ.1 26 4) + 1000)) 34 4 ((μ.1 34 4) + (-3000)))
                  refine z_rcs0 hc hH 7 (pc' := 95) (lv' := [(5, .int 3), (4, .int 3000), (3, .int 1000), (2, .int (nB (!(decide ((lg_cmp wd 0) = 0))))), (1, .int 3), (0, .ref 0)]) (st' := [.int 3, .ref 0]) (by rfl) ?_
                  refine zq_call hc (z_cx_ok hH (by rfl)) (gc_at d' (by omega) (z_ui (z_ui (z_ui μ 18 4 ((μ.1 18 4) + 1000)) 26 4 ((μ.1 26 4) + 1000)) 34 4 ((μ.1 34 4) + (-3000))) 3 (by decide)) (by decide +kernel) (fun r9 μ9 hq => ?_)
                  obtain ⟨hμ9, rfl⟩ := hq
                  rw [hμ9]
                  clear hμ9 μ9
                  show Z 0 98 [(5, .int 3), (4, .int 3000), (3, .int 1000), (2, .int (nB (!(decide ((lg_cmp wd 0) = 0))))), (1, .int 3), (0, .ref 0)] [.ref 42] _
                  refine z_rcs0 hc hH 1 (pc' := 99) (lv' := [(5, .int 3), (4, .int 3000), (3, .int 1000), (2, .int (nB (!(decide ((lg_cmp wd 0) = 0))))), (1, .int 3), (0, .ref 0)]) (st' := [.ref 42, .ref 42]) (by rfl) ?_
                  refine zq_gfi hc hH (by rfl) (ci := 1) (f := 4) (by rfl) (by decide +kernel) (by rfl) ?_
                  refine zV1 (Z := Z) (Eq.trans (ui_o (by first | decide | omega)) (Eq.trans (ui_o (by first | decide | omega)) (ui_o (by first | decide | omega)))) ?_
                  refine z_rcs0 hc hH 2 (pc' := 105) (lv' := [(5, .int 3), (4, .int 3000), (3, .int 1000), (2, .int (nB (!(decide ((lg_cmp wd 0) = 0))))), (1, .int 3), (0, .ref 0)]) (st' := [.int 3, .ref 0, .int (μ.1 42 4), .ref 42]) (by rfl) ?_
                  refine zq_call hc (z_cx_ok hH (by rfl)) (gc_at d' (by omega) (z_ui (z_ui (z_ui μ 18 4 ((μ.1 18 4) + 1000)) 26 4 ((μ.1 26 4) + 1000)) 34 4 ((μ.1 34 4) + (-3000))) 3 (by decide)) (by decide +kernel) (fun r9 μ9 hq => ?_)
                  obtain ⟨hμ9, rfl⟩ := hq
                  rw [hμ9]
                  clear hμ9 μ9
                  show Z 0 108 [(5, .int 3), (4, .int 3000), (3, .int 1000), (2, .int (nB (!(decide ((lg_cmp wd 0) = 0))))), (1, .int 3), (0, .ref 0)] [.ref 42, .int (μ.1 42 4), .ref 42] _
                  refine zq_gfr hc hH (by rfl) (ci := 1) (f := 0) (q := 43) (by rfl) (by decide +kernel) (by rfl) (by decide +kernel) ?_
                  refine zq_call hc (z_cx_ok hH (by rfl)) (hw3 _ (TE_ui (TE_ui (TE_ui (TE_rf _) (by intro i a hi h1 h2; omega)) (by intro i a hi h1 h2; omega)) (by intro i a hi h1 h2; omega)) d' (by omega)) (by decide +kernel) (fun r9 μ9 hq => ?_)
                  obtain ⟨hμ9, rfl⟩ := hq
                  rw [hμ9]
                  clear hμ9 μ9
                  show Z 0 114 [(5, .int 3), (4, .int 3000), (3, .int 1000), (2, .int (nB (!(decide ((lg_cmp wd 0) = 0))))), (1, .int 3), (0, .ref 0)] [.long w3, .int (μ.1 42 4), .ref 42] _
                  refine z_rcs0 hc hH 2 (pc' := 116) (lv' := [(5, .int 3), (4, .int 3000), (3, .int 1000), (2, .int (nB (!(decide ((lg_cmp wd 0) = 0))))), (1, .int 3), (0, .ref 0)]) (st' := [.int (lg_cmp w3 0), .int (μ.1 42 4), .ref 42]) (by rfl) ?_
                  refine zq_if hc hH (by rfl) (tg := 123) (by rfl) (fun h9 => ?_) (fun h9 => ?_)
                  · have h9 : (decide ((lg_cmp w3 0) = 0)) = true := decide_eq_true (cm_eq9.mp h9)
                    exact absurd (Eq.trans (Eq.symm (hb3)) h9) (by decide)
                  · have h9 : (decide ((lg_cmp w3 0) = 0)) = false := decide_eq_false (cn_eq.mp h9)
                    refine z_rcs0 hc hH 3 (pc' := 127) (lv' := [(5, .int 3), (4, .int 3000), (3, .int 1000), (2, .int (nB (!(decide ((lg_cmp wd 0) = 0))))), (1, .int 3), (0, .ref 0)]) (st' := [.int ((μ.1 42 4) + 1000), .ref 42]) (by rfl) ?_
                    refine zq_pfi hc hH (by rfl) (ci := 1) (f := 4) (by rfl) (by decide +kernel) (by rfl) ?_
                    show Z 0 130 [(5, .int 3), (4, .int 3000), (3, .int 1000), (2, .int (nB (!(decide ((lg_cmp wd 0) = 0))))), (1, .int 3), (0, .ref 0)] [] (z_ui (z_ui (z_ui (z_ui μ 18 4 ((μ.1 18 4) + 1000)) 26 4 ((μ.1 26 4) + 1000)) 34 4 ((μ.1 34 4) + (-3000))) 42 4 ((μ.1 42 4) + 1000))
                    refine z_rcs0 hc hH 8 (pc' := 139) (lv' := [(5, .int 4), (4, .int 3000), (3, .int 1000), (2, .int (nB (!(decide ((lg_cmp wd 0) = 0))))), (1, .int 3), (0, .ref 0)]) (st' := [.int 0, .int (nB (!(decide ((lg_cmp wd 0) = 0)))), .ref 0]) (by rfl) ?_
                    refine zq_call hc (z_cx_ok hH (by rfl)) (gc_endHandB d' (by omega) (z_ui (z_ui (z_ui (z_ui μ 18 4 ((μ.1 18 4) + 1000)) 26 4 ((μ.1 26 4) + 1000)) 34 4 ((μ.1 34 4) + (-3000))) 42 4 ((μ.1 42 4) + 1000)) (!(decide ((lg_cmp wd 0) = 0))) false dl e (by rw [ui_o (by first | decide | omega), ui_o (by first | decide | omega), ui_o (by first | decide | omega), ui_o (by first | decide | omega)]; exact hdl) hdl4 he) (by decide +kernel) (fun r9 μ9 hq => ?_)
                    obtain ⟨rfl, rfl⟩ := hq
                    show Z 0 142 [(5, .int 4), (4, .int 3000), (3, .int 1000), (2, .int (nB (!(decide ((lg_cmp wd 0) = 0))))), (1, .int 3), (0, .ref 0)] [] (eHB (z_ui (z_ui (z_ui (z_ui μ 18 4 ((μ.1 18 4) + 1000)) 26 4 ((μ.1 26 4) + 1000)) 34 4 ((μ.1 34 4) + (-3000))) 42 4 ((μ.1 42 4) + 1000)) (!(decide ((lg_cmp wd 0) = 0))) false (xBk (z_ui (z_ui (z_ui (z_ui μ 18 4 ((μ.1 18 4) + 1000)) 26 4 ((μ.1 26 4) + 1000)) 34 4 ((μ.1 34 4) + (-3000))) 42 4 ((μ.1 42 4) + 1000))) dl e (rcM (z_ui (z_ui (z_ui (z_ui μ 18 4 ((μ.1 18 4) + 1000)) 26 4 ((μ.1 26 4) + 1000)) 34 4 ((μ.1 34 4) + (-3000))) 42 4 ((μ.1 42 4) + 1000))))
                    exact hr 0 142 _ _ _ none (by decide +kernel) (by rfl) (⟨rfl, rfl⟩)
                · have h8 : (decide ((lg_cmp w2 0) = 0)) = false := decide_eq_false (cn_eq.mp h8)
                  exact absurd (Eq.trans (Eq.symm (hb2)) h8) (by decide)
          refine zq_if hc hH (by rfl) (tg := 57) (by rfl) (fun h10 => ?_) (fun h10 => ?_)
          · have h10 : (decide ((lg_cmp wd 0) = 0)) = true := decide_eq_true (cm_eq9.mp h10)
            refine z_rcs hc hH 1 (pc' := 58) (lv' := [(2, .int 4), (1, .int 3), (0, .ref 0)]) (st' := [.int 0]) (μ' := μ) (by rfl) ?_
            exact zJ hJ5 rfl (by first | with_reducible rfl | (simp only [h10, lb_f, Int64.or_zero, Int32.add_zero, nB_t, nB_f, Bool.not_true, Bool.not_false, Bool.and_true, Bool.true_and, Bool.false_and, Bool.and_false, Bool.or_true, Bool.true_or, Bool.false_or, Bool.or_false, cond_true, cond_false]; done) | rfl) rfl
          · have h10 : (decide ((lg_cmp wd 0) = 0)) = false := decide_eq_false (cn_eq.mp h10)
            refine z_rcs hc hH 2 (pc' := 58) (lv' := [(2, .int 4), (1, .int 3), (0, .ref 0)]) (st' := [.int 1]) (μ' := μ) (by rfl) ?_
            exact zJ hJ5 rfl (by first | with_reducible rfl | (simp only [h10, lb_f, Int64.or_zero, Int32.add_zero, nB_t, nB_f, Bool.not_true, Bool.not_false, Bool.and_true, Bool.true_and, Bool.false_and, Bool.and_false, Bool.or_true, Bool.true_or, Bool.false_or, Bool.or_false, cond_true, cond_false]; done) | rfl) rfl
      · have h3 : (decide ((lg_cmp w2 0) = 0)) = false := decide_eq_false (cn_eq.mp h3)
        exact absurd (Eq.trans (Eq.symm (hb2)) h3) (by decide)
theorem gc_endUnwon1110 (d : Nat) (hd : 8 ≤ d) (μ : zM) (dl e : Nat) (hdl : μ.1 0 9 = nI dl) (hdl4 : dl < 4) (he : (dl + 1) % 4 = e) (w0 : Int64) (hw0 : ∀ μ1, TE μ μ1 → ∀ d, 7 ≤ d → z_C d mi_X3_waiting [.ref 19] μ1 (zR μ1 (.long w0))) (w1 : Int64) (hw1 : ∀ μ1, TE μ μ1 → ∀ d, 7 ≤ d → z_C d mi_X3_waiting [.ref 27] μ1 (zR μ1 (.long w1))) (w2 : Int64) (hw2 : ∀ μ1, TE μ μ1 → ∀ d, 7 ≤ d → z_C d mi_X3_waiting [.ref 35] μ1 (zR μ1 (.long w2))) (w3 : Int64) (hw3 : ∀ μ1, TE μ μ1 → ∀ d, 7 ≤ d → z_C d mi_X3_waiting [.ref 43] μ1 (zR μ1 (.long w3))) (wd : Int64) (hwd : ∀ μ1, TE μ μ1 → ∀ d, 7 ≤ d → z_C d mi_X3_waiting [.ref (19 + 8 * dl)] μ1 (zR μ1 (.long wd))) (hb0 : decide (lg_cmp w0 0 = 0) = false) (hb1 : decide (lg_cmp w1 0 = 0) = false) (hb2 : decide (lg_cmp w2 0 = 0) = false) (hb3 : decide (lg_cmp w3 0 = 0) = true) : z_C d mi_X6_endUnwon [.ref 0] μ (fun r μ' => r = none ∧ μ' = eHB (z_ui (z_ui (z_ui (z_ui μ 18 4 ((μ.1 18 4) + 1000)) 26 4 ((μ.1 26 4) + 1000)) 34 4 ((μ.1 34 4) + 1000)) 42 4 ((μ.1 42 4) + (-3000))) (!(decide ((lg_cmp wd 0) = 0))) false (xBk (z_ui (z_ui (z_ui (z_ui μ 18 4 ((μ.1 18 4) + 1000)) 26 4 ((μ.1 26 4) + 1000)) 34 4 ((μ.1 34 4) + 1000)) 42 4 ((μ.1 42 4) + (-3000)))) dl e (rcM (z_ui (z_ui (z_ui (z_ui μ 18 4 ((μ.1 18 4) + 1000)) 26 4 ((μ.1 26 4) + 1000)) 34 4 ((μ.1 34 4) + 1000)) 42 4 ((μ.1 42 4) + (-3000))))) := by
  refine z_C_in (by decide) (by omega) (fun d' Z ed hc hr => ?_)
  have hH : zH mi_X6_endUnwon zt_X6_endUnwon 79 6 6 := hh_X6_endUnwon
  refine z_rcs hc hH 9 (pc' := 11) (lv' := [(2, .int 0), (1, .int 0), (0, .ref 0)]) (st' := [.int 0, .ref 0]) (μ' := μ) (by rfl) ?_
  refine zq_call hc (z_cx_ok hH (by rfl)) (gc_at d' (by omega) μ 0 (by decide)) (by decide +kernel) (fun r9 μ9 hq => ?_)
  obtain ⟨hμ9, rfl⟩ := hq
  rw [hμ9]
  clear hμ9 μ9
  show Z 0 14 [(2, .int 0), (1, .int 0), (0, .ref 0)] [.ref 18] μ
  refine zq_gfr hc hH (by rfl) (ci := 1) (f := 0) (q := 19) (by rfl) (by decide +kernel) (by rfl) (by decide +kernel) ?_
  refine zq_call hc (z_cx_ok hH (by rfl)) (hw0 _ (TE_rf _) d' (by omega)) (by decide +kernel) (fun r9 μ9 hq => ?_)
  obtain ⟨hμ9, rfl⟩ := hq
  rw [hμ9]
  clear hμ9 μ9
  show Z 0 20 [(2, .int 0), (1, .int 0), (0, .ref 0)] [.long w0] μ
  refine z_rcs hc hH 2 (pc' := 22) (lv' := [(2, .int 0), (1, .int 0), (0, .ref 0)]) (st' := [.int (lg_cmp w0 0)]) (μ' := μ) (by rfl) ?_
  refine zq_if hc hH (by rfl) (tg := 28) (by rfl) (fun h1 => ?_) (fun h1 => ?_)
  · have h1 : (decide ((lg_cmp w0 0) = 0)) = true := decide_eq_true (cm_eq9.mp h1)
    exact absurd (Eq.trans (Eq.symm (hb0)) h1) (by decide)
  · have h1 : (decide ((lg_cmp w0 0) = 0)) = false := decide_eq_false (cn_eq.mp h1)
    refine z_rcs hc hH 8 (pc' := 11) (lv' := [(2, .int 1), (1, .int 1), (0, .ref 0)]) (st' := [.int 1, .ref 0]) (μ' := μ) (by rfl) ?_
    refine zq_call hc (z_cx_ok hH (by rfl)) (gc_at d' (by omega) μ 1 (by decide)) (by decide +kernel) (fun r9 μ9 hq => ?_)
    obtain ⟨hμ9, rfl⟩ := hq
    rw [hμ9]
    clear hμ9 μ9
    show Z 0 14 [(2, .int 1), (1, .int 1), (0, .ref 0)] [.ref 26] μ
    refine zq_gfr hc hH (by rfl) (ci := 1) (f := 0) (q := 27) (by rfl) (by decide +kernel) (by rfl) (by decide +kernel) ?_
    refine zq_call hc (z_cx_ok hH (by rfl)) (hw1 _ (TE_rf _) d' (by omega)) (by decide +kernel) (fun r9 μ9 hq => ?_)
    obtain ⟨hμ9, rfl⟩ := hq
    rw [hμ9]
    clear hμ9 μ9
    show Z 0 20 [(2, .int 1), (1, .int 1), (0, .ref 0)] [.long w1] μ
    refine z_rcs hc hH 2 (pc' := 22) (lv' := [(2, .int 1), (1, .int 1), (0, .ref 0)]) (st' := [.int (lg_cmp w1 0)]) (μ' := μ) (by rfl) ?_
    refine zq_if hc hH (by rfl) (tg := 28) (by rfl) (fun h2 => ?_) (fun h2 => ?_)
    · have h2 : (decide ((lg_cmp w1 0) = 0)) = true := decide_eq_true (cm_eq9.mp h2)
      exact absurd (Eq.trans (Eq.symm (hb1)) h2) (by decide)
    · have h2 : (decide ((lg_cmp w1 0) = 0)) = false := decide_eq_false (cn_eq.mp h2)
      refine z_rcs hc hH 8 (pc' := 11) (lv' := [(2, .int 2), (1, .int 2), (0, .ref 0)]) (st' := [.int 2, .ref 0]) (μ' := μ) (by rfl) ?_
      refine zq_call hc (z_cx_ok hH (by rfl)) (gc_at d' (by omega) μ 2 (by decide)) (by decide +kernel) (fun r9 μ9 hq => ?_)
      obtain ⟨hμ9, rfl⟩ := hq
      rw [hμ9]
      clear hμ9 μ9
      show Z 0 14 [(2, .int 2), (1, .int 2), (0, .ref 0)] [.ref 34] μ
      refine zq_gfr hc hH (by rfl) (ci := 1) (f := 0) (q := 35) (by rfl) (by decide +kernel) (by rfl) (by decide +kernel) ?_
      refine zq_call hc (z_cx_ok hH (by rfl)) (hw2 _ (TE_rf _) d' (by omega)) (by decide +kernel) (fun r9 μ9 hq => ?_)
      obtain ⟨hμ9, rfl⟩ := hq
      rw [hμ9]
      clear hμ9 μ9
      show Z 0 20 [(2, .int 2), (1, .int 2), (0, .ref 0)] [.long w2] μ
      refine z_rcs hc hH 2 (pc' := 22) (lv' := [(2, .int 2), (1, .int 2), (0, .ref 0)]) (st' := [.int (lg_cmp w2 0)]) (μ' := μ) (by rfl) ?_
      refine zq_if hc hH (by rfl) (tg := 28) (by rfl) (fun h3 => ?_) (fun h3 => ?_)
      · have h3 : (decide ((lg_cmp w2 0) = 0)) = true := decide_eq_true (cm_eq9.mp h3)
        exact absurd (Eq.trans (Eq.symm (hb2)) h3) (by decide)
      · have h3 : (decide ((lg_cmp w2 0) = 0)) = false := decide_eq_false (cn_eq.mp h3)
        refine z_rcs hc hH 8 (pc' := 11) (lv' := [(2, .int 3), (1, .int 3), (0, .ref 0)]) (st' := [.int 3, .ref 0]) (μ' := μ) (by rfl) ?_
        refine zq_call hc (z_cx_ok hH (by rfl)) (gc_at d' (by omega) μ 3 (by decide)) (by decide +kernel) (fun r9 μ9 hq => ?_)
        obtain ⟨hμ9, rfl⟩ := hq
        rw [hμ9]
        clear hμ9 μ9
        show Z 0 14 [(2, .int 3), (1, .int 3), (0, .ref 0)] [.ref 42] μ
        refine zq_gfr hc hH (by rfl) (ci := 1) (f := 0) (q := 43) (by rfl) (by decide +kernel) (by rfl) (by decide +kernel) ?_
        refine zq_call hc (z_cx_ok hH (by rfl)) (hw3 _ (TE_rf _) d' (by omega)) (by decide +kernel) (fun r9 μ9 hq => ?_)
        obtain ⟨hμ9, rfl⟩ := hq
        rw [hμ9]
        clear hμ9 μ9
        show Z 0 20 [(2, .int 3), (1, .int 3), (0, .ref 0)] [.long w3] μ
        refine z_rcs hc hH 2 (pc' := 22) (lv' := [(2, .int 3), (1, .int 3), (0, .ref 0)]) (st' := [.int (lg_cmp w3 0)]) (μ' := μ) (by rfl) ?_
        refine zq_if hc hH (by rfl) (tg := 28) (by rfl) (fun h4 => ?_) (fun h4 => ?_)
        · have h4 : (decide ((lg_cmp w3 0) = 0)) = true := decide_eq_true (cm_eq9.mp h4)
          refine z_rcs hc hH 7 (pc' := 36) (lv' := [(2, .int 4), (1, .int 3), (0, .ref 0)]) (st' := [.ref 0, .ref 0]) (μ' := μ) (by rfl) ?_
          refine zq_gfi hc hH (by rfl) (ci := 5) (f := 9) (by rfl) (by decide +kernel) (by rfl) ?_
          rw [hdl]
          refine zq_call hc (z_cx_ok hH (by rfl)) (gc_at4 d' (by omega) μ dl hdl4) (by decide +kernel) (fun r9 μ9 hq => ?_)
          obtain ⟨hμ9, rfl⟩ := hq
          rw [hμ9]
          clear hμ9 μ9
          show Z 0 42 [(2, .int 4), (1, .int 3), (0, .ref 0)] [.ref (18 + 8 * dl)] μ
          refine zq_gfr hc hH (by rfl) (ci := 1) (f := 0) (q := 19 + 8 * dl) (by rfl) (sj (P := fun i => okf 79 1 0 (18 + 8 * i)) hdl4 (by decide +kernel)) (by rfl) (sj (P := fun i => Nat.beq (z_gr (18 + 8 * i) 0) (19 + 8 * i)) hdl4 (by decide +kernel)) ?_
          refine zq_call hc (z_clv9 hH (by rfl) (by rfl) (by rfl) (by rfl) (sj (P := fun i => okr 79 2 (19 + 8 * i)) hdl4 (by decide +kernel)) (by rfl) (by rfl)) ((hwd _ (TE_rf _) d' (by omega))) (by decide +kernel) (fun r9 μ9 hq => ?_)
          obtain ⟨hμ9, rfl⟩ := hq
          rw [hμ9]
          clear hμ9 μ9
          show Z 0 48 [(2, .int 4), (1, .int 3), (0, .ref 0)] [.long wd] μ
          refine z_rcs hc hH 2 (pc' := 50) (lv' := [(2, .int 4), (1, .int 3), (0, .ref 0)]) (st' := [.int (lg_cmp wd 0)]) (μ' := μ) (by rfl) ?_
          have hJ5 : Z 0 58 [(2, .int 4), (1, .int 3), (0, .ref 0)] [.int (nB (!(decide ((lg_cmp wd 0) = 0))))] μ := by
            refine z_rcs hc hH 23 (pc' := 95) (lv' := [(5, .int 0), (4, .int 3000), (3, .int 1000), (2, .int (nB (!(decide ((lg_cmp wd 0) = 0))))), (1, .int 3), (0, .ref 0)]) (st' := [.int 0, .ref 0]) (μ' := μ) (by rfl) ?_
            refine zq_call hc (z_cx_ok hH (by rfl)) (gc_at d' (by omega) μ 0 (by decide)) (by decide +kernel) (fun r9 μ9 hq => ?_)
            obtain ⟨hμ9, rfl⟩ := hq
            rw [hμ9]
            clear hμ9 μ9
            show Z 0 98 [(5, .int 0), (4, .int 3000), (3, .int 1000), (2, .int (nB (!(decide ((lg_cmp wd 0) = 0))))), (1, .int 3), (0, .ref 0)] [.ref 18] μ
            refine z_rcs hc hH 1 (pc' := 99) (lv' := [(5, .int 0), (4, .int 3000), (3, .int 1000), (2, .int (nB (!(decide ((lg_cmp wd 0) = 0))))), (1, .int 3), (0, .ref 0)]) (st' := [.ref 18, .ref 18]) (μ' := μ) (by rfl) ?_
            refine zq_gfi hc hH (by rfl) (ci := 1) (f := 4) (by rfl) (by decide +kernel) (by rfl) ?_
            refine z_rcs hc hH 2 (pc' := 105) (lv' := [(5, .int 0), (4, .int 3000), (3, .int 1000), (2, .int (nB (!(decide ((lg_cmp wd 0) = 0))))), (1, .int 3), (0, .ref 0)]) (st' := [.int 0, .ref 0, .int (μ.1 18 4), .ref 18]) (μ' := μ) (by rfl) ?_
            refine zq_call hc (z_cx_ok hH (by rfl)) (gc_at d' (by omega) μ 0 (by decide)) (by decide +kernel) (fun r9 μ9 hq => ?_)
            obtain ⟨hμ9, rfl⟩ := hq
            rw [hμ9]
            clear hμ9 μ9
            show Z 0 108 [(5, .int 0), (4, .int 3000), (3, .int 1000), (2, .int (nB (!(decide ((lg_cmp wd 0) = 0))))), (1, .int 3), (0, .ref 0)] [.ref 18, .int (μ.1 18 4), .ref 18] μ
            refine zq_gfr hc hH (by rfl) (ci := 1) (f := 0) (q := 19) (by rfl) (by decide +kernel) (by rfl) (by decide +kernel) ?_
            refine zq_call hc (z_cx_ok hH (by rfl)) (hw0 _ (TE_rf _) d' (by omega)) (by decide +kernel) (fun r9 μ9 hq => ?_)
            obtain ⟨hμ9, rfl⟩ := hq
            rw [hμ9]
            clear hμ9 μ9
            show Z 0 114 [(5, .int 0), (4, .int 3000), (3, .int 1000), (2, .int (nB (!(decide ((lg_cmp wd 0) = 0))))), (1, .int 3), (0, .ref 0)] [.long w0, .int (μ.1 18 4), .ref 18] μ
            refine z_rcs hc hH 2 (pc' := 116) (lv' := [(5, .int 0), (4, .int 3000), (3, .int 1000), (2, .int (nB (!(decide ((lg_cmp wd 0) = 0))))), (1, .int 3), (0, .ref 0)]) (st' := [.int (lg_cmp w0 0), .int (μ.1 18 4), .ref 18]) (μ' := μ) (by rfl) ?_
            refine zq_if hc hH (by rfl) (tg := 123) (by rfl) (fun h6 => ?_) (fun h6 => ?_)
            · have h6 : (decide ((lg_cmp w0 0) = 0)) = true := decide_eq_true (cm_eq9.mp h6)
              exact absurd (Eq.trans (Eq.symm (hb0)) h6) (by decide)
            · have h6 : (decide ((lg_cmp w0 0) = 0)) = false := decide_eq_false (cn_eq.mp h6)
              refine z_rcs hc hH 3 (pc' := 127) (lv' := [(5, .int 0), (4, .int 3000), (3, .int 1000), (2, .int (nB (!(decide ((lg_cmp wd 0) = 0))))), (1, .int 3), (0, .ref 0)]) (st' := [.int ((μ.1 18 4) + 1000), .ref 18]) (μ' := μ) (by rfl) ?_
              refine zq_pfi hc hH (by rfl) (ci := 1) (f := 4) (by rfl) (by decide +kernel) (by rfl) ?_
              show Z 0 130 [(5, .int 0), (4, .int 3000), (3, .int 1000), (2, .int (nB (!(decide ((lg_cmp wd 0) = 0))))), (1, .int 3), (0, .ref 0)] [] (z_ui μ 18 4 ((μ.1 18 4) + 1000))
              refine z_rcs0 hc hH 7 (pc' := 95) (lv' := [(5, .int 1), (4, .int 3000), (3, .int 1000), (2, .int (nB (!(decide ((lg_cmp wd 0) = 0))))), (1, .int 3), (0, .ref 0)]) (st' := [.int 1, .ref 0]) (by rfl) ?_
              refine zq_call hc (z_cx_ok hH (by rfl)) (gc_at d' (by omega) (z_ui μ 18 4 ((μ.1 18 4) + 1000)) 1 (by decide)) (by decide +kernel) (fun r9 μ9 hq => ?_)
              obtain ⟨hμ9, rfl⟩ := hq
              rw [hμ9]
              clear hμ9 μ9
              show Z 0 98 [(5, .int 1), (4, .int 3000), (3, .int 1000), (2, .int (nB (!(decide ((lg_cmp wd 0) = 0))))), (1, .int 3), (0, .ref 0)] [.ref 26] _
              refine z_rcs0 hc hH 1 (pc' := 99) (lv' := [(5, .int 1), (4, .int 3000), (3, .int 1000), (2, .int (nB (!(decide ((lg_cmp wd 0) = 0))))), (1, .int 3), (0, .ref 0)]) (st' := [.ref 26, .ref 26]) (by rfl) ?_
              refine zq_gfi hc hH (by rfl) (ci := 1) (f := 4) (by rfl) (by decide +kernel) (by rfl) ?_
              refine zV1 (Z := Z) (ui_o (by first | decide | omega)) ?_
              refine z_rcs0 hc hH 2 (pc' := 105) (lv' := [(5, .int 1), (4, .int 3000), (3, .int 1000), (2, .int (nB (!(decide ((lg_cmp wd 0) = 0))))), (1, .int 3), (0, .ref 0)]) (st' := [.int 1, .ref 0, .int (μ.1 26 4), .ref 26]) (by rfl) ?_
              refine zq_call hc (z_cx_ok hH (by rfl)) (gc_at d' (by omega) (z_ui μ 18 4 ((μ.1 18 4) + 1000)) 1 (by decide)) (by decide +kernel) (fun r9 μ9 hq => ?_)
              obtain ⟨hμ9, rfl⟩ := hq
              rw [hμ9]
              clear hμ9 μ9
              show Z 0 108 [(5, .int 1), (4, .int 3000), (3, .int 1000), (2, .int (nB (!(decide ((lg_cmp wd 0) = 0))))), (1, .int 3), (0, .ref 0)] [.ref 26, .int (μ.1 26 4), .ref 26] _
              refine zq_gfr hc hH (by rfl) (ci := 1) (f := 0) (q := 27) (by rfl) (by decide +kernel) (by rfl) (by decide +kernel) ?_
              refine zq_call hc (z_cx_ok hH (by rfl)) (hw1 _ (TE_ui (TE_rf _) (by intro i a hi h1 h2; omega)) d' (by omega)) (by decide +kernel) (fun r9 μ9 hq => ?_)
              obtain ⟨hμ9, rfl⟩ := hq
              rw [hμ9]
              clear hμ9 μ9
              show Z 0 114 [(5, .int 1), (4, .int 3000), (3, .int 1000), (2, .int (nB (!(decide ((lg_cmp wd 0) = 0))))), (1, .int 3), (0, .ref 0)] [.long w1, .int (μ.1 26 4), .ref 26] _
              refine z_rcs0 hc hH 2 (pc' := 116) (lv' := [(5, .int 1), (4, .int 3000), (3, .int 1000), (2, .int (nB (!(decide ((lg_cmp wd 0) = 0))))), (1, .int 3), (0, .ref 0)]) (st' := [.int (lg_cmp w1 0), .int (μ.1 26 4), .ref 26]) (by rfl) ?_
              refine zq_if hc hH (by rfl) (tg := 123) (by rfl) (fun h7 => ?_) (fun h7 => ?_)
              · have h7 : (decide ((lg_cmp w1 0) = 0)) = true := decide_eq_true (cm_eq9.mp h7)
                exact absurd (Eq.trans (Eq.symm (hb1)) h7) (by decide)
              · have h7 : (decide ((lg_cmp w1 0) = 0)) = false := decide_eq_false (cn_eq.mp h7)
                refine z_rcs0 hc hH 3 (pc' := 127) (lv' := [(5, .int 1), (4, .int 3000), (3, .int 1000), (2, .int (nB (!(decide ((lg_cmp wd 0) = 0))))), (1, .int 3), (0, .ref 0)]) (st' := [.int ((μ.1 26 4) + 1000), .ref 26]) (by rfl) ?_
                refine zq_pfi hc hH (by rfl) (ci := 1) (f := 4) (by rfl) (by decide +kernel) (by rfl) ?_
                show Z 0 130 [(5, .int 1), (4, .int 3000), (3, .int 1000), (2, .int (nB (!(decide ((lg_cmp wd 0) = 0))))), (1, .int 3), (0, .ref 0)] [] (z_ui (z_ui μ 18 4 ((μ.1 18 4) + 1000)) 26 4 ((μ.1 26 4) + 1000))
                refine z_rcs0 hc hH 7 (pc' := 95) (lv' := [(5, .int 2), (4, .int 3000), (3, .int 1000), (2, .int (nB (!(decide ((lg_cmp wd 0) = 0))))), (1, .int 3), (0, .ref 0)]) (st' := [.int 2, .ref 0]) (by rfl) ?_
                refine zq_call hc (z_cx_ok hH (by rfl)) (gc_at d' (by omega) (z_ui (z_ui μ 18 4 ((μ.1 18 4) + 1000)) 26 4 ((μ.1 26 4) + 1000)) 2 (by decide)) (by decide +kernel) (fun r9 μ9 hq => ?_)
                obtain ⟨hμ9, rfl⟩ := hq
                rw [hμ9]
                clear hμ9 μ9
                show Z 0 98 [(5, .int 2), (4, .int 3000), (3, .int 1000), (2, .int (nB (!(decide ((lg_cmp wd 0) = 0))))), (1, .int 3), (0, .ref 0)] [.ref 34] _
                refine z_rcs0 hc hH 1 (pc' := 99) (lv' := [(5, .int 2), (4, .int 3000), (3, .int 1000), (2, .int (nB (!(decide ((lg_cmp wd 0) = 0))))), (1, .int 3), (0, .ref 0)]) (st' := [.ref 34, .ref 34]) (by rfl) ?_
                refine zq_gfi hc hH (by rfl) (ci := 1) (f := 4) (by rfl) (by decide +kernel) (by rfl) ?_
                refine zV1 (Z := Z) (Eq.trans (ui_o (by first | decide | omega)) (ui_o (by first | decide | omega))) ?_
                refine z_rcs0 hc hH 2 (pc' := 105) (lv' := [(5, .int 2), (4, .int 3000), (3, .int 1000), (2, .int (nB (!(decide ((lg_cmp wd 0) = 0))))), (1, .int 3), (0, .ref 0)]) (st' := [.int 2, .ref 0, .int (μ.1 34 4), .ref 34]) (by rfl) ?_
                refine zq_call hc (z_cx_ok hH (by rfl)) (gc_at d' (by omega) (z_ui (z_ui μ 18 4 ((μ.1 18 4) + 1000)) 26 4 ((μ.1 26 4) + 1000)) 2 (by decide)) (by decide +kernel) (fun r9 μ9 hq => ?_)
                obtain ⟨hμ9, rfl⟩ := hq
                rw [hμ9]
                clear hμ9 μ9
                show Z 0 108 [(5, .int 2), (4, .int 3000), (3, .int 1000), (2, .int (nB (!(decide ((lg_cmp wd 0) = 0))))), (1, .int 3), (0, .ref 0)] [.ref 34, .int (μ.1 34 4), .ref 34] _
                refine zq_gfr hc hH (by rfl) (ci := 1) (f := 0) (q := 35) (by rfl) (by decide +kernel) (by rfl) (by decide +kernel) ?_
                refine zq_call hc (z_cx_ok hH (by rfl)) (hw2 _ (TE_ui (TE_ui (TE_rf _) (by intro i a hi h1 h2; omega)) (by intro i a hi h1 h2; omega)) d' (by omega)) (by decide +kernel) (fun r9 μ9 hq => ?_)
                obtain ⟨hμ9, rfl⟩ := hq
                rw [hμ9]
                clear hμ9 μ9
                show Z 0 114 [(5, .int 2), (4, .int 3000), (3, .int 1000), (2, .int (nB (!(decide ((lg_cmp wd 0) = 0))))), (1, .int 3), (0, .ref 0)] [.long w2, .int (μ.1 34 4), .ref 34] _
                refine z_rcs0 hc hH 2 (pc' := 116) (lv' := [(5, .int 2), (4, .int 3000), (3, .int 1000), (2, .int (nB (!(decide ((lg_cmp wd 0) = 0))))), (1, .int 3), (0, .ref 0)]) (st' := [.int (lg_cmp w2 0), .int (μ.1 34 4), .ref 34]) (by rfl) ?_
                refine zq_if hc hH (by rfl) (tg := 123) (by rfl) (fun h8 => ?_) (fun h8 => ?_)
                · have h8 : (decide ((lg_cmp w2 0) = 0)) = true := decide_eq_true (cm_eq9.mp h8)
                  exact absurd (Eq.trans (Eq.symm (hb2)) h8) (by decide)
                · have h8 : (decide ((lg_cmp w2 0) = 0)) = false := decide_eq_false (cn_eq.mp h8)
                  refine z_rcs0 hc hH 3 (pc' := 127) (lv' := [(5, .int 2), (4, .int 3000), (3, .int 1000), (2, .int (nB (!(decide ((lg_cmp wd 0) = 0))))), (1, .int 3), (0, .ref 0)]) (st' := [.int ((μ.1 34 4) + 1000), .ref 34]) (by rfl) ?_
                  refine zq_pfi hc hH (by rfl) (ci := 1) (f := 4) (by rfl) (by decide +kernel) (by rfl) ?_
                  show Z 0 130 [(5, .int 2), (4, .int 3000), (3, .int 1000), (2, .int (nB (!(decide ((lg_cmp wd 0) = 0))))), (1, .int 3), (0, .ref 0)] [] (z_ui (z_ui (z_ui μ 18 4 ((μ.1 18 4) + 1000)) 26 4 ((μ.1 26 4) + 1000)) 34 4 ((μ.1 34 4) + 1000))
                  refine z_rcs0 hc hH 7 (pc' := 95) (lv' := [(5, .int 3), (4, .int 3000), (3, .int 1000), (2, .int (nB (!(decide ((lg_cmp wd 0) = 0))))), (1, .int 3), (0, .ref 0)]) (st' := [.int 3, .ref 0]) (by rfl) ?_
                  refine zq_call hc (z_cx_ok hH (by rfl)) (gc_at d' (by omega) (z_ui (z_ui (z_ui μ 18 4 ((μ.1 18 4) + 1000)) 26 4 ((μ.1 26 4) + 1000)) 34 4 ((μ.1 34 4) + 1000)) 3 (by decide)) (by decide +kernel) (fun r9 μ9 hq => ?_)
                  obtain ⟨hμ9, rfl⟩ := hq
                  rw [hμ9]
                  clear hμ9 μ9
                  show Z 0 98 [(5, .int 3), (4, .int 3000), (3, .int 1000), (2, .int (nB (!(decide ((lg_cmp wd 0) = 0))))), (1, .int 3), (0, .ref 0)] [.ref 42] _
                  refine z_rcs0 hc hH 1 (pc' := 99) (lv' := [(5, .int 3), (4, .int 3000), (3, .int 1000), (2, .int (nB (!(decide ((lg_cmp wd 0) = 0))))), (1, .int 3), (0, .ref 0)]) (st' := [.ref 42, .ref 42]) (by rfl) ?_
                  refine zq_gfi hc hH (by rfl) (ci := 1) (f := 4) (by rfl) (by decide +kernel) (by rfl) ?_
                  refine zV1 (Z := Z) (Eq.trans (ui_o (by first | decide | omega)) (Eq.trans (ui_o (by first | decide | omega)) (ui_o (by first | decide | omega)))) ?_
                  refine z_rcs0 hc hH 2 (pc' := 105) (lv' := [(5, .int 3), (4, .int 3000), (3, .int 1000), (2, .int (nB (!(decide ((lg_cmp wd 0) = 0))))), (1, .int 3), (0, .ref 0)]) (st' := [.int 3, .ref 0, .int (μ.1 42 4), .ref 42]) (by rfl) ?_
                  refine zq_call hc (z_cx_ok hH (by rfl)) (gc_at d' (by omega) (z_ui (z_ui (z_ui μ 18 4 ((μ.1 18 4) + 1000)) 26 4 ((μ.1 26 4) + 1000)) 34 4 ((μ.1 34 4) + 1000)) 3 (by decide)) (by decide +kernel) (fun r9 μ9 hq => ?_)
                  obtain ⟨hμ9, rfl⟩ := hq
                  rw [hμ9]
                  clear hμ9 μ9
                  show Z 0 108 [(5, .int 3), (4, .int 3000), (3, .int 1000), (2, .int (nB (!(decide ((lg_cmp wd 0) = 0))))), (1, .int 3), (0, .ref 0)] [.ref 42, .int (μ.1 42 4), .ref 42] _
                  refine zq_gfr hc hH (by rfl) (ci := 1) (f := 0) (q := 43) (by rfl) (by decide +kernel) (by rfl) (by decide +kernel) ?_
                  refine zq_call hc (z_cx_ok hH (by rfl)) (hw3 _ (TE_ui (TE_ui (TE_ui (TE_rf _) (by intro i a hi h1 h2; omega)) (by intro i a hi h1 h2; omega)) (by intro i a hi h1 h2; omega)) d' (by omega)) (by decide +kernel) (fun r9 μ9 hq => ?_)
                  obtain ⟨hμ9, rfl⟩ := hq
                  rw [hμ9]
                  clear hμ9 μ9
                  show Z 0 114 [(5, .int 3), (4, .int 3000), (3, .int 1000), (2, .int (nB (!(decide ((lg_cmp wd 0) = 0))))), (1, .int 3), (0, .ref 0)] [.long w3, .int (μ.1 42 4), .ref 42] _
                  refine z_rcs0 hc hH 2 (pc' := 116) (lv' := [(5, .int 3), (4, .int 3000), (3, .int 1000), (2, .int (nB (!(decide ((lg_cmp wd 0) = 0))))), (1, .int 3), (0, .ref 0)]) (st' := [.int (lg_cmp w3 0), .int (μ.1 42 4), .ref 42]) (by rfl) ?_
                  refine zq_if hc hH (by rfl) (tg := 123) (by rfl) (fun h9 => ?_) (fun h9 => ?_)
                  · have h9 : (decide ((lg_cmp w3 0) = 0)) = true := decide_eq_true (cm_eq9.mp h9)
                    refine z_rcs0 hc hH 3 (pc' := 127) (lv' := [(5, .int 3), (4, .int 3000), (3, .int 1000), (2, .int (nB (!(decide ((lg_cmp wd 0) = 0))))), (1, .int 3), (0, .ref 0)]) (st' := [.int ((μ.1 42 4) + (-3000)), .ref 42]) (by rfl) ?_
                    refine zq_pfi hc hH (by rfl) (ci := 1) (f := 4) (by rfl) (by decide +kernel) (by rfl) ?_
                    show Z 0 130 [(5, .int 3), (4, .int 3000), (3, .int 1000), (2, .int (nB (!(decide ((lg_cmp wd 0) = 0))))), (1, .int 3), (0, .ref 0)] [] (z_ui (z_ui (z_ui (z_ui μ 18 4 ((μ.1 18 4) + 1000)) 26 4 ((μ.1 26 4) + 1000)) 34 4 ((μ.1 34 4) + 1000)) 42 4 ((μ.1 42 4) + (-3000)))
                    refine z_rcs0 hc hH 8 (pc' := 139) (lv' := [(5, .int 4), (4, .int 3000), (3, .int 1000), (2, .int (nB (!(decide ((lg_cmp wd 0) = 0))))), (1, .int 3), (0, .ref 0)]) (st' := [.int 0, .int (nB (!(decide ((lg_cmp wd 0) = 0)))), .ref 0]) (by rfl) ?_
                    refine zq_call hc (z_cx_ok hH (by rfl)) (gc_endHandB d' (by omega) (z_ui (z_ui (z_ui (z_ui μ 18 4 ((μ.1 18 4) + 1000)) 26 4 ((μ.1 26 4) + 1000)) 34 4 ((μ.1 34 4) + 1000)) 42 4 ((μ.1 42 4) + (-3000))) (!(decide ((lg_cmp wd 0) = 0))) false dl e (by rw [ui_o (by first | decide | omega), ui_o (by first | decide | omega), ui_o (by first | decide | omega), ui_o (by first | decide | omega)]; exact hdl) hdl4 he) (by decide +kernel) (fun r9 μ9 hq => ?_)
                    obtain ⟨rfl, rfl⟩ := hq
                    show Z 0 142 [(5, .int 4), (4, .int 3000), (3, .int 1000), (2, .int (nB (!(decide ((lg_cmp wd 0) = 0))))), (1, .int 3), (0, .ref 0)] [] (eHB (z_ui (z_ui (z_ui (z_ui μ 18 4 ((μ.1 18 4) + 1000)) 26 4 ((μ.1 26 4) + 1000)) 34 4 ((μ.1 34 4) + 1000)) 42 4 ((μ.1 42 4) + (-3000))) (!(decide ((lg_cmp wd 0) = 0))) false (xBk (z_ui (z_ui (z_ui (z_ui μ 18 4 ((μ.1 18 4) + 1000)) 26 4 ((μ.1 26 4) + 1000)) 34 4 ((μ.1 34 4) + 1000)) 42 4 ((μ.1 42 4) + (-3000)))) dl e (rcM (z_ui (z_ui (z_ui (z_ui μ 18 4 ((μ.1 18 4) + 1000)) 26 4 ((μ.1 26 4) + 1000)) 34 4 ((μ.1 34 4) + 1000)) 42 4 ((μ.1 42 4) + (-3000)))))
                    exact hr 0 142 _ _ _ none (by decide +kernel) (by rfl) (⟨rfl, rfl⟩)
                  · have h9 : (decide ((lg_cmp w3 0) = 0)) = false := decide_eq_false (cn_eq.mp h9)
                    exact absurd (Eq.trans (Eq.symm (hb3)) h9) (by decide)
          refine zq_if hc hH (by rfl) (tg := 57) (by rfl) (fun h10 => ?_) (fun h10 => ?_)
          · have h10 : (decide ((lg_cmp wd 0) = 0)) = true := decide_eq_true (cm_eq9.mp h10)
            refine z_rcs hc hH 1 (pc' := 58) (lv' := [(2, .int 4), (1, .int 3), (0, .ref 0)]) (st' := [.int 0]) (μ' := μ) (by rfl) ?_
            exact zJ hJ5 rfl (by first | with_reducible rfl | (simp only [h10, lb_f, Int64.or_zero, Int32.add_zero, nB_t, nB_f, Bool.not_true, Bool.not_false, Bool.and_true, Bool.true_and, Bool.false_and, Bool.and_false, Bool.or_true, Bool.true_or, Bool.false_or, Bool.or_false, cond_true, cond_false]; done) | rfl) rfl
          · have h10 : (decide ((lg_cmp wd 0) = 0)) = false := decide_eq_false (cn_eq.mp h10)
            refine z_rcs hc hH 2 (pc' := 58) (lv' := [(2, .int 4), (1, .int 3), (0, .ref 0)]) (st' := [.int 1]) (μ' := μ) (by rfl) ?_
            exact zJ hJ5 rfl (by first | with_reducible rfl | (simp only [h10, lb_f, Int64.or_zero, Int32.add_zero, nB_t, nB_f, Bool.not_true, Bool.not_false, Bool.and_true, Bool.true_and, Bool.false_and, Bool.and_false, Bool.or_true, Bool.true_or, Bool.false_or, Bool.or_false, cond_true, cond_false]; done) | rfl) rfl
        · have h4 : (decide ((lg_cmp w3 0) = 0)) = false := decide_eq_false (cn_eq.mp h4)
          exact absurd (Eq.trans (Eq.symm (hb3)) h4) (by decide)
theorem gc_endUnwon1111 (d : Nat) (hd : 8 ≤ d) (μ : zM) (dl e : Nat) (hdl : μ.1 0 9 = nI dl) (hdl4 : dl < 4) (he : (dl + 1) % 4 = e) (w0 : Int64) (hw0 : ∀ μ1, TE μ μ1 → ∀ d, 7 ≤ d → z_C d mi_X3_waiting [.ref 19] μ1 (zR μ1 (.long w0))) (w1 : Int64) (hw1 : ∀ μ1, TE μ μ1 → ∀ d, 7 ≤ d → z_C d mi_X3_waiting [.ref 27] μ1 (zR μ1 (.long w1))) (w2 : Int64) (hw2 : ∀ μ1, TE μ μ1 → ∀ d, 7 ≤ d → z_C d mi_X3_waiting [.ref 35] μ1 (zR μ1 (.long w2))) (w3 : Int64) (hw3 : ∀ μ1, TE μ μ1 → ∀ d, 7 ≤ d → z_C d mi_X3_waiting [.ref 43] μ1 (zR μ1 (.long w3))) (wd : Int64) (hwd : ∀ μ1, TE μ μ1 → ∀ d, 7 ≤ d → z_C d mi_X3_waiting [.ref (19 + 8 * dl)] μ1 (zR μ1 (.long wd))) (hb0 : decide (lg_cmp w0 0 = 0) = false) (hb1 : decide (lg_cmp w1 0 = 0) = false) (hb2 : decide (lg_cmp w2 0 = 0) = false) (hb3 : decide (lg_cmp w3 0 = 0) = false) : z_C d mi_X6_endUnwon [.ref 0] μ (fun r μ' => r = none ∧ μ' = eHB μ (!(decide ((lg_cmp wd 0) = 0))) false (xBk μ) dl e (rcM μ)) := by
  refine z_C_in (by decide) (by omega) (fun d' Z ed hc hr => ?_)
  have hH : zH mi_X6_endUnwon zt_X6_endUnwon 79 6 6 := hh_X6_endUnwon
  refine z_rcs hc hH 9 (pc' := 11) (lv' := [(2, .int 0), (1, .int 0), (0, .ref 0)]) (st' := [.int 0, .ref 0]) (μ' := μ) (by rfl) ?_
  refine zq_call hc (z_cx_ok hH (by rfl)) (gc_at d' (by omega) μ 0 (by decide)) (by decide +kernel) (fun r9 μ9 hq => ?_)
  obtain ⟨hμ9, rfl⟩ := hq
  rw [hμ9]
  clear hμ9 μ9
  show Z 0 14 [(2, .int 0), (1, .int 0), (0, .ref 0)] [.ref 18] μ
  refine zq_gfr hc hH (by rfl) (ci := 1) (f := 0) (q := 19) (by rfl) (by decide +kernel) (by rfl) (by decide +kernel) ?_
  refine zq_call hc (z_cx_ok hH (by rfl)) (hw0 _ (TE_rf _) d' (by omega)) (by decide +kernel) (fun r9 μ9 hq => ?_)
  obtain ⟨hμ9, rfl⟩ := hq
  rw [hμ9]
  clear hμ9 μ9
  show Z 0 20 [(2, .int 0), (1, .int 0), (0, .ref 0)] [.long w0] μ
  refine z_rcs hc hH 2 (pc' := 22) (lv' := [(2, .int 0), (1, .int 0), (0, .ref 0)]) (st' := [.int (lg_cmp w0 0)]) (μ' := μ) (by rfl) ?_
  refine zq_if hc hH (by rfl) (tg := 28) (by rfl) (fun h1 => ?_) (fun h1 => ?_)
  · have h1 : (decide ((lg_cmp w0 0) = 0)) = true := decide_eq_true (cm_eq9.mp h1)
    exact absurd (Eq.trans (Eq.symm (hb0)) h1) (by decide)
  · have h1 : (decide ((lg_cmp w0 0) = 0)) = false := decide_eq_false (cn_eq.mp h1)
    refine z_rcs hc hH 8 (pc' := 11) (lv' := [(2, .int 1), (1, .int 1), (0, .ref 0)]) (st' := [.int 1, .ref 0]) (μ' := μ) (by rfl) ?_
    refine zq_call hc (z_cx_ok hH (by rfl)) (gc_at d' (by omega) μ 1 (by decide)) (by decide +kernel) (fun r9 μ9 hq => ?_)
    obtain ⟨hμ9, rfl⟩ := hq
    rw [hμ9]
    clear hμ9 μ9
    show Z 0 14 [(2, .int 1), (1, .int 1), (0, .ref 0)] [.ref 26] μ
    refine zq_gfr hc hH (by rfl) (ci := 1) (f := 0) (q := 27) (by rfl) (by decide +kernel) (by rfl) (by decide +kernel) ?_
    refine zq_call hc (z_cx_ok hH (by rfl)) (hw1 _ (TE_rf _) d' (by omega)) (by decide +kernel) (fun r9 μ9 hq => ?_)
    obtain ⟨hμ9, rfl⟩ := hq
    rw [hμ9]
    clear hμ9 μ9
    show Z 0 20 [(2, .int 1), (1, .int 1), (0, .ref 0)] [.long w1] μ
    refine z_rcs hc hH 2 (pc' := 22) (lv' := [(2, .int 1), (1, .int 1), (0, .ref 0)]) (st' := [.int (lg_cmp w1 0)]) (μ' := μ) (by rfl) ?_
    refine zq_if hc hH (by rfl) (tg := 28) (by rfl) (fun h2 => ?_) (fun h2 => ?_)
    · have h2 : (decide ((lg_cmp w1 0) = 0)) = true := decide_eq_true (cm_eq9.mp h2)
      exact absurd (Eq.trans (Eq.symm (hb1)) h2) (by decide)
    · have h2 : (decide ((lg_cmp w1 0) = 0)) = false := decide_eq_false (cn_eq.mp h2)
      refine z_rcs hc hH 8 (pc' := 11) (lv' := [(2, .int 2), (1, .int 2), (0, .ref 0)]) (st' := [.int 2, .ref 0]) (μ' := μ) (by rfl) ?_
      refine zq_call hc (z_cx_ok hH (by rfl)) (gc_at d' (by omega) μ 2 (by decide)) (by decide +kernel) (fun r9 μ9 hq => ?_)
      obtain ⟨hμ9, rfl⟩ := hq
      rw [hμ9]
      clear hμ9 μ9
      show Z 0 14 [(2, .int 2), (1, .int 2), (0, .ref 0)] [.ref 34] μ
      refine zq_gfr hc hH (by rfl) (ci := 1) (f := 0) (q := 35) (by rfl) (by decide +kernel) (by rfl) (by decide +kernel) ?_
      refine zq_call hc (z_cx_ok hH (by rfl)) (hw2 _ (TE_rf _) d' (by omega)) (by decide +kernel) (fun r9 μ9 hq => ?_)
      obtain ⟨hμ9, rfl⟩ := hq
      rw [hμ9]
      clear hμ9 μ9
      show Z 0 20 [(2, .int 2), (1, .int 2), (0, .ref 0)] [.long w2] μ
      refine z_rcs hc hH 2 (pc' := 22) (lv' := [(2, .int 2), (1, .int 2), (0, .ref 0)]) (st' := [.int (lg_cmp w2 0)]) (μ' := μ) (by rfl) ?_
      refine zq_if hc hH (by rfl) (tg := 28) (by rfl) (fun h3 => ?_) (fun h3 => ?_)
      · have h3 : (decide ((lg_cmp w2 0) = 0)) = true := decide_eq_true (cm_eq9.mp h3)
        exact absurd (Eq.trans (Eq.symm (hb2)) h3) (by decide)
      · have h3 : (decide ((lg_cmp w2 0) = 0)) = false := decide_eq_false (cn_eq.mp h3)
        refine z_rcs hc hH 8 (pc' := 11) (lv' := [(2, .int 3), (1, .int 3), (0, .ref 0)]) (st' := [.int 3, .ref 0]) (μ' := μ) (by rfl) ?_
        refine zq_call hc (z_cx_ok hH (by rfl)) (gc_at d' (by omega) μ 3 (by decide)) (by decide +kernel) (fun r9 μ9 hq => ?_)
        obtain ⟨hμ9, rfl⟩ := hq
        rw [hμ9]
        clear hμ9 μ9
        show Z 0 14 [(2, .int 3), (1, .int 3), (0, .ref 0)] [.ref 42] μ
        refine zq_gfr hc hH (by rfl) (ci := 1) (f := 0) (q := 43) (by rfl) (by decide +kernel) (by rfl) (by decide +kernel) ?_
        refine zq_call hc (z_cx_ok hH (by rfl)) (hw3 _ (TE_rf _) d' (by omega)) (by decide +kernel) (fun r9 μ9 hq => ?_)
        obtain ⟨hμ9, rfl⟩ := hq
        rw [hμ9]
        clear hμ9 μ9
        show Z 0 20 [(2, .int 3), (1, .int 3), (0, .ref 0)] [.long w3] μ
        refine z_rcs hc hH 2 (pc' := 22) (lv' := [(2, .int 3), (1, .int 3), (0, .ref 0)]) (st' := [.int (lg_cmp w3 0)]) (μ' := μ) (by rfl) ?_
        refine zq_if hc hH (by rfl) (tg := 28) (by rfl) (fun h4 => ?_) (fun h4 => ?_)
        · have h4 : (decide ((lg_cmp w3 0) = 0)) = true := decide_eq_true (cm_eq9.mp h4)
          exact absurd (Eq.trans (Eq.symm (hb3)) h4) (by decide)
        · have h4 : (decide ((lg_cmp w3 0) = 0)) = false := decide_eq_false (cn_eq.mp h4)
          refine z_rcs hc hH 8 (pc' := 36) (lv' := [(2, .int 4), (1, .int 4), (0, .ref 0)]) (st' := [.ref 0, .ref 0]) (μ' := μ) (by rfl) ?_
          refine zq_gfi hc hH (by rfl) (ci := 5) (f := 9) (by rfl) (by decide +kernel) (by rfl) ?_
          rw [hdl]
          refine zq_call hc (z_cx_ok hH (by rfl)) (gc_at4 d' (by omega) μ dl hdl4) (by decide +kernel) (fun r9 μ9 hq => ?_)
          obtain ⟨hμ9, rfl⟩ := hq
          rw [hμ9]
          clear hμ9 μ9
          show Z 0 42 [(2, .int 4), (1, .int 4), (0, .ref 0)] [.ref (18 + 8 * dl)] μ
          refine zq_gfr hc hH (by rfl) (ci := 1) (f := 0) (q := 19 + 8 * dl) (by rfl) (sj (P := fun i => okf 79 1 0 (18 + 8 * i)) hdl4 (by decide +kernel)) (by rfl) (sj (P := fun i => Nat.beq (z_gr (18 + 8 * i) 0) (19 + 8 * i)) hdl4 (by decide +kernel)) ?_
          refine zq_call hc (z_clv9 hH (by rfl) (by rfl) (by rfl) (by rfl) (sj (P := fun i => okr 79 2 (19 + 8 * i)) hdl4 (by decide +kernel)) (by rfl) (by rfl)) ((hwd _ (TE_rf _) d' (by omega))) (by decide +kernel) (fun r9 μ9 hq => ?_)
          obtain ⟨hμ9, rfl⟩ := hq
          rw [hμ9]
          clear hμ9 μ9
          show Z 0 48 [(2, .int 4), (1, .int 4), (0, .ref 0)] [.long wd] μ
          refine z_rcs hc hH 2 (pc' := 50) (lv' := [(2, .int 4), (1, .int 4), (0, .ref 0)]) (st' := [.int (lg_cmp wd 0)]) (μ' := μ) (by rfl) ?_
          have hJ5 : Z 0 58 [(2, .int 4), (1, .int 4), (0, .ref 0)] [.int (nB (!(decide ((lg_cmp wd 0) = 0))))] μ := by
            refine z_rcs hc hH 9 (pc' := 139) (lv' := [(2, .int (nB (!(decide ((lg_cmp wd 0) = 0))))), (1, .int 4), (0, .ref 0)]) (st' := [.int 0, .int (nB (!(decide ((lg_cmp wd 0) = 0)))), .ref 0]) (μ' := μ) (by rfl) ?_
            refine zq_call hc (z_cx_ok hH (by rfl)) (gc_endHandB d' (by omega) μ (!(decide ((lg_cmp wd 0) = 0))) false dl e hdl hdl4 he) (by decide +kernel) (fun r9 μ9 hq => ?_)
            obtain ⟨rfl, rfl⟩ := hq
            show Z 0 142 [(2, .int (nB (!(decide ((lg_cmp wd 0) = 0))))), (1, .int 4), (0, .ref 0)] [] (eHB μ (!(decide ((lg_cmp wd 0) = 0))) false (xBk μ) dl e (rcM μ))
            exact hr 0 142 _ _ _ none (by decide +kernel) (by rfl) (⟨rfl, rfl⟩)
          refine zq_if hc hH (by rfl) (tg := 57) (by rfl) (fun h6 => ?_) (fun h6 => ?_)
          · have h6 : (decide ((lg_cmp wd 0) = 0)) = true := decide_eq_true (cm_eq9.mp h6)
            refine z_rcs hc hH 1 (pc' := 58) (lv' := [(2, .int 4), (1, .int 4), (0, .ref 0)]) (st' := [.int 0]) (μ' := μ) (by rfl) ?_
            exact zJ hJ5 rfl (by first | with_reducible rfl | (simp only [h6, lb_f, Int64.or_zero, Int32.add_zero, nB_t, nB_f, Bool.not_true, Bool.not_false, Bool.and_true, Bool.true_and, Bool.false_and, Bool.and_false, Bool.or_true, Bool.true_or, Bool.false_or, Bool.or_false, cond_true, cond_false]; done) | rfl) rfl
          · have h6 : (decide ((lg_cmp wd 0) = 0)) = false := decide_eq_false (cn_eq.mp h6)
            refine z_rcs hc hH 2 (pc' := 58) (lv' := [(2, .int 4), (1, .int 4), (0, .ref 0)]) (st' := [.int 1]) (μ' := μ) (by rfl) ?_
            exact zJ hJ5 rfl (by first | with_reducible rfl | (simp only [h6, lb_f, Int64.or_zero, Int32.add_zero, nB_t, nB_f, Bool.not_true, Bool.not_false, Bool.and_true, Bool.true_and, Bool.false_and, Bool.and_false, Bool.or_true, Bool.true_or, Bool.false_or, Bool.or_false, cond_true, cond_false]; done) | rfl) rfl

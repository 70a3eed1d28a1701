/-! the game: drawing, throwing, exactly -/
set_option maxRecDepth 8000
theorem pS_o {μ : zM} {j k r k' : Nat} {n : Int32} (h : r ≠ 19 + 8 * j ∧ r ≠ 20 + 8 * j ∧ r ≠ 21 + 8 * j) : (pS μ j k n).1 r k' = μ.1 r k' := by
  unfold pS
  rw [ui_o h.1, ui_o h.2.2, ui_o h.2.1]
theorem pS_j {μ : zM} {j k r k' : Nat} {n : Int32} : (pS μ j k n).2.1 r k' = μ.2.1 r k' := rfl
theorem nI_s1 (n : Nat) : nI n + 1 = nI (n + 1) := by rw [show (1 : Int32) = nI 1 from rfl, nI_add]
theorem nI_p1 (n : Nat) : nI (n + 1) - 1 = nI n := by rw [← nI_s1, Int32.add_sub_cancel]
theorem nI_122 (n : Nat) : 122 + nI n = nI (122 + n) := by rw [show (122 : Int32) = nI 122 from rfl, nI_add]
theorem gc_draw (d : Nat) (hd : 2 ≤ d) (μ : zM) (n : Nat) (hn2 : n < 136) (hn : μ.1 2 2 = nI n) (h1 : μ.1 2 1 = 1) : z_C d mi_X4_draw [.ref 2] μ (fun r μ' => r = some (.int (μ.1 3 n)) ∧ μ' = z_ui μ 2 2 (nI (n + 1))) := by
  refine z_C_in (by decide) (by omega) (fun d' Z ed hc hr => ?_)
  have hH : zH mi_X4_draw zc_X4_draw 79 4 1 := ⟨by rfl, by rfl, by rfl, by rfl⟩
  refine z_rcs hc hH 2 (pc' := 2) (lv' := [(0, .ref 2)]) (st' := [.ref 2, .ref 2]) (μ' := μ) (by rfl) ?_
  refine zq_gfi hc hH (by rfl) (ci := 3) (f := 2) (by rfl) (by decide +kernel) (by rfl) ?_
  rw [hn]
  refine z_rcs hc hH 2 (pc' := 7) (lv' := [(0, .ref 2)]) (st' := [.int ((nI n) + 1), .ref 2]) (μ' := μ) (by rfl) ?_
  rw [nI_s1]
  refine zq_pfi hc hH (by rfl) (ci := 3) (f := 2) (by rfl) (by decide +kernel) (by rfl) ?_
  show Z 0 10 [(0, .ref 2)] [] (z_ui μ 2 2 (nI (n + 1)))
  refine z_rcs hc hH 2 (pc' := 12) (lv' := [(0, .ref 2)]) (st' := [.ref 2, .ref 2]) (μ' := z_ui μ 2 2 (nI (n + 1))) (by rfl) ?_
  refine zq_gfi hc hH (by rfl) (ci := 3) (f := 2) (by rfl) (by decide +kernel) (by rfl) ?_
  rw [ui_s]
  refine z_rcs hc hH 2 (pc' := 17) (lv' := [(0, .ref 2)]) (st' := [.int ((nI (n + 1)) - 1), .ref 2]) (μ' := z_ui μ 2 2 (nI (n + 1))) (by rfl) ?_
  rw [nI_p1]
  refine zq_call hc (by rfl) (gc_kindAtN d' (by omega) (z_ui μ 2 2 (nI (n + 1))) n (by omega) (by rw [ui_k (by omega)]; exact h1)) (by decide +kernel) (fun r9 μ9 hq => ?_)
  obtain ⟨hμ9, rfl⟩ := hq
  rw [hμ9]
  clear hμ9 μ9
  rw [ui_o (by omega)]
  show Z 0 20 [(0, .ref 2)] [.int (μ.1 3 n)] (z_ui μ 2 2 (nI (n + 1)))
  exact hr 0 20 _ _ _ (some (.int (μ.1 3 n))) (by decide +kernel) (by rfl) (⟨rfl, rfl⟩)
theorem gc_drawB (d : Nat) (hd : 2 ≤ d) (μ : zM) (n : Nat) (hn2 : n < 14) (hn : μ.1 2 3 = nI n) (h1 : μ.1 2 1 = 1) : z_C d mi_X4_drawBehindFour [.ref 2] μ (fun r μ' => r = some (.int (μ.1 3 (122 + n))) ∧ μ' = z_ui μ 2 3 (nI (n + 1))) := by
  refine z_C_in (by decide) (by omega) (fun d' Z ed hc hr => ?_)
  have hH : zH mi_X4_drawBehindFour zc_X4_drawBehindFour 79 4 1 := ⟨by rfl, by rfl, by rfl, by rfl⟩
  refine z_rcs hc hH 2 (pc' := 2) (lv' := [(0, .ref 2)]) (st' := [.ref 2, .ref 2]) (μ' := μ) (by rfl) ?_
  refine zq_gfi hc hH (by rfl) (ci := 3) (f := 3) (by rfl) (by decide +kernel) (by rfl) ?_
  rw [hn]
  refine z_rcs hc hH 2 (pc' := 7) (lv' := [(0, .ref 2)]) (st' := [.int ((nI n) + 1), .ref 2]) (μ' := μ) (by rfl) ?_
  rw [nI_s1]
  refine zq_pfi hc hH (by rfl) (ci := 3) (f := 3) (by rfl) (by decide +kernel) (by rfl) ?_
  show Z 0 10 [(0, .ref 2)] [] (z_ui μ 2 3 (nI (n + 1)))
  refine z_rcs hc hH 3 (pc' := 14) (lv' := [(0, .ref 2)]) (st' := [.ref 2, .int 122, .ref 2]) (μ' := z_ui μ 2 3 (nI (n + 1))) (by rfl) ?_
  refine zq_gfi hc hH (by rfl) (ci := 3) (f := 3) (by rfl) (by decide +kernel) (by rfl) ?_
  rw [ui_s]
  refine z_rcs hc hH 1 (pc' := 18) (lv' := [(0, .ref 2)]) (st' := [.int (122 + (nI (n + 1))), .ref 2]) (μ' := z_ui μ 2 3 (nI (n + 1))) (by rfl) ?_
  rw [nI_122]
  refine z_rcs hc hH 2 (pc' := 20) (lv' := [(0, .ref 2)]) (st' := [.int ((nI (122 + (n + 1))) - 1), .ref 2]) (μ' := z_ui μ 2 3 (nI (n + 1))) (by rfl) ?_
  rw [show nI (122 + (n + 1)) - 1 = nI (122 + n) from nI_p1 (122 + n)]
  refine zq_call hc (by rfl) (gc_kindAtN d' (by omega) (z_ui μ 2 3 (nI (n + 1))) (122 + n) (by omega) (by rw [ui_k (by omega)]; exact h1)) (by decide +kernel) (fun r9 μ9 hq => ?_)
  obtain ⟨hμ9, rfl⟩ := hq
  rw [hμ9]
  clear hμ9 μ9
  rw [ui_o (by omega)]
  show Z 0 23 [(0, .ref 2)] [.int (μ.1 3 (122 + n))] (z_ui μ 2 3 (nI (n + 1)))
  exact hr 0 23 _ _ _ (some (.int (μ.1 3 (122 + n)))) (by decide +kernel) (by rfl) (⟨rfl, rfl⟩)
def bkH (μ : zM) : zM := z_ui (z_ui (z_ui (z_ui (z_ui μ 0 17 1) 18 7 0) 26 7 0) 34 7 0) 42 7 0
theorem gc_breakHand (d : Nat) (hd : 2 ≤ d) (μ : zM) : z_C d mi_X6_breakHand [.ref 0] μ (fun r μ' => r = none ∧ μ' = bkH μ ) := by
  refine z_C_in (by decide) (by omega) (fun d' Z ed hc hr => ?_)
  have hH : zH mi_X6_breakHand zc_X6_breakHand 79 6 2 := ⟨by rfl, by rfl, by rfl, by rfl⟩
  refine z_rcs hc hH 2 (pc' := 2) (lv' := [(0, .ref 0)]) (st' := [.int 1, .ref 0]) (μ' := μ) (by rfl) ?_
  refine zq_pfb hc hH (by rfl) (ci := 5) (f := 17) (by rfl) (by decide +kernel) (by rfl) (by decide) ?_
  show Z 0 5 [(0, .ref 0)] [] (z_ui μ 0 17 1)
  refine z_rcs hc hH 7 (pc' := 14) (lv' := [(1, .int 0), (0, .ref 0)]) (st' := [.int 0, .ref 0]) (μ' := z_ui μ 0 17 1) (by rfl) ?_
  refine zq_call hc (by rfl) (gc_at d' (by omega) (z_ui μ 0 17 1) 0 (by decide)) (by decide +kernel) (fun r9 μ9 hq => ?_)
  obtain ⟨hμ9, rfl⟩ := hq
  rw [hμ9]
  clear hμ9 μ9
  show Z 0 17 [(1, .int 0), (0, .ref 0)] [.ref 18] (z_ui μ 0 17 1)
  refine z_rcs hc hH 1 (pc' := 18) (lv' := [(1, .int 0), (0, .ref 0)]) (st' := [.int 0, .ref 18]) (μ' := z_ui μ 0 17 1) (by rfl) ?_
  refine zq_pfb hc hH (by rfl) (ci := 1) (f := 7) (by rfl) (by decide +kernel) (by rfl) (by decide) ?_
  show Z 0 21 [(1, .int 0), (0, .ref 0)] [] (z_ui (z_ui μ 0 17 1) 18 7 0)
  refine z_rcs hc hH 7 (pc' := 14) (lv' := [(1, .int 1), (0, .ref 0)]) (st' := [.int 1, .ref 0]) (μ' := z_ui (z_ui μ 0 17 1) 18 7 0) (by rfl) ?_
  refine zq_call hc (by rfl) (gc_at d' (by omega) (z_ui (z_ui μ 0 17 1) 18 7 0) 1 (by decide)) (by decide +kernel) (fun r9 μ9 hq => ?_)
  obtain ⟨hμ9, rfl⟩ := hq
  rw [hμ9]
  clear hμ9 μ9
  show Z 0 17 [(1, .int 1), (0, .ref 0)] [.ref 26] (z_ui (z_ui μ 0 17 1) 18 7 0)
  refine z_rcs hc hH 1 (pc' := 18) (lv' := [(1, .int 1), (0, .ref 0)]) (st' := [.int 0, .ref 26]) (μ' := z_ui (z_ui μ 0 17 1) 18 7 0) (by rfl) ?_
  refine zq_pfb hc hH (by rfl) (ci := 1) (f := 7) (by rfl) (by decide +kernel) (by rfl) (by decide) ?_
  show Z 0 21 [(1, .int 1), (0, .ref 0)] [] (z_ui (z_ui (z_ui μ 0 17 1) 18 7 0) 26 7 0)
  refine z_rcs hc hH 7 (pc' := 14) (lv' := [(1, .int 2), (0, .ref 0)]) (st' := [.int 2, .ref 0]) (μ' := z_ui (z_ui (z_ui μ 0 17 1) 18 7 0) 26 7 0) (by rfl) ?_
  refine zq_call hc (by rfl) (gc_at d' (by omega) (z_ui (z_ui (z_ui μ 0 17 1) 18 7 0) 26 7 0) 2 (by decide)) (by decide +kernel) (fun r9 μ9 hq => ?_)
  obtain ⟨hμ9, rfl⟩ := hq
  rw [hμ9]
  clear hμ9 μ9
  show Z 0 17 [(1, .int 2), (0, .ref 0)] [.ref 34] (z_ui (z_ui (z_ui μ 0 17 1) 18 7 0) 26 7 0)
  refine z_rcs hc hH 1 (pc' := 18) (lv' := [(1, .int 2), (0, .ref 0)]) (st' := [.int 0, .ref 34]) (μ' := z_ui (z_ui (z_ui μ 0 17 1) 18 7 0) 26 7 0) (by rfl) ?_
  refine zq_pfb hc hH (by rfl) (ci := 1) (f := 7) (by rfl) (by decide +kernel) (by rfl) (by decide) ?_
  show Z 0 21 [(1, .int 2), (0, .ref 0)] [] (z_ui (z_ui (z_ui (z_ui μ 0 17 1) 18 7 0) 26 7 0) 34 7 0)
  refine z_rcs hc hH 7 (pc' := 14) (lv' := [(1, .int 3), (0, .ref 0)]) (st' := [.int 3, .ref 0]) (μ' := z_ui (z_ui (z_ui (z_ui μ 0 17 1) 18 7 0) 26 7 0) 34 7 0) (by rfl) ?_
  refine zq_call hc (by rfl) (gc_at d' (by omega) (z_ui (z_ui (z_ui (z_ui μ 0 17 1) 18 7 0) 26 7 0) 34 7 0) 3 (by decide)) (by decide +kernel) (fun r9 μ9 hq => ?_)
  obtain ⟨hμ9, rfl⟩ := hq
  rw [hμ9]
  clear hμ9 μ9
  show Z 0 17 [(1, .int 3), (0, .ref 0)] [.ref 42] (z_ui (z_ui (z_ui (z_ui μ 0 17 1) 18 7 0) 26 7 0) 34 7 0)
  refine z_rcs hc hH 1 (pc' := 18) (lv' := [(1, .int 3), (0, .ref 0)]) (st' := [.int 0, .ref 42]) (μ' := z_ui (z_ui (z_ui (z_ui μ 0 17 1) 18 7 0) 26 7 0) 34 7 0) (by rfl) ?_
  refine zq_pfb hc hH (by rfl) (ci := 1) (f := 7) (by rfl) (by decide +kernel) (by rfl) (by decide) ?_
  show Z 0 21 [(1, .int 3), (0, .ref 0)] [] (z_ui (z_ui (z_ui (z_ui (z_ui μ 0 17 1) 18 7 0) 26 7 0) 34 7 0) 42 7 0)
  refine z_rcs hc hH 5 (pc' := 27) (lv' := [(1, .int 4), (0, .ref 0)]) (st' := []) (μ' := z_ui (z_ui (z_ui (z_ui (z_ui μ 0 17 1) 18 7 0) 26 7 0) 34 7 0) 42 7 0) (by rfl) ?_
  exact hr 0 27 _ _ _ none (by decide +kernel) (by rfl) (⟨rfl, rfl⟩)
def dT0 (μ : zM) (t n k : Nat) : zM := (bif decide ((μ.1 (18 + 8 * t) 5) = 0) then z_ui (pS (z_ui (z_ui (z_uj (z_ui (z_ui (z_ui μ 0 8 (nI t)) 0 7 1) 0 16 0) 0 18 0) 2 2 (nI (n + 1))) 0 15 (nI k)) t k 1) (18 + 8 * t) 8 0 else pS (z_ui (z_ui (z_uj (z_ui (z_ui (z_ui μ 0 8 (nI t)) 0 7 1) 0 16 0) 0 18 0) 2 2 (nI (n + 1))) 0 15 (nI k)) t k 1)
theorem gc_drawTile0 (d : Nat) (hd : 4 ≤ d) (μ : zM) (s t n k : Nat) (hs : s < 2147483648) (ht4 : t < 4) (hst : s % 4 = t) (hn2 : n < 136) (hn : μ.1 2 2 = nI n) (h1 : μ.1 2 1 = 1) (hk : k < 34) (hkk : μ.1 3 n = nI k) : z_C d mi_X6_drawTile [.ref 0, .int (nI s), .int 0] μ (fun r μ' => r = none ∧ μ' = dT0 μ t n k) := by
  refine z_C_in (by decide) (by omega) (fun d' Z ed hc hr => ?_)
  have hH : zH mi_X6_drawTile zc_X6_drawTile 79 6 4 := ⟨by rfl, by rfl, by rfl, by rfl⟩
  refine z_rcs hc hH 4 (pc' := 4) (lv' := [(0, .ref 0), (1, .int (nI s)), (2, .int 0)]) (st' := [.int ((nI s) &&& 3), .ref 0]) (μ' := μ) (by rfl) ?_
  rw [show nI s &&& 3 = nI t from by rw [and3 hs, hst]]
  refine zq_pfi hc hH (by rfl) (ci := 5) (f := 8) (by rfl) (by decide +kernel) (by rfl) ?_
  show Z 0 7 [(0, .ref 0), (1, .int (nI s)), (2, .int 0)] [] (z_ui μ 0 8 (nI t))
  refine z_rcs hc hH 2 (pc' := 9) (lv' := [(0, .ref 0), (1, .int (nI s)), (2, .int 0)]) (st' := [.int 1, .ref 0]) (μ' := z_ui μ 0 8 (nI t)) (by rfl) ?_
  refine zq_pfi hc hH (by rfl) (ci := 5) (f := 7) (by rfl) (by decide +kernel) (by rfl) ?_
  show Z 0 12 [(0, .ref 0), (1, .int (nI s)), (2, .int 0)] [] (z_ui (z_ui μ 0 8 (nI t)) 0 7 1)
  refine z_rcs hc hH 2 (pc' := 14) (lv' := [(0, .ref 0), (1, .int (nI s)), (2, .int 0)]) (st' := [.int 0, .ref 0]) (μ' := z_ui (z_ui μ 0 8 (nI t)) 0 7 1) (by rfl) ?_
  refine zq_pfb hc hH (by rfl) (ci := 5) (f := 16) (by rfl) (by decide +kernel) (by rfl) (by decide) ?_
  show Z 0 17 [(0, .ref 0), (1, .int (nI s)), (2, .int 0)] [] (z_ui (z_ui (z_ui μ 0 8 (nI t)) 0 7 1) 0 16 0)
  refine z_rcs hc hH 2 (pc' := 19) (lv' := [(0, .ref 0), (1, .int (nI s)), (2, .int 0)]) (st' := [.long 0, .ref 0]) (μ' := z_ui (z_ui (z_ui μ 0 8 (nI t)) 0 7 1) 0 16 0) (by rfl) ?_
  refine zq_pfl hc hH (by rfl) (ci := 5) (f := 18) (by rfl) (by decide +kernel) (by rfl) ?_
  show Z 0 22 [(0, .ref 0), (1, .int (nI s)), (2, .int 0)] [] (z_uj (z_ui (z_ui (z_ui μ 0 8 (nI t)) 0 7 1) 0 16 0) 0 18 0)
  refine z_rcs hc hH 4 (pc' := 38) (lv' := [(0, .ref 0), (1, .int (nI s)), (2, .int 0)]) (st' := [.ref 0, .ref 0]) (μ' := z_uj (z_ui (z_ui (z_ui μ 0 8 (nI t)) 0 7 1) 0 16 0) 0 18 0) (by rfl) ?_
  refine zq_gfr hc hH (by rfl) (ci := 5) (f := 1) (q := 2) (by rfl) (by decide +kernel) (by rfl) (by decide +kernel) ?_
  refine zq_call hc (by rfl) (gc_draw d' (by omega) (z_uj (z_ui (z_ui (z_ui μ 0 8 (nI t)) 0 7 1) 0 16 0) 0 18 0) n hn2 (by rw [uj_i, ui_o (by omega), ui_o (by omega), ui_o (by omega)]; exact hn) (by rw [uj_i, ui_o (by omega), ui_o (by omega), ui_o (by omega)]; exact h1)) (by decide +kernel) (fun r9 μ9 hq => ?_)
  obtain ⟨rfl, rfl⟩ := hq
  rw [uj_i, ui_o (by omega), ui_o (by omega), ui_o (by omega)]
  show Z 0 44 [(0, .ref 0), (1, .int (nI s)), (2, .int 0)] [.int (μ.1 3 n), .ref 0] (z_ui (z_uj (z_ui (z_ui (z_ui μ 0 8 (nI t)) 0 7 1) 0 16 0) 0 18 0) 2 2 (nI (n + 1)))
  rw [hkk]
  refine zq_pfi hc hH (by rfl) (ci := 5) (f := 15) (by rfl) (by decide +kernel) (by rfl) ?_
  show Z 0 47 [(0, .ref 0), (1, .int (nI s)), (2, .int 0)] [] (z_ui (z_ui (z_uj (z_ui (z_ui (z_ui μ 0 8 (nI t)) 0 7 1) 0 16 0) 0 18 0) 2 2 (nI (n + 1))) 0 15 (nI k))
  refine z_rcs hc hH 2 (pc' := 49) (lv' := [(0, .ref 0), (1, .int (nI s)), (2, .int 0)]) (st' := [.ref 0, .ref 0]) (μ' := z_ui (z_ui (z_uj (z_ui (z_ui (z_ui μ 0 8 (nI t)) 0 7 1) 0 16 0) 0 18 0) 2 2 (nI (n + 1))) 0 15 (nI k)) (by rfl) ?_
  refine zq_gfi hc hH (by rfl) (ci := 5) (f := 8) (by rfl) (by decide +kernel) (by rfl) ?_
  rw [ui_k (by omega), ui_o (by omega), uj_i, ui_k (by omega), ui_k (by omega), ui_s]
  refine zq_call hc (by rfl) (gc_at4 d' (by omega) (z_ui (z_ui (z_uj (z_ui (z_ui (z_ui μ 0 8 (nI t)) 0 7 1) 0 16 0) 0 18 0) 2 2 (nI (n + 1))) 0 15 (nI k)) t ht4) (by decide +kernel) (fun r9 μ9 hq => ?_)
  obtain ⟨hμ9, rfl⟩ := hq
  rw [hμ9]
  clear hμ9 μ9
  show Z 0 55 [(0, .ref 0), (1, .int (nI s)), (2, .int 0)] [.ref (18 + 8 * t)] (z_ui (z_ui (z_uj (z_ui (z_ui (z_ui μ 0 8 (nI t)) 0 7 1) 0 16 0) 0 18 0) 2 2 (nI (n + 1))) 0 15 (nI k))
  refine z_rcs hc hH 2 (pc' := 57) (lv' := [(3, .ref (18 + 8 * t)), (0, .ref 0), (1, .int (nI s)), (2, .int 0)]) (st' := [.ref (18 + 8 * t)]) (μ' := z_ui (z_ui (z_uj (z_ui (z_ui (z_ui μ 0 8 (nI t)) 0 7 1) 0 16 0) 0 18 0) 2 2 (nI (n + 1))) 0 15 (nI k)) (by rfl) ?_
  refine zq_gfr hc hH (by rfl) (ci := 1) (f := 0) (q := 19 + 8 * t) (by rfl) (sj (P := fun i => okf 79 1 0 (18 + 8 * i)) ht4 (by decide +kernel)) (by rfl) (sj (P := fun i => Nat.beq (z_gr (18 + 8 * i) 0) (19 + 8 * i)) ht4 (by decide +kernel)) ?_
  refine z_rcs hc hH 1 (pc' := 61) (lv' := [(3, .ref (18 + 8 * t)), (0, .ref 0), (1, .int (nI s)), (2, .int 0)]) (st' := [.ref 0, .ref (19 + 8 * t)]) (μ' := z_ui (z_ui (z_uj (z_ui (z_ui (z_ui μ 0 8 (nI t)) 0 7 1) 0 16 0) 0 18 0) 2 2 (nI (n + 1))) 0 15 (nI k)) (by rfl) ?_
  refine zq_gfi hc hH (by rfl) (ci := 5) (f := 15) (by rfl) (by decide +kernel) (by rfl) ?_
  rw [ui_s]
  refine z_rcs hc hH 1 (pc' := 65) (lv' := [(3, .ref (18 + 8 * t)), (0, .ref 0), (1, .int (nI s)), (2, .int 0)]) (st' := [.int 1, .int (nI k), .ref (19 + 8 * t)]) (μ' := z_ui (z_ui (z_uj (z_ui (z_ui (z_ui μ 0 8 (nI t)) 0 7 1) 0 16 0) 0 18 0) 2 2 (nI (n + 1))) 0 15 (nI k)) (by rfl) ?_
  refine zq_call hc (z_clv (by rfl) (by rfl) (by rfl) (by rfl) (by rfl) (by rfl) (sj (P := fun i => okr 79 2 (19 + 8 * i)) ht4 (by decide +kernel)) (by rfl) (by rfl)) (gc_put d' (by omega) (z_ui (z_ui (z_uj (z_ui (z_ui (z_ui μ 0 8 (nI t)) 0 7 1) 0 16 0) 0 18 0) 2 2 (nI (n + 1))) 0 15 (nI k)) t ht4 k hk 1) (by decide +kernel) (fun r9 μ9 hq => ?_)
  obtain ⟨rfl, rfl⟩ := hq
  show Z 0 68 [(3, .ref (18 + 8 * t)), (0, .ref 0), (1, .int (nI s)), (2, .int 0)] [] (pS (z_ui (z_ui (z_uj (z_ui (z_ui (z_ui μ 0 8 (nI t)) 0 7 1) 0 16 0) 0 18 0) 2 2 (nI (n + 1))) 0 15 (nI k)) t k 1)
  refine z_rcs hc hH 1 (pc' := 69) (lv' := [(3, .ref (18 + 8 * t)), (0, .ref 0), (1, .int (nI s)), (2, .int 0)]) (st' := [.ref (18 + 8 * t)]) (μ' := pS (z_ui (z_ui (z_uj (z_ui (z_ui (z_ui μ 0 8 (nI t)) 0 7 1) 0 16 0) 0 18 0) 2 2 (nI (n + 1))) 0 15 (nI k)) t k 1) (by rfl) ?_
  refine zq_gfi hc hH (by rfl) (ci := 1) (f := 5) (by rfl) (sj (P := fun i => okf 79 1 5 (18 + 8 * i)) ht4 (by decide +kernel)) (by rfl) ?_
  rw [pS_o (by omega), ui_o (by omega), ui_o (by omega), uj_i, ui_o (by omega), ui_o (by omega), ui_o (by omega)]
  refine zq_if hc hH (by rfl) (tg := 80) (by rfl) (fun h1 => ?_) (fun h1 => ?_)
  · have h1 : (decide ((μ.1 (18 + 8 * t) 5) = 0)) = false := decide_eq_false (cm_ne.mp h1)
    exact hr 0 80 _ _ _ none (by decide +kernel) (by rfl) (⟨rfl, (by unfold dT0; simp only [h1, cond_true, cond_false])⟩)
  · have h1 : (decide ((μ.1 (18 + 8 * t) 5) = 0)) = true := decide_eq_true (cn_ne.mp h1)
    refine z_rcs hc hH 2 (pc' := 77) (lv' := [(3, .ref (18 + 8 * t)), (0, .ref 0), (1, .int (nI s)), (2, .int 0)]) (st' := [.int 0, .ref (18 + 8 * t)]) (μ' := pS (z_ui (z_ui (z_uj (z_ui (z_ui (z_ui μ 0 8 (nI t)) 0 7 1) 0 16 0) 0 18 0) 2 2 (nI (n + 1))) 0 15 (nI k)) t k 1) (by rfl) ?_
    refine zq_pfb hc hH (by rfl) (ci := 1) (f := 8) (by rfl) (sj (P := fun i => okf 79 1 8 (18 + 8 * i)) ht4 (by decide +kernel)) (by rfl) (by decide) ?_
    show Z 0 80 [(3, .ref (18 + 8 * t)), (0, .ref 0), (1, .int (nI s)), (2, .int 0)] [] (z_ui (pS (z_ui (z_ui (z_uj (z_ui (z_ui (z_ui μ 0 8 (nI t)) 0 7 1) 0 16 0) 0 18 0) 2 2 (nI (n + 1))) 0 15 (nI k)) t k 1) (18 + 8 * t) 8 0)
    exact hr 0 80 _ _ _ none (by decide +kernel) (by rfl) (⟨rfl, (by unfold dT0; simp only [h1, cond_true, cond_false])⟩)
def dT1 (μ : zM) (t n k : Nat) : zM := (bif decide ((μ.1 (18 + 8 * t) 5) = 0) then z_ui (pS (z_ui (z_ui (z_uj (z_ui (z_ui (z_ui μ 0 8 (nI t)) 0 7 1) 0 16 1) 0 18 0) 2 3 (nI (n + 1))) 0 15 (nI k)) t k 1) (18 + 8 * t) 8 0 else pS (z_ui (z_ui (z_uj (z_ui (z_ui (z_ui μ 0 8 (nI t)) 0 7 1) 0 16 1) 0 18 0) 2 3 (nI (n + 1))) 0 15 (nI k)) t k 1)
theorem gc_drawTile1 (d : Nat) (hd : 4 ≤ d) (μ : zM) (s t n k : Nat) (hs : s < 2147483648) (ht4 : t < 4) (hst : s % 4 = t) (hn2 : n < 14) (hn : μ.1 2 3 = nI n) (h1 : μ.1 2 1 = 1) (hk : k < 34) (hkk : μ.1 3 (122 + n) = nI k) : z_C d mi_X6_drawTile [.ref 0, .int (nI s), .int 1] μ (fun r μ' => r = none ∧ μ' = dT1 μ t n k) := by
  refine z_C_in (by decide) (by omega) (fun d' Z ed hc hr => ?_)
  have hH : zH mi_X6_drawTile zc_X6_drawTile 79 6 4 := ⟨by rfl, by rfl, by rfl, by rfl⟩
  refine z_rcs hc hH 4 (pc' := 4) (lv' := [(0, .ref 0), (1, .int (nI s)), (2, .int 1)]) (st' := [.int ((nI s) &&& 3), .ref 0]) (μ' := μ) (by rfl) ?_
  rw [show nI s &&& 3 = nI t from by rw [and3 hs, hst]]
  refine zq_pfi hc hH (by rfl) (ci := 5) (f := 8) (by rfl) (by decide +kernel) (by rfl) ?_
  show Z 0 7 [(0, .ref 0), (1, .int (nI s)), (2, .int 1)] [] (z_ui μ 0 8 (nI t))
  refine z_rcs hc hH 2 (pc' := 9) (lv' := [(0, .ref 0), (1, .int (nI s)), (2, .int 1)]) (st' := [.int 1, .ref 0]) (μ' := z_ui μ 0 8 (nI t)) (by rfl) ?_
  refine zq_pfi hc hH (by rfl) (ci := 5) (f := 7) (by rfl) (by decide +kernel) (by rfl) ?_
  show Z 0 12 [(0, .ref 0), (1, .int (nI s)), (2, .int 1)] [] (z_ui (z_ui μ 0 8 (nI t)) 0 7 1)
  refine z_rcs hc hH 2 (pc' := 14) (lv' := [(0, .ref 0), (1, .int (nI s)), (2, .int 1)]) (st' := [.int 1, .ref 0]) (μ' := z_ui (z_ui μ 0 8 (nI t)) 0 7 1) (by rfl) ?_
  refine zq_pfb hc hH (by rfl) (ci := 5) (f := 16) (by rfl) (by decide +kernel) (by rfl) (by decide) ?_
  show Z 0 17 [(0, .ref 0), (1, .int (nI s)), (2, .int 1)] [] (z_ui (z_ui (z_ui μ 0 8 (nI t)) 0 7 1) 0 16 1)
  refine z_rcs hc hH 2 (pc' := 19) (lv' := [(0, .ref 0), (1, .int (nI s)), (2, .int 1)]) (st' := [.long 0, .ref 0]) (μ' := z_ui (z_ui (z_ui μ 0 8 (nI t)) 0 7 1) 0 16 1) (by rfl) ?_
  refine zq_pfl hc hH (by rfl) (ci := 5) (f := 18) (by rfl) (by decide +kernel) (by rfl) ?_
  show Z 0 22 [(0, .ref 0), (1, .int (nI s)), (2, .int 1)] [] (z_uj (z_ui (z_ui (z_ui μ 0 8 (nI t)) 0 7 1) 0 16 1) 0 18 0)
  refine z_rcs hc hH 4 (pc' := 28) (lv' := [(0, .ref 0), (1, .int (nI s)), (2, .int 1)]) (st' := [.ref 0, .ref 0]) (μ' := z_uj (z_ui (z_ui (z_ui μ 0 8 (nI t)) 0 7 1) 0 16 1) 0 18 0) (by rfl) ?_
  refine zq_gfr hc hH (by rfl) (ci := 5) (f := 1) (q := 2) (by rfl) (by decide +kernel) (by rfl) (by decide +kernel) ?_
  refine zq_call hc (by rfl) (gc_drawB d' (by omega) (z_uj (z_ui (z_ui (z_ui μ 0 8 (nI t)) 0 7 1) 0 16 1) 0 18 0) n hn2 (by rw [uj_i, ui_o (by omega), ui_o (by omega), ui_o (by omega)]; exact hn) (by rw [uj_i, ui_o (by omega), ui_o (by omega), ui_o (by omega)]; exact h1)) (by decide +kernel) (fun r9 μ9 hq => ?_)
  obtain ⟨rfl, rfl⟩ := hq
  rw [uj_i, ui_o (by omega), ui_o (by omega), ui_o (by omega)]
  show Z 0 34 [(0, .ref 0), (1, .int (nI s)), (2, .int 1)] [.int (μ.1 3 (122 + n)), .ref 0] (z_ui (z_uj (z_ui (z_ui (z_ui μ 0 8 (nI t)) 0 7 1) 0 16 1) 0 18 0) 2 3 (nI (n + 1)))
  rw [hkk]
  refine z_rcs hc hH 1 (pc' := 44) (lv' := [(0, .ref 0), (1, .int (nI s)), (2, .int 1)]) (st' := [.int (nI k), .ref 0]) (μ' := z_ui (z_uj (z_ui (z_ui (z_ui μ 0 8 (nI t)) 0 7 1) 0 16 1) 0 18 0) 2 3 (nI (n + 1))) (by rfl) ?_
  refine zq_pfi hc hH (by rfl) (ci := 5) (f := 15) (by rfl) (by decide +kernel) (by rfl) ?_
  show Z 0 47 [(0, .ref 0), (1, .int (nI s)), (2, .int 1)] [] (z_ui (z_ui (z_uj (z_ui (z_ui (z_ui μ 0 8 (nI t)) 0 7 1) 0 16 1) 0 18 0) 2 3 (nI (n + 1))) 0 15 (nI k))
  refine z_rcs hc hH 2 (pc' := 49) (lv' := [(0, .ref 0), (1, .int (nI s)), (2, .int 1)]) (st' := [.ref 0, .ref 0]) (μ' := z_ui (z_ui (z_uj (z_ui (z_ui (z_ui μ 0 8 (nI t)) 0 7 1) 0 16 1) 0 18 0) 2 3 (nI (n + 1))) 0 15 (nI k)) (by rfl) ?_
  refine zq_gfi hc hH (by rfl) (ci := 5) (f := 8) (by rfl) (by decide +kernel) (by rfl) ?_
  rw [ui_k (by omega), ui_o (by omega), uj_i, ui_k (by omega), ui_k (by omega), ui_s]
  refine zq_call hc (by rfl) (gc_at4 d' (by omega) (z_ui (z_ui (z_uj (z_ui (z_ui (z_ui μ 0 8 (nI t)) 0 7 1) 0 16 1) 0 18 0) 2 3 (nI (n + 1))) 0 15 (nI k)) t ht4) (by decide +kernel) (fun r9 μ9 hq => ?_)
  obtain ⟨hμ9, rfl⟩ := hq
  rw [hμ9]
  clear hμ9 μ9
  show Z 0 55 [(0, .ref 0), (1, .int (nI s)), (2, .int 1)] [.ref (18 + 8 * t)] (z_ui (z_ui (z_uj (z_ui (z_ui (z_ui μ 0 8 (nI t)) 0 7 1) 0 16 1) 0 18 0) 2 3 (nI (n + 1))) 0 15 (nI k))
  refine z_rcs hc hH 2 (pc' := 57) (lv' := [(3, .ref (18 + 8 * t)), (0, .ref 0), (1, .int (nI s)), (2, .int 1)]) (st' := [.ref (18 + 8 * t)]) (μ' := z_ui (z_ui (z_uj (z_ui (z_ui (z_ui μ 0 8 (nI t)) 0 7 1) 0 16 1) 0 18 0) 2 3 (nI (n + 1))) 0 15 (nI k)) (by rfl) ?_
  refine zq_gfr hc hH (by rfl) (ci := 1) (f := 0) (q := 19 + 8 * t) (by rfl) (sj (P := fun i => okf 79 1 0 (18 + 8 * i)) ht4 (by decide +kernel)) (by rfl) (sj (P := fun i => Nat.beq (z_gr (18 + 8 * i) 0) (19 + 8 * i)) ht4 (by decide +kernel)) ?_
  refine z_rcs hc hH 1 (pc' := 61) (lv' := [(3, .ref (18 + 8 * t)), (0, .ref 0), (1, .int (nI s)), (2, .int 1)]) (st' := [.ref 0, .ref (19 + 8 * t)]) (μ' := z_ui (z_ui (z_uj (z_ui (z_ui (z_ui μ 0 8 (nI t)) 0 7 1) 0 16 1) 0 18 0) 2 3 (nI (n + 1))) 0 15 (nI k)) (by rfl) ?_
  refine zq_gfi hc hH (by rfl) (ci := 5) (f := 15) (by rfl) (by decide +kernel) (by rfl) ?_
  rw [ui_s]
  refine z_rcs hc hH 1 (pc' := 65) (lv' := [(3, .ref (18 + 8 * t)), (0, .ref 0), (1, .int (nI s)), (2, .int 1)]) (st' := [.int 1, .int (nI k), .ref (19 + 8 * t)]) (μ' := z_ui (z_ui (z_uj (z_ui (z_ui (z_ui μ 0 8 (nI t)) 0 7 1) 0 16 1) 0 18 0) 2 3 (nI (n + 1))) 0 15 (nI k)) (by rfl) ?_
  refine zq_call hc (z_clv (by rfl) (by rfl) (by rfl) (by rfl) (by rfl) (by rfl) (sj (P := fun i => okr 79 2 (19 + 8 * i)) ht4 (by decide +kernel)) (by rfl) (by rfl)) (gc_put d' (by omega) (z_ui (z_ui (z_uj (z_ui (z_ui (z_ui μ 0 8 (nI t)) 0 7 1) 0 16 1) 0 18 0) 2 3 (nI (n + 1))) 0 15 (nI k)) t ht4 k hk 1) (by decide +kernel) (fun r9 μ9 hq => ?_)
  obtain ⟨rfl, rfl⟩ := hq
  show Z 0 68 [(3, .ref (18 + 8 * t)), (0, .ref 0), (1, .int (nI s)), (2, .int 1)] [] (pS (z_ui (z_ui (z_uj (z_ui (z_ui (z_ui μ 0 8 (nI t)) 0 7 1) 0 16 1) 0 18 0) 2 3 (nI (n + 1))) 0 15 (nI k)) t k 1)
  refine z_rcs hc hH 1 (pc' := 69) (lv' := [(3, .ref (18 + 8 * t)), (0, .ref 0), (1, .int (nI s)), (2, .int 1)]) (st' := [.ref (18 + 8 * t)]) (μ' := pS (z_ui (z_ui (z_uj (z_ui (z_ui (z_ui μ 0 8 (nI t)) 0 7 1) 0 16 1) 0 18 0) 2 3 (nI (n + 1))) 0 15 (nI k)) t k 1) (by rfl) ?_
  refine zq_gfi hc hH (by rfl) (ci := 1) (f := 5) (by rfl) (sj (P := fun i => okf 79 1 5 (18 + 8 * i)) ht4 (by decide +kernel)) (by rfl) ?_
  rw [pS_o (by omega), ui_o (by omega), ui_o (by omega), uj_i, ui_o (by omega), ui_o (by omega), ui_o (by omega)]
  refine zq_if hc hH (by rfl) (tg := 80) (by rfl) (fun h1 => ?_) (fun h1 => ?_)
  · have h1 : (decide ((μ.1 (18 + 8 * t) 5) = 0)) = false := decide_eq_false (cm_ne.mp h1)
    exact hr 0 80 _ _ _ none (by decide +kernel) (by rfl) (⟨rfl, (by unfold dT1; simp only [h1, cond_true, cond_false])⟩)
  · have h1 : (decide ((μ.1 (18 + 8 * t) 5) = 0)) = true := decide_eq_true (cn_ne.mp h1)
    refine z_rcs hc hH 2 (pc' := 77) (lv' := [(3, .ref (18 + 8 * t)), (0, .ref 0), (1, .int (nI s)), (2, .int 1)]) (st' := [.int 0, .ref (18 + 8 * t)]) (μ' := pS (z_ui (z_ui (z_uj (z_ui (z_ui (z_ui μ 0 8 (nI t)) 0 7 1) 0 16 1) 0 18 0) 2 3 (nI (n + 1))) 0 15 (nI k)) t k 1) (by rfl) ?_
    refine zq_pfb hc hH (by rfl) (ci := 1) (f := 8) (by rfl) (sj (P := fun i => okf 79 1 8 (18 + 8 * i)) ht4 (by decide +kernel)) (by rfl) (by decide) ?_
    show Z 0 80 [(3, .ref (18 + 8 * t)), (0, .ref 0), (1, .int (nI s)), (2, .int 1)] [] (z_ui (pS (z_ui (z_ui (z_uj (z_ui (z_ui (z_ui μ 0 8 (nI t)) 0 7 1) 0 16 1) 0 18 0) 2 3 (nI (n + 1))) 0 15 (nI k)) t k 1) (18 + 8 * t) 8 0)
    exact hr 0 80 _ _ _ none (by decide +kernel) (by rfl) (⟨rfl, (by unfold dT1; simp only [h1, cond_true, cond_false])⟩)

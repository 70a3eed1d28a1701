/-! the game: pass of the class -/
set_option maxRecDepth 8000
theorem gc_left9 (d : Nat) (hd : 1 ≤ d) (μ : zM) (x : Int32) (h : xLf μ = x) : z_C d mi_X4_left [.ref 2] μ (zR μ (.int x)) := by
  rw [← h]; exact gc_left d hd μ
theorem lT_0 {μ : zM} {t u1 u2 u3 k : Nat} {c1 c2 c3 : Bool} (h : k ≠ 12) : (lT μ t u1 u2 u3 c1 c2 c3).1 0 k = μ.1 0 k := by
  unfold lT
  cases decide (μ.1 (18 + 8 * t) 6 = 0)
  · rw [cond_false, ui_k h, ui_o (by omega), ui_o (by omega), lgS_o (by omega), lgS_o (by omega), lgS_o (by omega)]
  · rw [cond_true, lgS_o (by omega), lgS_o (by omega), lgS_o (by omega)]
theorem gc_passW2 (d : Nat) (hd : 12 ≤ d) (μ : zM) (W : zM → Prop) (hwb : ∀ d, 11 ≤ d → z_C d mi_X6_winByTile [.ref 0] μ (fun r μ' => r = none ∧ W μ')) (h07 : decide (μ.1 0 7 = 2) = true) (h073 : decide (μ.1 0 7 = 3) = false) (an : Bool) (han : ∀ d, 2 ≤ d → z_C d mi_X6_someoneSays [.ref 0] μ (zR μ (.int (nB an)))) (ha : an = true) : z_C d mi_X6_pass [.ref 0] μ (fun r μ' => r = some (.int 1) ∧ W μ') := by
  refine z_C_in (by decide) (by omega) (fun d' Z ed hc hr => ?_)
  have hH : zH mi_X6_pass zc_X6_pass 79 6 1 := ⟨by rfl, by rfl, by rfl, by rfl⟩
  refine z_rcs hc hH 1 (pc' := 1) (lv' := [(0, .ref 0)]) (st' := [.ref 0]) (μ' := μ) (by rfl) ?_
  refine zq_gfi hc hH (by rfl) (ci := 5) (f := 7) (by rfl) (by decide +kernel) (by rfl) ?_
  refine z_rcs hc hH 1 (pc' := 5) (lv' := [(0, .ref 0)]) (st' := [.int 2, .int (μ.1 0 7)]) (μ' := μ) (by rfl) ?_
  refine zq_ic hc hH (by rfl) (tg := 18) (by rfl) (fun h1 => ?_) (fun h1 => ?_)
  · have h1 : (decide ((μ.1 0 7) = 2)) = true := decide_eq_true (cm_eq9.mp h1)
    refine z_rcs hc hH 1 (pc' := 19) (lv' := [(0, .ref 0)]) (st' := [.ref 0]) (μ' := μ) (by rfl) ?_
    refine zq_call hc (by rfl) (han d' (by omega)) (by decide +kernel) (fun r9 μ9 hq => ?_)
    obtain ⟨hμ9, rfl⟩ := hq
    rw [hμ9]
    clear hμ9 μ9
    show Z 0 22 [(0, .ref 0)] [.int (nB an)] μ
    refine zq_if hc hH (by rfl) (tg := 32) (by rfl) (fun h2 => ?_) (fun h2 => ?_)
    · have h2 : (an) = false := nB_z.mp (cm_eq9.mp h2)
      exact absurd (Eq.trans (Eq.symm (ha)) h2) (by decide)
    · have h2 : (an) = true := nB_n.mp (cn_eq.mp h2)
      refine z_rcs hc hH 1 (pc' := 26) (lv' := [(0, .ref 0)]) (st' := [.ref 0]) (μ' := μ) (by rfl) ?_
      refine zq_call hc (by rfl) (hwb d' (by omega)) (by decide +kernel) (fun r9 μw hq => ?_)
      obtain ⟨rfl, hE⟩ := hq
      show Z 0 29 [(0, .ref 0)] [] μw
      refine z_rcs hc hH 2 (pc' := 88) (lv' := [(0, .ref 0)]) (st' := [.int 1]) (μ' := μw) (by rfl) ?_
      exact hr 0 88 _ _ _ (some (.int 1)) (by decide +kernel) (by rfl) (⟨rfl, hE⟩)
  · have h1 : (decide ((μ.1 0 7) = 2)) = false := decide_eq_false (cn_eq.mp h1)
    exact absurd (Eq.trans (Eq.symm (h07)) h1) (by decide)
theorem gc_passW3 (d : Nat) (hd : 12 ≤ d) (μ : zM) (W : zM → Prop) (hwb : ∀ d, 11 ≤ d → z_C d mi_X6_winByTile [.ref 0] μ (fun r μ' => r = none ∧ W μ')) (h07 : decide (μ.1 0 7 = 2) = false) (h073 : decide (μ.1 0 7 = 3) = true) (an : Bool) (han : ∀ d, 2 ≤ d → z_C d mi_X6_someoneSays [.ref 0] μ (zR μ (.int (nB an)))) (ha : an = true) : z_C d mi_X6_pass [.ref 0] μ (fun r μ' => r = some (.int 1) ∧ W μ') := by
  refine z_C_in (by decide) (by omega) (fun d' Z ed hc hr => ?_)
  have hH : zH mi_X6_pass zc_X6_pass 79 6 1 := ⟨by rfl, by rfl, by rfl, by rfl⟩
  refine z_rcs hc hH 1 (pc' := 1) (lv' := [(0, .ref 0)]) (st' := [.ref 0]) (μ' := μ) (by rfl) ?_
  refine zq_gfi hc hH (by rfl) (ci := 5) (f := 7) (by rfl) (by decide +kernel) (by rfl) ?_
  refine z_rcs hc hH 1 (pc' := 5) (lv' := [(0, .ref 0)]) (st' := [.int 2, .int (μ.1 0 7)]) (μ' := μ) (by rfl) ?_
  refine zq_ic hc hH (by rfl) (tg := 18) (by rfl) (fun h1 => ?_) (fun h1 => ?_)
  · have h1 : (decide ((μ.1 0 7) = 2)) = true := decide_eq_true (cm_eq9.mp h1)
    exact absurd (Eq.trans (Eq.symm (h07)) h1) (by decide)
  · have h1 : (decide ((μ.1 0 7) = 2)) = false := decide_eq_false (cn_eq.mp h1)
    refine z_rcs hc hH 1 (pc' := 9) (lv' := [(0, .ref 0)]) (st' := [.ref 0]) (μ' := μ) (by rfl) ?_
    refine zq_gfi hc hH (by rfl) (ci := 5) (f := 7) (by rfl) (by decide +kernel) (by rfl) ?_
    refine z_rcs hc hH 1 (pc' := 13) (lv' := [(0, .ref 0)]) (st' := [.int 3, .int (μ.1 0 7)]) (μ' := μ) (by rfl) ?_
    refine zq_ic hc hH (by rfl) (tg := 18) (by rfl) (fun h2 => ?_) (fun h2 => ?_)
    · have h2 : (decide ((μ.1 0 7) = 3)) = true := decide_eq_true (cm_eq9.mp h2)
      refine z_rcs hc hH 1 (pc' := 19) (lv' := [(0, .ref 0)]) (st' := [.ref 0]) (μ' := μ) (by rfl) ?_
      refine zq_call hc (by rfl) (han d' (by omega)) (by decide +kernel) (fun r9 μ9 hq => ?_)
      obtain ⟨hμ9, rfl⟩ := hq
      rw [hμ9]
      clear hμ9 μ9
      show Z 0 22 [(0, .ref 0)] [.int (nB an)] μ
      refine zq_if hc hH (by rfl) (tg := 32) (by rfl) (fun h3 => ?_) (fun h3 => ?_)
      · have h3 : (an) = false := nB_z.mp (cm_eq9.mp h3)
        exact absurd (Eq.trans (Eq.symm (ha)) h3) (by decide)
      · have h3 : (an) = true := nB_n.mp (cn_eq.mp h3)
        refine z_rcs hc hH 1 (pc' := 26) (lv' := [(0, .ref 0)]) (st' := [.ref 0]) (μ' := μ) (by rfl) ?_
        refine zq_call hc (by rfl) (hwb d' (by omega)) (by decide +kernel) (fun r9 μw hq => ?_)
        obtain ⟨rfl, hE⟩ := hq
        show Z 0 29 [(0, .ref 0)] [] μw
        refine z_rcs hc hH 2 (pc' := 88) (lv' := [(0, .ref 0)]) (st' := [.int 1]) (μ' := μw) (by rfl) ?_
        exact hr 0 88 _ _ _ (some (.int 1)) (by decide +kernel) (by rfl) (⟨rfl, hE⟩)
    · have h2 : (decide ((μ.1 0 7) = 3)) = false := decide_eq_false (cn_eq.mp h2)
      exact absurd (Eq.trans (Eq.symm (h073)) h2) (by decide)
theorem gc_pass3 (d : Nat) (hd : 12 ≤ d) (μ : zM) (t c u1 u2 u3 : Nat) (c1 c2 c3 : Bool) (ht4 : t < 4) (ht : μ.1 0 8 = nI t) (hc34 : c < 34) (hc15 : μ.1 0 15 = nI c) (hu1 : (t + 1) % 4 = u1) (hu14 : u1 < 4) (hw1 : ∀ μ1, TE μ μ1 → ∀ d, 6 ≤ d → z_C d mi_X3_waitsFor [.ref (19 + 8 * u1), .int (nI c)] μ1 (zR μ1 (.int (nB c1)))) (hu2 : (t + 2) % 4 = u2) (hu24 : u2 < 4) (hw2 : ∀ μ1, TE μ μ1 → ∀ d, 6 ≤ d → z_C d mi_X3_waitsFor [.ref (19 + 8 * u2), .int (nI c)] μ1 (zR μ1 (.int (nB c2)))) (hu3 : (t + 3) % 4 = u3) (hu34 : u3 < 4) (hw3 : ∀ μ1, TE μ μ1 → ∀ d, 6 ≤ d → z_C d mi_X3_waitsFor [.ref (19 + 8 * u3), .int (nI c)] μ1 (zR μ1 (.int (nB c3)))) (n k2 : Nat) (hn2 : n < 14) (hn : μ.1 2 3 = nI n) (hS1 : μ.1 2 1 = 1) (hk2 : k2 < 34) (hkk : μ.1 3 (122 + n) = nI k2) (h07 : decide (μ.1 0 7 = 2) = false) (h073 : decide (μ.1 0 7 = 3) = true) (an : Bool) (han : ∀ d, 2 ≤ d → z_C d mi_X6_someoneSays [.ref 0] μ (zR μ (.int (nB an)))) (ha : an = false) : z_C d mi_X6_pass [.ref 0] μ (fun r μ' => r = some (.int 1) ∧ μ' = dT1 (bkH (lT μ t u1 u2 u3 c1 c2 c3)) t n k2) := by
  refine z_C_in (by decide) (by omega) (fun d' Z ed hc hr => ?_)
  have hH : zH mi_X6_pass zc_X6_pass 79 6 1 := ⟨by rfl, by rfl, by rfl, by rfl⟩
  refine z_rcs hc hH 1 (pc' := 1) (lv' := [(0, .ref 0)]) (st' := [.ref 0]) (μ' := μ) (by rfl) ?_
  refine zq_gfi hc hH (by rfl) (ci := 5) (f := 7) (by rfl) (by decide +kernel) (by rfl) ?_
  refine z_rcs hc hH 1 (pc' := 5) (lv' := [(0, .ref 0)]) (st' := [.int 2, .int (μ.1 0 7)]) (μ' := μ) (by rfl) ?_
  refine zq_ic hc hH (by rfl) (tg := 18) (by rfl) (fun h1 => ?_) (fun h1 => ?_)
  · have h1 : (decide ((μ.1 0 7) = 2)) = true := decide_eq_true (cm_eq9.mp h1)
    exact absurd (Eq.trans (Eq.symm (h07)) h1) (by decide)
  · have h1 : (decide ((μ.1 0 7) = 2)) = false := decide_eq_false (cn_eq.mp h1)
    refine z_rcs hc hH 1 (pc' := 9) (lv' := [(0, .ref 0)]) (st' := [.ref 0]) (μ' := μ) (by rfl) ?_
    refine zq_gfi hc hH (by rfl) (ci := 5) (f := 7) (by rfl) (by decide +kernel) (by rfl) ?_
    refine z_rcs hc hH 1 (pc' := 13) (lv' := [(0, .ref 0)]) (st' := [.int 3, .int (μ.1 0 7)]) (μ' := μ) (by rfl) ?_
    refine zq_ic hc hH (by rfl) (tg := 18) (by rfl) (fun h2 => ?_) (fun h2 => ?_)
    · have h2 : (decide ((μ.1 0 7) = 3)) = true := decide_eq_true (cm_eq9.mp h2)
      refine z_rcs hc hH 1 (pc' := 19) (lv' := [(0, .ref 0)]) (st' := [.ref 0]) (μ' := μ) (by rfl) ?_
      refine zq_call hc (by rfl) (han d' (by omega)) (by decide +kernel) (fun r9 μ9 hq => ?_)
      obtain ⟨hμ9, rfl⟩ := hq
      rw [hμ9]
      clear hμ9 μ9
      show Z 0 22 [(0, .ref 0)] [.int (nB an)] μ
      refine zq_if hc hH (by rfl) (tg := 32) (by rfl) (fun h3 => ?_) (fun h3 => ?_)
      · have h3 : (an) = false := nB_z.mp (cm_eq9.mp h3)
        refine z_rcs hc hH 1 (pc' := 33) (lv' := [(0, .ref 0)]) (st' := [.ref 0]) (μ' := μ) (by rfl) ?_
        refine zq_gfi hc hH (by rfl) (ci := 5) (f := 7) (by rfl) (by decide +kernel) (by rfl) ?_
        refine z_rcs hc hH 1 (pc' := 37) (lv' := [(0, .ref 0)]) (st' := [.int 3, .int (μ.1 0 7)]) (μ' := μ) (by rfl) ?_
        refine zq_ic hc hH (by rfl) (tg := 55) (by rfl) (fun h4 => ?_) (fun h4 => ?_)
        · have h4 : (decide ((μ.1 0 7) = 3)) = false := decide_eq_false (cm_ne.mp h4)
          exact absurd (Eq.trans (Eq.symm (h073)) h4) (by decide)
        · have h4 : (decide ((μ.1 0 7) = 3)) = true := decide_eq_true (cn_ne.mp h4)
          refine z_rcs hc hH 1 (pc' := 41) (lv' := [(0, .ref 0)]) (st' := [.ref 0]) (μ' := μ) (by rfl) ?_
          refine zq_call hc (by rfl) (gc_letTileGo d' (by omega) μ t c u1 u2 u3 c1 c2 c3 ht4 ht hc34 hc15 hu1 hu14 hw1 hu2 hu24 hw2 hu3 hu34 hw3) (by decide +kernel) (fun r9 μ9 hq => ?_)
          obtain ⟨rfl, rfl⟩ := hq
          show Z 0 44 [(0, .ref 0)] [] (lT μ t u1 u2 u3 c1 c2 c3)
          refine z_rcs hc hH 2 (pc' := 46) (lv' := [(0, .ref 0)]) (st' := [.ref 0, .ref 0]) (μ' := lT μ t u1 u2 u3 c1 c2 c3) (by rfl) ?_
          refine zq_gfi hc hH (by rfl) (ci := 5) (f := 8) (by rfl) (by decide +kernel) (by rfl) ?_
          rw [lT_0 (by omega)]
          rw [ht]
          refine zq_call hc (by rfl) (gc_makeFour d' (by omega) (lT μ t u1 u2 u3 c1 c2 c3) t t n k2 (by omega) ht4 (Nat.mod_eq_of_lt ht4) hn2 (by rw [lT_o (by omega)]; exact hn) (by rw [lT_o (by omega)]; exact hS1) hk2 (by rw [lT_r (by omega)]; exact hkk)) (by decide +kernel) (fun r9 μ9 hq => ?_)
          obtain ⟨rfl, rfl⟩ := hq
          show Z 0 52 [(0, .ref 0)] [] (dT1 (bkH (lT μ t u1 u2 u3 c1 c2 c3) ) t n k2)
          refine z_rcs hc hH 2 (pc' := 88) (lv' := [(0, .ref 0)]) (st' := [.int 1]) (μ' := dT1 (bkH (lT μ t u1 u2 u3 c1 c2 c3) ) t n k2) (by rfl) ?_
          exact hr 0 88 _ _ _ (some (.int 1)) (by decide +kernel) (by rfl) (⟨rfl, rfl⟩)
      · have h3 : (an) = true := nB_n.mp (cn_eq.mp h3)
        exact absurd (Eq.trans (Eq.symm (ha)) h3) (by decide)
    · have h2 : (decide ((μ.1 0 7) = 3)) = false := decide_eq_false (cn_eq.mp h2)
      exact absurd (Eq.trans (Eq.symm (h073)) h2) (by decide)
theorem gc_pass2d (d : Nat) (hd : 12 ≤ d) (μ : zM) (t c u1 u2 u3 : Nat) (c1 c2 c3 : Bool) (ht4 : t < 4) (ht : μ.1 0 8 = nI t) (hc34 : c < 34) (hc15 : μ.1 0 15 = nI c) (hu1 : (t + 1) % 4 = u1) (hu14 : u1 < 4) (hw1 : ∀ μ1, TE μ μ1 → ∀ d, 6 ≤ d → z_C d mi_X3_waitsFor [.ref (19 + 8 * u1), .int (nI c)] μ1 (zR μ1 (.int (nB c1)))) (hu2 : (t + 2) % 4 = u2) (hu24 : u2 < 4) (hw2 : ∀ μ1, TE μ μ1 → ∀ d, 6 ≤ d → z_C d mi_X3_waitsFor [.ref (19 + 8 * u2), .int (nI c)] μ1 (zR μ1 (.int (nB c2)))) (hu3 : (t + 3) % 4 = u3) (hu34 : u3 < 4) (hw3 : ∀ μ1, TE μ μ1 → ∀ d, 6 ≤ d → z_C d mi_X3_waitsFor [.ref (19 + 8 * u3), .int (nI c)] μ1 (zR μ1 (.int (nB c3)))) (n0 k0 : Nat) (hn02 : n0 < 136) (hn0 : μ.1 2 2 = nI n0) (hS1 : μ.1 2 1 = 1) (hk0 : k0 < 34) (hkk0 : μ.1 3 n0 = nI k0) (lf : Int32) (hlf : xLf μ = lf) (hl : decide (lf ≤ 0) = false) (h07 : decide (μ.1 0 7 = 2) = true) (h073 : decide (μ.1 0 7 = 3) = false) (an : Bool) (han : ∀ d, 2 ≤ d → z_C d mi_X6_someoneSays [.ref 0] μ (zR μ (.int (nB an)))) (ha : an = false) : z_C d mi_X6_pass [.ref 0] μ (fun r μ' => r = some (.int 1) ∧ μ' = dT0 (lT μ t u1 u2 u3 c1 c2 c3) u1 n0 k0) := by
  refine z_C_in (by decide) (by omega) (fun d' Z ed hc hr => ?_)
  have hH : zH mi_X6_pass zc_X6_pass 79 6 1 := ⟨by rfl, by rfl, by rfl, by rfl⟩
  refine z_rcs hc hH 1 (pc' := 1) (lv' := [(0, .ref 0)]) (st' := [.ref 0]) (μ' := μ) (by rfl) ?_
  refine zq_gfi hc hH (by rfl) (ci := 5) (f := 7) (by rfl) (by decide +kernel) (by rfl) ?_
  refine z_rcs hc hH 1 (pc' := 5) (lv' := [(0, .ref 0)]) (st' := [.int 2, .int (μ.1 0 7)]) (μ' := μ) (by rfl) ?_
  refine zq_ic hc hH (by rfl) (tg := 18) (by rfl) (fun h1 => ?_) (fun h1 => ?_)
  · have h1 : (decide ((μ.1 0 7) = 2)) = true := decide_eq_true (cm_eq9.mp h1)
    refine z_rcs hc hH 1 (pc' := 19) (lv' := [(0, .ref 0)]) (st' := [.ref 0]) (μ' := μ) (by rfl) ?_
    refine zq_call hc (by rfl) (han d' (by omega)) (by decide +kernel) (fun r9 μ9 hq => ?_)
    obtain ⟨hμ9, rfl⟩ := hq
    rw [hμ9]
    clear hμ9 μ9
    show Z 0 22 [(0, .ref 0)] [.int (nB an)] μ
    refine zq_if hc hH (by rfl) (tg := 32) (by rfl) (fun h2 => ?_) (fun h2 => ?_)
    · have h2 : (an) = false := nB_z.mp (cm_eq9.mp h2)
      refine z_rcs hc hH 1 (pc' := 33) (lv' := [(0, .ref 0)]) (st' := [.ref 0]) (μ' := μ) (by rfl) ?_
      refine zq_gfi hc hH (by rfl) (ci := 5) (f := 7) (by rfl) (by decide +kernel) (by rfl) ?_
      refine z_rcs hc hH 1 (pc' := 37) (lv' := [(0, .ref 0)]) (st' := [.int 3, .int (μ.1 0 7)]) (μ' := μ) (by rfl) ?_
      refine zq_ic hc hH (by rfl) (tg := 55) (by rfl) (fun h3 => ?_) (fun h3 => ?_)
      · have h3 : (decide ((μ.1 0 7) = 3)) = false := decide_eq_false (cm_ne.mp h3)
        refine z_rcs hc hH 1 (pc' := 56) (lv' := [(0, .ref 0)]) (st' := [.ref 0]) (μ' := μ) (by rfl) ?_
        refine zq_call hc (by rfl) (gc_letTileGo d' (by omega) μ t c u1 u2 u3 c1 c2 c3 ht4 ht hc34 hc15 hu1 hu14 hw1 hu2 hu24 hw2 hu3 hu34 hw3) (by decide +kernel) (fun r9 μ9 hq => ?_)
        obtain ⟨rfl, rfl⟩ := hq
        show Z 0 59 [(0, .ref 0)] [] (lT μ t u1 u2 u3 c1 c2 c3)
        refine z_rcs hc hH 1 (pc' := 60) (lv' := [(0, .ref 0)]) (st' := [.ref 0]) (μ' := lT μ t u1 u2 u3 c1 c2 c3) (by rfl) ?_
        refine zq_gfr hc hH (by rfl) (ci := 5) (f := 1) (q := 2) (by rfl) (by decide +kernel) (by rfl) (by decide +kernel) ?_
        refine zq_call hc (by rfl) (gc_left9 d' (by omega) (lT μ t u1 u2 u3 c1 c2 c3) lf (by unfold xLf; rw [lT_r (by omega), lT_r (by omega), lT_r (by omega)]; exact hlf)) (by decide +kernel) (fun r9 μ9 hq => ?_)
        obtain ⟨hμ9, rfl⟩ := hq
        rw [hμ9]
        clear hμ9 μ9
        show Z 0 66 [(0, .ref 0)] [.int lf] (lT μ t u1 u2 u3 c1 c2 c3)
        refine zq_if hc hH (by rfl) (tg := 83) (by rfl) (fun h4 => ?_) (fun h4 => ?_)
        · have h4 : (decide (lf ≤ 0)) = true := decide_eq_true (cm_le.mp h4)
          exact absurd (Eq.trans (Eq.symm (hl)) h4) (by decide)
        · have h4 : (decide (lf ≤ 0)) = false := decide_eq_false (cn_le.mp h4)
          refine z_rcs hc hH 2 (pc' := 71) (lv' := [(0, .ref 0)]) (st' := [.ref 0, .ref 0]) (μ' := lT μ t u1 u2 u3 c1 c2 c3) (by rfl) ?_
          refine zq_gfi hc hH (by rfl) (ci := 5) (f := 8) (by rfl) (by decide +kernel) (by rfl) ?_
          rw [lT_0 (by omega)]
          rw [ht]
          refine z_rcs hc hH 2 (pc' := 76) (lv' := [(0, .ref 0)]) (st' := [.int ((nI t) + 1), .ref 0]) (μ' := lT μ t u1 u2 u3 c1 c2 c3) (by rfl) ?_
          rw [nI_s1]
          refine z_rcs hc hH 1 (pc' := 77) (lv' := [(0, .ref 0)]) (st' := [.int 0, .int (nI (t + 1)), .ref 0]) (μ' := lT μ t u1 u2 u3 c1 c2 c3) (by rfl) ?_
          refine zq_call hc (by rfl) (gc_drawTile0 d' (by omega) (lT μ t u1 u2 u3 c1 c2 c3) (t + 1) u1 n0 k0 (by omega) hu14 hu1 hn02 (by rw [lT_o (by omega)]; exact hn0) (by rw [lT_o (by omega)]; exact hS1) hk0 (by rw [lT_r (by omega)]; exact hkk0)) (by decide +kernel) (fun r9 μ9 hq => ?_)
          obtain ⟨rfl, rfl⟩ := hq
          show Z 0 80 [(0, .ref 0)] [] (dT0 (lT μ t u1 u2 u3 c1 c2 c3) u1 n0 k0)
          refine z_rcs hc hH 2 (pc' := 88) (lv' := [(0, .ref 0)]) (st' := [.int 1]) (μ' := dT0 (lT μ t u1 u2 u3 c1 c2 c3) u1 n0 k0) (by rfl) ?_
          exact hr 0 88 _ _ _ (some (.int 1)) (by decide +kernel) (by rfl) (⟨rfl, rfl⟩)
      · have h3 : (decide ((μ.1 0 7) = 3)) = true := decide_eq_true (cn_ne.mp h3)
        exact absurd (Eq.trans (Eq.symm (h073)) h3) (by decide)
    · have h2 : (an) = true := nB_n.mp (cn_eq.mp h2)
      exact absurd (Eq.trans (Eq.symm (ha)) h2) (by decide)
  · have h1 : (decide ((μ.1 0 7) = 2)) = false := decide_eq_false (cn_eq.mp h1)
    exact absurd (Eq.trans (Eq.symm (h07)) h1) (by decide)
theorem gc_pass2u (d : Nat) (hd : 12 ≤ d) (μ : zM) (t c u1 u2 u3 : Nat) (c1 c2 c3 : Bool) (ht4 : t < 4) (ht : μ.1 0 8 = nI t) (hc34 : c < 34) (hc15 : μ.1 0 15 = nI c) (hu1 : (t + 1) % 4 = u1) (hu14 : u1 < 4) (hw1 : ∀ μ1, TE μ μ1 → ∀ d, 6 ≤ d → z_C d mi_X3_waitsFor [.ref (19 + 8 * u1), .int (nI c)] μ1 (zR μ1 (.int (nB c1)))) (hu2 : (t + 2) % 4 = u2) (hu24 : u2 < 4) (hw2 : ∀ μ1, TE μ μ1 → ∀ d, 6 ≤ d → z_C d mi_X3_waitsFor [.ref (19 + 8 * u2), .int (nI c)] μ1 (zR μ1 (.int (nB c2)))) (hu3 : (t + 3) % 4 = u3) (hu34 : u3 < 4) (hw3 : ∀ μ1, TE μ μ1 → ∀ d, 6 ≤ d → z_C d mi_X3_waitsFor [.ref (19 + 8 * u3), .int (nI c)] μ1 (zR μ1 (.int (nB c3)))) (lf : Int32) (hlf : xLf μ = lf) (hl : decide (lf ≤ 0) = true) (W : zM → Prop) (heu : ∀ d, 10 ≤ d → z_C d mi_X6_endUnwon [.ref 0] (lT μ t u1 u2 u3 c1 c2 c3) (fun r μ' => r = none ∧ W μ')) (h07 : decide (μ.1 0 7 = 2) = true) (h073 : decide (μ.1 0 7 = 3) = false) (an : Bool) (han : ∀ d, 2 ≤ d → z_C d mi_X6_someoneSays [.ref 0] μ (zR μ (.int (nB an)))) (ha : an = false) : z_C d mi_X6_pass [.ref 0] μ (fun r μ' => r = some (.int 1) ∧ W μ') := by
  refine z_C_in (by decide) (by omega) (fun d' Z ed hc hr => ?_)
  have hH : zH mi_X6_pass zc_X6_pass 79 6 1 := ⟨by rfl, by rfl, by rfl, by rfl⟩
  refine z_rcs hc hH 1 (pc' := 1) (lv' := [(0, .ref 0)]) (st' := [.ref 0]) (μ' := μ) (by rfl) ?_
  refine zq_gfi hc hH (by rfl) (ci := 5) (f := 7) (by rfl) (by decide +kernel) (by rfl) ?_
  refine z_rcs hc hH 1 (pc' := 5) (lv' := [(0, .ref 0)]) (st' := [.int 2, .int (μ.1 0 7)]) (μ' := μ) (by rfl) ?_
  refine zq_ic hc hH (by rfl) (tg := 18) (by rfl) (fun h1 => ?_) (fun h1 => ?_)
  · have h1 : (decide ((μ.1 0 7) = 2)) = true := decide_eq_true (cm_eq9.mp h1)
    refine z_rcs hc hH 1 (pc' := 19) (lv' := [(0, .ref 0)]) (st' := [.ref 0]) (μ' := μ) (by rfl) ?_
    refine zq_call hc (by rfl) (han d' (by omega)) (by decide +kernel) (fun r9 μ9 hq => ?_)
    obtain ⟨hμ9, rfl⟩ := hq
    rw [hμ9]
    clear hμ9 μ9
    show Z 0 22 [(0, .ref 0)] [.int (nB an)] μ
    refine zq_if hc hH (by rfl) (tg := 32) (by rfl) (fun h2 => ?_) (fun h2 => ?_)
    · have h2 : (an) = false := nB_z.mp (cm_eq9.mp h2)
      refine z_rcs hc hH 1 (pc' := 33) (lv' := [(0, .ref 0)]) (st' := [.ref 0]) (μ' := μ) (by rfl) ?_
      refine zq_gfi hc hH (by rfl) (ci := 5) (f := 7) (by rfl) (by decide +kernel) (by rfl) ?_
      refine z_rcs hc hH 1 (pc' := 37) (lv' := [(0, .ref 0)]) (st' := [.int 3, .int (μ.1 0 7)]) (μ' := μ) (by rfl) ?_
      refine zq_ic hc hH (by rfl) (tg := 55) (by rfl) (fun h3 => ?_) (fun h3 => ?_)
      · have h3 : (decide ((μ.1 0 7) = 3)) = false := decide_eq_false (cm_ne.mp h3)
        refine z_rcs hc hH 1 (pc' := 56) (lv' := [(0, .ref 0)]) (st' := [.ref 0]) (μ' := μ) (by rfl) ?_
        refine zq_call hc (by rfl) (gc_letTileGo d' (by omega) μ t c u1 u2 u3 c1 c2 c3 ht4 ht hc34 hc15 hu1 hu14 hw1 hu2 hu24 hw2 hu3 hu34 hw3) (by decide +kernel) (fun r9 μ9 hq => ?_)
        obtain ⟨rfl, rfl⟩ := hq
        show Z 0 59 [(0, .ref 0)] [] (lT μ t u1 u2 u3 c1 c2 c3)
        refine z_rcs hc hH 1 (pc' := 60) (lv' := [(0, .ref 0)]) (st' := [.ref 0]) (μ' := lT μ t u1 u2 u3 c1 c2 c3) (by rfl) ?_
        refine zq_gfr hc hH (by rfl) (ci := 5) (f := 1) (q := 2) (by rfl) (by decide +kernel) (by rfl) (by decide +kernel) ?_
        refine zq_call hc (by rfl) (gc_left9 d' (by omega) (lT μ t u1 u2 u3 c1 c2 c3) lf (by unfold xLf; rw [lT_r (by omega), lT_r (by omega), lT_r (by omega)]; exact hlf)) (by decide +kernel) (fun r9 μ9 hq => ?_)
        obtain ⟨hμ9, rfl⟩ := hq
        rw [hμ9]
        clear hμ9 μ9
        show Z 0 66 [(0, .ref 0)] [.int lf] (lT μ t u1 u2 u3 c1 c2 c3)
        refine zq_if hc hH (by rfl) (tg := 83) (by rfl) (fun h4 => ?_) (fun h4 => ?_)
        · have h4 : (decide (lf ≤ 0)) = true := decide_eq_true (cm_le.mp h4)
          refine z_rcs hc hH 1 (pc' := 84) (lv' := [(0, .ref 0)]) (st' := [.ref 0]) (μ' := lT μ t u1 u2 u3 c1 c2 c3) (by rfl) ?_
          refine zq_call hc (by rfl) (heu d' (by omega)) (by decide +kernel) (fun r9 μw hq => ?_)
          obtain ⟨rfl, hE⟩ := hq
          show Z 0 87 [(0, .ref 0)] [] μw
          refine z_rcs hc hH 1 (pc' := 88) (lv' := [(0, .ref 0)]) (st' := [.int 1]) (μ' := μw) (by rfl) ?_
          exact hr 0 88 _ _ _ (some (.int 1)) (by decide +kernel) (by rfl) (⟨rfl, hE⟩)
        · have h4 : (decide (lf ≤ 0)) = false := decide_eq_false (cn_le.mp h4)
          exact absurd (Eq.trans (Eq.symm (hl)) h4) (by decide)
      · have h3 : (decide ((μ.1 0 7) = 3)) = true := decide_eq_true (cn_ne.mp h3)
        exact absurd (Eq.trans (Eq.symm (h073)) h3) (by decide)
    · have h2 : (an) = true := nB_n.mp (cn_eq.mp h2)
      exact absurd (Eq.trans (Eq.symm (ha)) h2) (by decide)
  · have h1 : (decide ((μ.1 0 7) = 2)) = false := decide_eq_false (cn_eq.mp h1)
    exact absurd (Eq.trans (Eq.symm (h07)) h1) (by decide)

/-! refused calls -/
set_option maxRecDepth 8000
theorem gx_discP (d : Nat) (hd : 2 ≤ d) (μ : zM) (x b : Int32) (hp : decide (μ.1 0 7 = 1) = false) : z_C d mi_X6_discard [.ref 0, .int x, .int b] μ (fun r μ' => r = some (.int 0) ∧ μ' = μ) := by
  refine z_C_in (by decide) (by omega) (fun d' Z ed hc hr => ?_)
  have hH : zH mi_X6_discard zc_X6_discard 79 6 4 := ⟨by rfl, by rfl, by rfl, by rfl⟩
  refine z_rcs hc hH 1 (pc' := 1) (lv' := [(0, .ref 0), (1, .int x), (2, .int b)]) (st' := [.ref 0]) (μ' := μ) (by rfl) ?_
  refine zq_gfi hc hH (by rfl) (ci := 5) (f := 7) (by rfl) (by decide +kernel) (by rfl) ?_
  refine z_rcs hc hH 1 (pc' := 5) (lv' := [(0, .ref 0), (1, .int x), (2, .int b)]) (st' := [.int 1, .int (μ.1 0 7)]) (μ' := μ) (by rfl) ?_
  refine zq_ic hc hH (by rfl) (tg := 16) (by rfl) (fun h1 => ?_) (fun h1 => ?_)
  · have h1 : (decide ((μ.1 0 7) = 1)) = false := decide_eq_false (cm_ne.mp h1)
    refine z_rcs hc hH 1 (pc' := 17) (lv' := [(0, .ref 0), (1, .int x), (2, .int b)]) (st' := [.int 0]) (μ' := μ) (by rfl) ?_
    exact hr 0 17 _ _ _ (some (.int 0)) (by decide +kernel) (by rfl) (⟨rfl, rfl⟩)
  · have h1 : (decide ((μ.1 0 7) = 1)) = true := decide_eq_true (cn_ne.mp h1)
    exact absurd (Eq.trans (Eq.symm (hp)) h1) (by decide)
theorem gx_discT (d : Nat) (hd : 4 ≤ d) (μ : zM) (x b : Int32) (hmt : ∀ d, 3 ≤ d → z_C d mi_X6_mayThrow [.ref 0, .int x] μ (zR μ (.int 0))) : z_C d mi_X6_discard [.ref 0, .int x, .int b] μ (fun r μ' => r = some (.int 0) ∧ μ' = μ) := by
  refine z_C_in (by decide) (by omega) (fun d' Z ed hc hr => ?_)
  have hH : zH mi_X6_discard zc_X6_discard 79 6 4 := ⟨by rfl, by rfl, by rfl, by rfl⟩
  refine z_rcs hc hH 1 (pc' := 1) (lv' := [(0, .ref 0), (1, .int x), (2, .int b)]) (st' := [.ref 0]) (μ' := μ) (by rfl) ?_
  refine zq_gfi hc hH (by rfl) (ci := 5) (f := 7) (by rfl) (by decide +kernel) (by rfl) ?_
  refine z_rcs hc hH 1 (pc' := 5) (lv' := [(0, .ref 0), (1, .int x), (2, .int b)]) (st' := [.int 1, .int (μ.1 0 7)]) (μ' := μ) (by rfl) ?_
  refine zq_ic hc hH (by rfl) (tg := 16) (by rfl) (fun h1 => ?_) (fun h1 => ?_)
  · have h1 : (decide ((μ.1 0 7) = 1)) = false := decide_eq_false (cm_ne.mp h1)
    refine z_rcs hc hH 1 (pc' := 17) (lv' := [(0, .ref 0), (1, .int x), (2, .int b)]) (st' := [.int 0]) (μ' := μ) (by rfl) ?_
    exact hr 0 17 _ _ _ (some (.int 0)) (by decide +kernel) (by rfl) (⟨rfl, rfl⟩)
  · have h1 : (decide ((μ.1 0 7) = 1)) = true := decide_eq_true (cn_ne.mp h1)
    refine z_rcs hc hH 2 (pc' := 10) (lv' := [(0, .ref 0), (1, .int x), (2, .int b)]) (st' := [.int x, .ref 0]) (μ' := μ) (by rfl) ?_
    refine zq_call hc (by rfl) (hmt d' (by omega)) (by decide +kernel) (fun r9 μ9 hq => ?_)
    obtain ⟨hμ9, rfl⟩ := hq
    rw [hμ9]
    clear hμ9 μ9
    show Z 0 13 [(0, .ref 0), (1, .int x), (2, .int b)] [.int 0] μ
    refine z_rcs hc hH 2 (pc' := 17) (lv' := [(0, .ref 0), (1, .int x), (2, .int b)]) (st' := [.int 0]) (μ' := μ) (by rfl) ?_
    exact hr 0 17 _ _ _ (some (.int 0)) (by decide +kernel) (by rfl) (⟨rfl, rfl⟩)
theorem gx_pass (d : Nat) (hd : 2 ≤ d) (μ : zM) (h2 : decide (μ.1 0 7 = 2) = false) (h3 : decide (μ.1 0 7 = 3) = false) : z_C d mi_X6_pass [.ref 0] μ (fun r μ' => r = some (.int 0) ∧ μ' = μ) := by
  refine z_C_in (by decide) (by omega) (fun d' Z ed hc hr => ?_)
  have hH : zH mi_X6_pass zc_X6_pass 79 6 1 := ⟨by rfl, by rfl, by rfl, by rfl⟩
  refine z_rcs hc hH 1 (pc' := 1) (lv' := [(0, .ref 0)]) (st' := [.ref 0]) (μ' := μ) (by rfl) ?_
  refine zq_gfi hc hH (by rfl) (ci := 5) (f := 7) (by rfl) (by decide +kernel) (by rfl) ?_
  refine z_rcs hc hH 1 (pc' := 5) (lv' := [(0, .ref 0)]) (st' := [.int 2, .int (μ.1 0 7)]) (μ' := μ) (by rfl) ?_
  refine zq_ic hc hH (by rfl) (tg := 18) (by rfl) (fun h1 => ?_) (fun h1 => ?_)
  · have h1 : (decide ((μ.1 0 7) = 2)) = true := decide_eq_true (cm_eq9.mp h1)
    exact absurd (Eq.trans (Eq.symm (h2)) h1) (by decide)
  · have h1 : (decide ((μ.1 0 7) = 2)) = false := decide_eq_false (cn_eq.mp h1)
    refine z_rcs hc hH 1 (pc' := 9) (lv' := [(0, .ref 0)]) (st' := [.ref 0]) (μ' := μ) (by rfl) ?_
    refine zq_gfi hc hH (by rfl) (ci := 5) (f := 7) (by rfl) (by decide +kernel) (by rfl) ?_
    refine z_rcs hc hH 1 (pc' := 13) (lv' := [(0, .ref 0)]) (st' := [.int 3, .int (μ.1 0 7)]) (μ' := μ) (by rfl) ?_
    refine zq_ic hc hH (by rfl) (tg := 18) (by rfl) (fun h2 => ?_) (fun h2 => ?_)
    · have h2 : (decide ((μ.1 0 7) = 3)) = true := decide_eq_true (cm_eq9.mp h2)
      exact absurd (Eq.trans (Eq.symm (h3)) h2) (by decide)
    · have h2 : (decide ((μ.1 0 7) = 3)) = false := decide_eq_false (cn_eq.mp h2)
      refine z_rcs hc hH 1 (pc' := 17) (lv' := [(0, .ref 0)]) (st' := [.int 0]) (μ' := μ) (by rfl) ?_
      exact hr 0 17 _ _ _ (some (.int 0)) (by decide +kernel) (by rfl) (⟨rfl, rfl⟩)
theorem gx_run (d : Nat) (hd : 4 ≤ d) (μ : zM) (y x : Int32) (hmc : ∀ d, 3 ≤ d → z_C d mi_X6_mayClaimSet [.ref 0, .int y] μ (zR μ (.int 0))) : z_C d mi_X6_run [.ref 0, .int y, .int x] μ (fun r μ' => r = some (.int 0) ∧ μ' = μ) := by
  refine z_C_in (by decide) (by omega) (fun d' Z ed hc hr => ?_)
  have hH : zH mi_X6_run zc_X6_run 79 6 6 := ⟨by rfl, by rfl, by rfl, by rfl⟩
  refine z_rcs hc hH 2 (pc' := 2) (lv' := [(0, .ref 0), (1, .int y), (2, .int x)]) (st' := [.int y, .ref 0]) (μ' := μ) (by rfl) ?_
  refine zq_call hc (by rfl) (hmc d' (by omega)) (by decide +kernel) (fun r9 μ9 hq => ?_)
  obtain ⟨hμ9, rfl⟩ := hq
  rw [hμ9]
  clear hμ9 μ9
  show Z 0 5 [(0, .ref 0), (1, .int y), (2, .int x)] [.int 0] μ
  refine z_rcs hc hH 2 (pc' := 28) (lv' := [(0, .ref 0), (1, .int y), (2, .int x)]) (st' := [.int 0]) (μ' := μ) (by rfl) ?_
  exact hr 0 28 _ _ _ (some (.int 0)) (by decide +kernel) (by rfl) (⟨rfl, rfl⟩)
theorem gx_three (d : Nat) (hd : 4 ≤ d) (μ : zM) (y : Int32) (hmc : ∀ d, 3 ≤ d → z_C d mi_X6_mayClaimSet [.ref 0, .int y] μ (zR μ (.int 0))) : z_C d mi_X6_three [.ref 0, .int y] μ (fun r μ' => r = some (.int 0) ∧ μ' = μ) := by
  refine z_C_in (by decide) (by omega) (fun d' Z ed hc hr => ?_)
  have hH : zH mi_X6_three zc_X6_three 79 6 4 := ⟨by rfl, by rfl, by rfl, by rfl⟩
  refine z_rcs hc hH 2 (pc' := 2) (lv' := [(0, .ref 0), (1, .int y)]) (st' := [.int y, .ref 0]) (μ' := μ) (by rfl) ?_
  refine zq_call hc (by rfl) (hmc d' (by omega)) (by decide +kernel) (fun r9 μ9 hq => ?_)
  obtain ⟨hμ9, rfl⟩ := hq
  rw [hμ9]
  clear hμ9 μ9
  show Z 0 5 [(0, .ref 0), (1, .int y)] [.int 0] μ
  refine z_rcs hc hH 2 (pc' := 28) (lv' := [(0, .ref 0), (1, .int y)]) (st' := [.int 0]) (μ' := μ) (by rfl) ?_
  exact hr 0 28 _ _ _ (some (.int 0)) (by decide +kernel) (by rfl) (⟨rfl, rfl⟩)
theorem gx_four (d : Nat) (hd : 4 ≤ d) (μ : zM) (y : Int32) (hmc : ∀ d, 3 ≤ d → z_C d mi_X6_mayClaimSet [.ref 0, .int y] μ (zR μ (.int 0))) : z_C d mi_X6_four [.ref 0, .int y] μ (fun r μ' => r = some (.int 0) ∧ μ' = μ) := by
  refine z_C_in (by decide) (by omega) (fun d' Z ed hc hr => ?_)
  have hH : zH mi_X6_four zc_X6_four 79 6 2 := ⟨by rfl, by rfl, by rfl, by rfl⟩
  refine z_rcs hc hH 2 (pc' := 2) (lv' := [(0, .ref 0), (1, .int y)]) (st' := [.int y, .ref 0]) (μ' := μ) (by rfl) ?_
  refine zq_call hc (by rfl) (hmc d' (by omega)) (by decide +kernel) (fun r9 μ9 hq => ?_)
  obtain ⟨hμ9, rfl⟩ := hq
  rw [hμ9]
  clear hμ9 μ9
  show Z 0 5 [(0, .ref 0), (1, .int y)] [.int 0] μ
  refine z_rcs hc hH 2 (pc' := 39) (lv' := [(0, .ref 0), (1, .int y)]) (st' := [.int 0]) (μ' := μ) (by rfl) ?_
  exact hr 0 39 _ _ _ (some (.int 0)) (by decide +kernel) (by rfl) (⟨rfl, rfl⟩)
theorem gx_hide (d : Nat) (hd : 4 ≤ d) (μ : zM) (x : Int32) (hmm : ∀ d, 3 ≤ d → z_C d mi_X6_mayMakeFour [.ref 0] μ (zR μ (.int 0))) : z_C d mi_X6_hide [.ref 0, .int x] μ (fun r μ' => r = some (.int 0) ∧ μ' = μ) := by
  refine z_C_in (by decide) (by omega) (fun d' Z ed hc hr => ?_)
  have hH : zH mi_X6_hide zc_X6_hide 79 6 2 := ⟨by rfl, by rfl, by rfl, by rfl⟩
  refine z_rcs hc hH 1 (pc' := 1) (lv' := [(0, .ref 0), (1, .int x)]) (st' := [.ref 0]) (μ' := μ) (by rfl) ?_
  refine zq_call hc (by rfl) (hmm d' (by omega)) (by decide +kernel) (fun r9 μ9 hq => ?_)
  obtain ⟨hμ9, rfl⟩ := hq
  rw [hμ9]
  clear hμ9 μ9
  show Z 0 4 [(0, .ref 0), (1, .int x)] [.int 0] μ
  refine z_rcs hc hH 2 (pc' := 27) (lv' := [(0, .ref 0), (1, .int x)]) (st' := [.int 0]) (μ' := μ) (by rfl) ?_
  exact hr 0 27 _ _ _ (some (.int 0)) (by decide +kernel) (by rfl) (⟨rfl, rfl⟩)
theorem gx_add (d : Nat) (hd : 4 ≤ d) (μ : zM) (x : Int32) (hmm : ∀ d, 3 ≤ d → z_C d mi_X6_mayMakeFour [.ref 0] μ (zR μ (.int 0))) : z_C d mi_X6_add [.ref 0, .int x] μ (fun r μ' => r = some (.int 0) ∧ μ' = μ) := by
  refine z_C_in (by decide) (by omega) (fun d' Z ed hc hr => ?_)
  have hH : zH mi_X6_add zc_X6_add 79 6 2 := ⟨by rfl, by rfl, by rfl, by rfl⟩
  refine z_rcs hc hH 1 (pc' := 1) (lv' := [(0, .ref 0), (1, .int x)]) (st' := [.ref 0]) (μ' := μ) (by rfl) ?_
  refine zq_call hc (by rfl) (hmm d' (by omega)) (by decide +kernel) (fun r9 μ9 hq => ?_)
  obtain ⟨hμ9, rfl⟩ := hq
  rw [hμ9]
  clear hμ9 μ9
  show Z 0 4 [(0, .ref 0), (1, .int x)] [.int 0] μ
  refine z_rcs hc hH 2 (pc' := 26) (lv' := [(0, .ref 0), (1, .int x)]) (st' := [.int 0]) (μ' := μ) (by rfl) ?_
  exact hr 0 26 _ _ _ (some (.int 0)) (by decide +kernel) (by rfl) (⟨rfl, rfl⟩)
theorem gx_hideF (d : Nat) (hd : 4 ≤ d) (μ : zM) (x : Int32) (t : Nat) (ht4 : t < 4) (ht : μ.1 0 8 = nI t) (hmm : ∀ d, 3 ≤ d → z_C d mi_X6_mayMakeFour [.ref 0] μ (zR μ (.int 1))) (hf : decide (4 ≤ fr μ (20 + 8 * t) x) = false) : z_C d mi_X6_hide [.ref 0, .int x] μ (fun r μ' => r = some (.int 0) ∧ μ' = μ) := by
  refine z_C_in (by decide) (by omega) (fun d' Z ed hc hr => ?_)
  have hH : zH mi_X6_hide zc_X6_hide 79 6 2 := ⟨by rfl, by rfl, by rfl, by rfl⟩
  refine z_rcs hc hH 1 (pc' := 1) (lv' := [(0, .ref 0), (1, .int x)]) (st' := [.ref 0]) (μ' := μ) (by rfl) ?_
  refine zq_call hc (by rfl) (hmm d' (by omega)) (by decide +kernel) (fun r9 μ9 hq => ?_)
  obtain ⟨hμ9, rfl⟩ := hq
  rw [hμ9]
  clear hμ9 μ9
  show Z 0 4 [(0, .ref 0), (1, .int x)] [.int 1] μ
  refine z_rcs hc hH 3 (pc' := 9) (lv' := [(0, .ref 0), (1, .int x)]) (st' := [.ref 0, .ref 0]) (μ' := μ) (by rfl) ?_
  refine zq_gfi hc hH (by rfl) (ci := 5) (f := 8) (by rfl) (by decide +kernel) (by rfl) ?_
  rw [ht]
  refine zq_call hc (by rfl) (gc_at4 d' (by omega) μ t ht4) (by decide +kernel) (fun r9 μ9 hq => ?_)
  obtain ⟨hμ9, rfl⟩ := hq
  rw [hμ9]
  clear hμ9 μ9
  show Z 0 15 [(0, .ref 0), (1, .int x)] [.ref (18 + 8 * t)] μ
  refine zq_gfr hc hH (by rfl) (ci := 1) (f := 0) (q := 19 + 8 * t) (by rfl) (sj (P := fun i => okf 79 1 0 (18 + 8 * i)) ht4 (by decide +kernel)) (by rfl) (sj (P := fun i => Nat.beq (z_gr (18 + 8 * i) 0) (19 + 8 * i)) ht4 (by decide +kernel)) ?_
  refine z_rcs hc hH 1 (pc' := 19) (lv' := [(0, .ref 0), (1, .int x)]) (st' := [.int x, .ref (19 + 8 * t)]) (μ' := μ) (by rfl) ?_
  refine zq_call hc (z_clv (by rfl) (by rfl) (by rfl) (by rfl) (by rfl) (by rfl) (sj (P := fun i => okr 79 2 (19 + 8 * i)) ht4 (by decide +kernel)) (by rfl) (by rfl)) (gc_free d' (by omega) μ t ht4 x) (by decide +kernel) (fun r9 μ9 hq => ?_)
  obtain ⟨hμ9, rfl⟩ := hq
  rw [hμ9]
  clear hμ9 μ9
  show Z 0 22 [(0, .ref 0), (1, .int x)] [.int (fr μ (20 + 8 * t) x)] μ
  refine z_rcs hc hH 1 (pc' := 23) (lv' := [(0, .ref 0), (1, .int x)]) (st' := [.int 4, .int (fr μ (20 + 8 * t) x)]) (μ' := μ) (by rfl) ?_
  refine zq_ic hc hH (by rfl) (tg := 28) (by rfl) (fun h1 => ?_) (fun h1 => ?_)
  · have h1 : (decide (4 ≤ (fr μ (20 + 8 * t) x))) = true := decide_eq_true (cm_ge.mp h1)
    exact absurd (Eq.trans (Eq.symm (hf)) h1) (by decide)
  · have h1 : (decide (4 ≤ (fr μ (20 + 8 * t) x))) = false := decide_eq_false (cn_ge.mp h1)
    refine z_rcs hc hH 1 (pc' := 27) (lv' := [(0, .ref 0), (1, .int x)]) (st' := [.int 0]) (μ' := μ) (by rfl) ?_
    exact hr 0 27 _ _ _ (some (.int 0)) (by decide +kernel) (by rfl) (⟨rfl, rfl⟩)
theorem gx_winP (d : Nat) (hd : 2 ≤ d) (μ : zM) (hp : decide (μ.1 0 7 = 1) = false) : z_C d mi_X6_win [.ref 0] μ (fun r μ' => r = some (.int 0) ∧ μ' = μ) := by
  refine z_C_in (by decide) (by omega) (fun d' Z ed hc hr => ?_)
  have hH : zH mi_X6_win zc_X6_win 79 6 6 := ⟨by rfl, by rfl, by rfl, by rfl⟩
  refine z_rcs hc hH 1 (pc' := 1) (lv' := [(0, .ref 0)]) (st' := [.ref 0]) (μ' := μ) (by rfl) ?_
  refine zq_gfi hc hH (by rfl) (ci := 5) (f := 7) (by rfl) (by decide +kernel) (by rfl) ?_
  refine z_rcs hc hH 1 (pc' := 5) (lv' := [(0, .ref 0)]) (st' := [.int 1, .int (μ.1 0 7)]) (μ' := μ) (by rfl) ?_
  refine zq_ic hc hH (by rfl) (tg := 28) (by rfl) (fun h1 => ?_) (fun h1 => ?_)
  · have h1 : (decide ((μ.1 0 7) = 1)) = false := decide_eq_false (cm_ne.mp h1)
    refine z_rcs hc hH 1 (pc' := 29) (lv' := [(0, .ref 0)]) (st' := [.int 0]) (μ' := μ) (by rfl) ?_
    exact hr 0 29 _ _ _ (some (.int 0)) (by decide +kernel) (by rfl) (⟨rfl, rfl⟩)
  · have h1 : (decide ((μ.1 0 7) = 1)) = true := decide_eq_true (cn_ne.mp h1)
    exact absurd (Eq.trans (Eq.symm (hp)) h1) (by decide)
theorem gx_winT (d : Nat) (hd : 2 ≤ d) (μ : zM) (hp : decide (μ.1 0 7 = 1) = true) (h15 : decide (μ.1 0 15 = -1) = true) : z_C d mi_X6_win [.ref 0] μ (fun r μ' => r = some (.int 0) ∧ μ' = μ) := by
  refine z_C_in (by decide) (by omega) (fun d' Z ed hc hr => ?_)
  have hH : zH mi_X6_win zc_X6_win 79 6 6 := ⟨by rfl, by rfl, by rfl, by rfl⟩
  refine z_rcs hc hH 1 (pc' := 1) (lv' := [(0, .ref 0)]) (st' := [.ref 0]) (μ' := μ) (by rfl) ?_
  refine zq_gfi hc hH (by rfl) (ci := 5) (f := 7) (by rfl) (by decide +kernel) (by rfl) ?_
  refine z_rcs hc hH 1 (pc' := 5) (lv' := [(0, .ref 0)]) (st' := [.int 1, .int (μ.1 0 7)]) (μ' := μ) (by rfl) ?_
  refine zq_ic hc hH (by rfl) (tg := 28) (by rfl) (fun h1 => ?_) (fun h1 => ?_)
  · have h1 : (decide ((μ.1 0 7) = 1)) = false := decide_eq_false (cm_ne.mp h1)
    exact absurd (Eq.trans (Eq.symm (hp)) h1) (by decide)
  · have h1 : (decide ((μ.1 0 7) = 1)) = true := decide_eq_true (cn_ne.mp h1)
    refine z_rcs hc hH 1 (pc' := 9) (lv' := [(0, .ref 0)]) (st' := [.ref 0]) (μ' := μ) (by rfl) ?_
    refine zq_gfi hc hH (by rfl) (ci := 5) (f := 15) (by rfl) (by decide +kernel) (by rfl) ?_
    refine z_rcs hc hH 1 (pc' := 13) (lv' := [(0, .ref 0)]) (st' := [.int (-1), .int (μ.1 0 15)]) (μ' := μ) (by rfl) ?_
    refine zq_ic hc hH (by rfl) (tg := 28) (by rfl) (fun h2 => ?_) (fun h2 => ?_)
    · have h2 : (decide ((μ.1 0 15) = (-1))) = true := decide_eq_true (cm_eq9.mp h2)
      refine z_rcs hc hH 1 (pc' := 29) (lv' := [(0, .ref 0)]) (st' := [.int 0]) (μ' := μ) (by rfl) ?_
      exact hr 0 29 _ _ _ (some (.int 0)) (by decide +kernel) (by rfl) (⟨rfl, rfl⟩)
    · have h2 : (decide ((μ.1 0 15) = (-1))) = false := decide_eq_false (cn_eq.mp h2)
      exact absurd (Eq.trans (Eq.symm (h15)) h2) (by decide)
theorem gx_claimP (d : Nat) (hd : 2 ≤ d) (μ : zM) (y : Int32) (h2 : decide (μ.1 0 7 = 2) = false) (h3 : decide (μ.1 0 7 = 3) = false) : z_C d mi_X6_claim [.ref 0, .int y] μ (fun r μ' => r = some (.int 0) ∧ μ' = μ) := by
  refine z_C_in (by decide) (by omega) (fun d' Z ed hc hr => ?_)
  have hH : zH mi_X6_claim zc_X6_claim 79 6 5 := ⟨by rfl, by rfl, by rfl, by rfl⟩
  refine z_rcs hc hH 1 (pc' := 1) (lv' := [(0, .ref 0), (1, .int y)]) (st' := [.ref 0]) (μ' := μ) (by rfl) ?_
  refine zq_gfi hc hH (by rfl) (ci := 5) (f := 7) (by rfl) (by decide +kernel) (by rfl) ?_
  refine z_rcs hc hH 1 (pc' := 5) (lv' := [(0, .ref 0), (1, .int y)]) (st' := [.int 2, .int (μ.1 0 7)]) (μ' := μ) (by rfl) ?_
  refine zq_ic hc hH (by rfl) (tg := 16) (by rfl) (fun h1 => ?_) (fun h1 => ?_)
  · have h1 : (decide ((μ.1 0 7) = 2)) = true := decide_eq_true (cm_eq9.mp h1)
    exact absurd (Eq.trans (Eq.symm (h2)) h1) (by decide)
  · have h1 : (decide ((μ.1 0 7) = 2)) = false := decide_eq_false (cn_eq.mp h1)
    refine z_rcs hc hH 1 (pc' := 9) (lv' := [(0, .ref 0), (1, .int y)]) (st' := [.ref 0]) (μ' := μ) (by rfl) ?_
    refine zq_gfi hc hH (by rfl) (ci := 5) (f := 7) (by rfl) (by decide +kernel) (by rfl) ?_
    refine z_rcs hc hH 1 (pc' := 13) (lv' := [(0, .ref 0), (1, .int y)]) (st' := [.int 3, .int (μ.1 0 7)]) (μ' := μ) (by rfl) ?_
    refine zq_ic hc hH (by rfl) (tg := 31) (by rfl) (fun h2 => ?_) (fun h2 => ?_)
    · have h2 : (decide ((μ.1 0 7) = 3)) = false := decide_eq_false (cm_ne.mp h2)
      refine z_rcs hc hH 1 (pc' := 32) (lv' := [(0, .ref 0), (1, .int y)]) (st' := [.int 0]) (μ' := μ) (by rfl) ?_
      exact hr 0 32 _ _ _ (some (.int 0)) (by decide +kernel) (by rfl) (⟨rfl, rfl⟩)
    · have h2 : (decide ((μ.1 0 7) = 3)) = true := decide_eq_true (cn_ne.mp h2)
      exact absurd (Eq.trans (Eq.symm (h3)) h2) (by decide)
theorem gx_claimS (d : Nat) (hd : 2 ≤ d) (μ : zM) (y : Int32) (hs : ∀ d, 1 ≤ d → z_C d mi_X6_isSeat [.int y] μ (zR μ (.int 0))) : z_C d mi_X6_claim [.ref 0, .int y] μ (fun r μ' => r = some (.int 0) ∧ μ' = μ) := by
  refine z_C_in (by decide) (by omega) (fun d' Z ed hc hr => ?_)
  have hH : zH mi_X6_claim zc_X6_claim 79 6 5 := ⟨by rfl, by rfl, by rfl, by rfl⟩
  refine z_rcs hc hH 1 (pc' := 1) (lv' := [(0, .ref 0), (1, .int y)]) (st' := [.ref 0]) (μ' := μ) (by rfl) ?_
  refine zq_gfi hc hH (by rfl) (ci := 5) (f := 7) (by rfl) (by decide +kernel) (by rfl) ?_
  refine z_rcs hc hH 1 (pc' := 5) (lv' := [(0, .ref 0), (1, .int y)]) (st' := [.int 2, .int (μ.1 0 7)]) (μ' := μ) (by rfl) ?_
  refine zq_ic hc hH (by rfl) (tg := 16) (by rfl) (fun h1 => ?_) (fun h1 => ?_)
  · have h1 : (decide ((μ.1 0 7) = 2)) = true := decide_eq_true (cm_eq9.mp h1)
    refine z_rcs hc hH 1 (pc' := 17) (lv' := [(0, .ref 0), (1, .int y)]) (st' := [.int y]) (μ' := μ) (by rfl) ?_
    refine zq_call hc (by rfl) (hs d' (by omega)) (by decide +kernel) (fun r9 μ9 hq => ?_)
    obtain ⟨hμ9, rfl⟩ := hq
    rw [hμ9]
    clear hμ9 μ9
    show Z 0 20 [(0, .ref 0), (1, .int y)] [.int 0] μ
    refine z_rcs hc hH 2 (pc' := 32) (lv' := [(0, .ref 0), (1, .int y)]) (st' := [.int 0]) (μ' := μ) (by rfl) ?_
    exact hr 0 32 _ _ _ (some (.int 0)) (by decide +kernel) (by rfl) (⟨rfl, rfl⟩)
  · have h1 : (decide ((μ.1 0 7) = 2)) = false := decide_eq_false (cn_eq.mp h1)
    refine z_rcs hc hH 1 (pc' := 9) (lv' := [(0, .ref 0), (1, .int y)]) (st' := [.ref 0]) (μ' := μ) (by rfl) ?_
    refine zq_gfi hc hH (by rfl) (ci := 5) (f := 7) (by rfl) (by decide +kernel) (by rfl) ?_
    refine z_rcs hc hH 1 (pc' := 13) (lv' := [(0, .ref 0), (1, .int y)]) (st' := [.int 3, .int (μ.1 0 7)]) (μ' := μ) (by rfl) ?_
    refine zq_ic hc hH (by rfl) (tg := 31) (by rfl) (fun h2 => ?_) (fun h2 => ?_)
    · have h2 : (decide ((μ.1 0 7) = 3)) = false := decide_eq_false (cm_ne.mp h2)
      refine z_rcs hc hH 1 (pc' := 32) (lv' := [(0, .ref 0), (1, .int y)]) (st' := [.int 0]) (μ' := μ) (by rfl) ?_
      exact hr 0 32 _ _ _ (some (.int 0)) (by decide +kernel) (by rfl) (⟨rfl, rfl⟩)
    · have h2 : (decide ((μ.1 0 7) = 3)) = true := decide_eq_true (cn_ne.mp h2)
      refine z_rcs hc hH 1 (pc' := 17) (lv' := [(0, .ref 0), (1, .int y)]) (st' := [.int y]) (μ' := μ) (by rfl) ?_
      refine zq_call hc (by rfl) (hs d' (by omega)) (by decide +kernel) (fun r9 μ9 hq => ?_)
      obtain ⟨hμ9, rfl⟩ := hq
      rw [hμ9]
      clear hμ9 μ9
      show Z 0 20 [(0, .ref 0), (1, .int y)] [.int 0] μ
      refine z_rcs hc hH 2 (pc' := 32) (lv' := [(0, .ref 0), (1, .int y)]) (st' := [.int 0]) (μ' := μ) (by rfl) ?_
      exact hr 0 32 _ _ _ (some (.int 0)) (by decide +kernel) (by rfl) (⟨rfl, rfl⟩)
theorem gx_dealP (d : Nat) (hd : 2 ≤ d) (μ : zM) (sd : Int64) (hp : decide (μ.1 0 7 = 0) = false) : z_C d mi_X6_deal [.ref 0, .long sd] μ (fun r μ' => r = some (.int 0) ∧ μ' = μ) := by
  refine z_C_in (by decide) (by omega) (fun d' Z ed hc hr => ?_)
  have hH : zH mi_X6_deal zc_X6_deal 79 6 6 := ⟨by rfl, by rfl, by rfl, by rfl⟩
  refine z_rcs hc hH 1 (pc' := 1) (lv' := [(0, .ref 0), (1, .long sd)]) (st' := [.ref 0]) (μ' := μ) (by rfl) ?_
  refine zq_gfi hc hH (by rfl) (ci := 5) (f := 7) (by rfl) (by decide +kernel) (by rfl) ?_
  refine zq_if hc hH (by rfl) (tg := 14) (by rfl) (fun h1 => ?_) (fun h1 => ?_)
  · have h1 : (decide ((μ.1 0 7) = 0)) = false := decide_eq_false (cm_ne.mp h1)
    refine z_rcs hc hH 1 (pc' := 15) (lv' := [(0, .ref 0), (1, .long sd)]) (st' := [.int 0]) (μ' := μ) (by rfl) ?_
    exact hr 0 15 _ _ _ (some (.int 0)) (by decide +kernel) (by rfl) (⟨rfl, rfl⟩)
  · have h1 : (decide ((μ.1 0 7) = 0)) = true := decide_eq_true (cn_ne.mp h1)
    exact absurd (Eq.trans (Eq.symm (hp)) h1) (by decide)
theorem gx_dealE (d : Nat) (hd : 2 ≤ d) (μ : zM) (sd : Int64) (hp : decide (μ.1 0 7 = 0) = true) (he : decide (μ.1 0 13 = 0) = false) : z_C d mi_X6_deal [.ref 0, .long sd] μ (fun r μ' => r = some (.int 0) ∧ μ' = μ) := by
  refine z_C_in (by decide) (by omega) (fun d' Z ed hc hr => ?_)
  have hH : zH mi_X6_deal zc_X6_deal 79 6 6 := ⟨by rfl, by rfl, by rfl, by rfl⟩
  refine z_rcs hc hH 1 (pc' := 1) (lv' := [(0, .ref 0), (1, .long sd)]) (st' := [.ref 0]) (μ' := μ) (by rfl) ?_
  refine zq_gfi hc hH (by rfl) (ci := 5) (f := 7) (by rfl) (by decide +kernel) (by rfl) ?_
  refine zq_if hc hH (by rfl) (tg := 14) (by rfl) (fun h1 => ?_) (fun h1 => ?_)
  · have h1 : (decide ((μ.1 0 7) = 0)) = false := decide_eq_false (cm_ne.mp h1)
    exact absurd (Eq.trans (Eq.symm (hp)) h1) (by decide)
  · have h1 : (decide ((μ.1 0 7) = 0)) = true := decide_eq_true (cn_ne.mp h1)
    refine z_rcs hc hH 1 (pc' := 8) (lv' := [(0, .ref 0), (1, .long sd)]) (st' := [.ref 0]) (μ' := μ) (by rfl) ?_
    refine zq_gfi hc hH (by rfl) (ci := 5) (f := 13) (by rfl) (by decide +kernel) (by rfl) ?_
    refine zq_if hc hH (by rfl) (tg := 16) (by rfl) (fun h2 => ?_) (fun h2 => ?_)
    · have h2 : (decide ((μ.1 0 13) = 0)) = true := decide_eq_true (cm_eq9.mp h2)
      exact absurd (Eq.trans (Eq.symm (he)) h2) (by decide)
    · have h2 : (decide ((μ.1 0 13) = 0)) = false := decide_eq_false (cn_eq.mp h2)
      refine z_rcs hc hH 1 (pc' := 15) (lv' := [(0, .ref 0), (1, .long sd)]) (st' := [.int 0]) (μ' := μ) (by rfl) ?_
      exact hr 0 15 _ _ _ (some (.int 0)) (by decide +kernel) (by rfl) (⟨rfl, rfl⟩)
theorem mr_discP (d : Nat) (hd : 2 ≤ d) (μ : zM) (x b : Int32) (hp : decide (μ.1 50 44 = 1) = false) : z_C d mi_X7_discard [.ref 50, .int x, .int b] μ (fun r μ' => r = some (.int 0) ∧ μ' = z_ui μ 50 0 0) := by
  refine z_C_in (by decide) (by omega) (fun d' Z ed hc hr => ?_)
  have hH : zH mi_X7_discard zc_X7_discard 79 7 5 := ⟨by rfl, by rfl, by rfl, by rfl⟩
  refine z_rcs hc hH 2 (pc' := 2) (lv' := [(0, .ref 50), (1, .int x), (2, .int b)]) (st' := [.int 0, .ref 50]) (μ' := μ) (by rfl) ?_
  refine zq_pfi hc hH (by rfl) (ci := 6) (f := 0) (by rfl) (by decide +kernel) (by rfl) ?_
  show Z 0 5 [(0, .ref 50), (1, .int x), (2, .int b)] [] (z_ui μ 50 0 0)
  refine z_rcs hc hH 1 (pc' := 6) (lv' := [(0, .ref 50), (1, .int x), (2, .int b)]) (st' := [.ref 50]) (μ' := z_ui μ 50 0 0) (by rfl) ?_
  refine zq_gfi hc hH (by rfl) (ci := 6) (f := 44) (by rfl) (by decide +kernel) (by rfl) ?_
  rw [ui_k (by omega)]
  refine z_rcs hc hH 1 (pc' := 10) (lv' := [(0, .ref 50), (1, .int x), (2, .int b)]) (st' := [.int 1, .int (μ.1 50 44)]) (μ' := z_ui μ 50 0 0) (by rfl) ?_
  refine zq_ic hc hH (by rfl) (tg := 32) (by rfl) (fun h1 => ?_) (fun h1 => ?_)
  · have h1 : (decide ((μ.1 50 44) = 1)) = false := decide_eq_false (cm_ne.mp h1)
    refine z_rcs hc hH 1 (pc' := 33) (lv' := [(0, .ref 50), (1, .int x), (2, .int b)]) (st' := [.int 0]) (μ' := z_ui μ 50 0 0) (by rfl) ?_
    exact hr 0 33 _ _ _ (some (.int 0)) (by decide +kernel) (by rfl) (⟨rfl, rfl⟩)
  · have h1 : (decide ((μ.1 50 44) = 1)) = true := decide_eq_true (cn_ne.mp h1)
    exact absurd (Eq.trans (Eq.symm (hp)) h1) (by decide)
theorem mr_discK (d : Nat) (hd : 2 ≤ d) (μ : zM) (x b : Int32) (hk : ∀ d, 1 ≤ d → z_C d mi_X7_isKind [.int x] (z_ui μ 50 0 0) (zR (z_ui μ 50 0 0) (.int 0))) : z_C d mi_X7_discard [.ref 50, .int x, .int b] μ (fun r μ' => r = some (.int 0) ∧ μ' = z_ui μ 50 0 0) := by
  refine z_C_in (by decide) (by omega) (fun d' Z ed hc hr => ?_)
  have hH : zH mi_X7_discard zc_X7_discard 79 7 5 := ⟨by rfl, by rfl, by rfl, by rfl⟩
  refine z_rcs hc hH 2 (pc' := 2) (lv' := [(0, .ref 50), (1, .int x), (2, .int b)]) (st' := [.int 0, .ref 50]) (μ' := μ) (by rfl) ?_
  refine zq_pfi hc hH (by rfl) (ci := 6) (f := 0) (by rfl) (by decide +kernel) (by rfl) ?_
  show Z 0 5 [(0, .ref 50), (1, .int x), (2, .int b)] [] (z_ui μ 50 0 0)
  refine z_rcs hc hH 1 (pc' := 6) (lv' := [(0, .ref 50), (1, .int x), (2, .int b)]) (st' := [.ref 50]) (μ' := z_ui μ 50 0 0) (by rfl) ?_
  refine zq_gfi hc hH (by rfl) (ci := 6) (f := 44) (by rfl) (by decide +kernel) (by rfl) ?_
  rw [ui_k (by omega)]
  refine z_rcs hc hH 1 (pc' := 10) (lv' := [(0, .ref 50), (1, .int x), (2, .int b)]) (st' := [.int 1, .int (μ.1 50 44)]) (μ' := z_ui μ 50 0 0) (by rfl) ?_
  refine zq_ic hc hH (by rfl) (tg := 32) (by rfl) (fun h1 => ?_) (fun h1 => ?_)
  · have h1 : (decide ((μ.1 50 44) = 1)) = false := decide_eq_false (cm_ne.mp h1)
    refine z_rcs hc hH 1 (pc' := 33) (lv' := [(0, .ref 50), (1, .int x), (2, .int b)]) (st' := [.int 0]) (μ' := z_ui μ 50 0 0) (by rfl) ?_
    exact hr 0 33 _ _ _ (some (.int 0)) (by decide +kernel) (by rfl) (⟨rfl, rfl⟩)
  · have h1 : (decide ((μ.1 50 44) = 1)) = true := decide_eq_true (cn_ne.mp h1)
    refine z_rcs hc hH 1 (pc' := 14) (lv' := [(0, .ref 50), (1, .int x), (2, .int b)]) (st' := [.int x]) (μ' := z_ui μ 50 0 0) (by rfl) ?_
    refine zq_call hc (by rfl) (hk d' (by omega)) (by decide +kernel) (fun r9 μ9 hq => ?_)
    obtain ⟨hμ9, rfl⟩ := hq
    rw [hμ9]
    clear hμ9 μ9
    show Z 0 17 [(0, .ref 50), (1, .int x), (2, .int b)] [.int 0] (z_ui μ 50 0 0)
    refine z_rcs hc hH 2 (pc' := 33) (lv' := [(0, .ref 50), (1, .int x), (2, .int b)]) (st' := [.int 0]) (μ' := z_ui μ 50 0 0) (by rfl) ?_
    exact hr 0 33 _ _ _ (some (.int 0)) (by decide +kernel) (by rfl) (⟨rfl, rfl⟩)
theorem mr_pass (d : Nat) (hd : 2 ≤ d) (μ : zM) (hp : decide (2 ≤ μ.1 50 44) = false) : z_C d mi_X7_pass [.ref 50] μ (fun r μ' => r = some (.int 0) ∧ μ' = z_ui μ 50 0 0) := by
  refine z_C_in (by decide) (by omega) (fun d' Z ed hc hr => ?_)
  have hH : zH mi_X7_pass zc_X7_pass 79 7 2 := ⟨by rfl, by rfl, by rfl, by rfl⟩
  refine z_rcs hc hH 2 (pc' := 2) (lv' := [(0, .ref 50)]) (st' := [.int 0, .ref 50]) (μ' := μ) (by rfl) ?_
  refine zq_pfi hc hH (by rfl) (ci := 6) (f := 0) (by rfl) (by decide +kernel) (by rfl) ?_
  show Z 0 5 [(0, .ref 50)] [] (z_ui μ 50 0 0)
  refine z_rcs hc hH 1 (pc' := 6) (lv' := [(0, .ref 50)]) (st' := [.ref 50]) (μ' := z_ui μ 50 0 0) (by rfl) ?_
  refine zq_gfi hc hH (by rfl) (ci := 6) (f := 44) (by rfl) (by decide +kernel) (by rfl) ?_
  rw [ui_k (by omega)]
  refine z_rcs hc hH 1 (pc' := 10) (lv' := [(0, .ref 50)]) (st' := [.int 2, .int (μ.1 50 44)]) (μ' := z_ui μ 50 0 0) (by rfl) ?_
  refine zq_ic hc hH (by rfl) (tg := 15) (by rfl) (fun h1 => ?_) (fun h1 => ?_)
  · have h1 : (decide (2 ≤ (μ.1 50 44))) = true := decide_eq_true (cm_ge.mp h1)
    exact absurd (Eq.trans (Eq.symm (hp)) h1) (by decide)
  · have h1 : (decide (2 ≤ (μ.1 50 44))) = false := decide_eq_false (cn_ge.mp h1)
    refine z_rcs hc hH 1 (pc' := 14) (lv' := [(0, .ref 50)]) (st' := [.int 0]) (μ' := z_ui μ 50 0 0) (by rfl) ?_
    exact hr 0 14 _ _ _ (some (.int 0)) (by decide +kernel) (by rfl) (⟨rfl, rfl⟩)
theorem mr_run (d : Nat) (hd : 3 ≤ d) (μ : zM) (y x : Int32) (hmc : ∀ d, 2 ≤ d → z_C d mi_X7_mayClaim [.ref 50, .int y] (z_ui μ 50 0 0) (zR (z_ui μ 50 0 0) (.int 0))) : z_C d mi_X7_run [.ref 50, .int y, .int x] μ (fun r μ' => r = some (.int 0) ∧ μ' = z_ui μ 50 0 0) := by
  refine z_C_in (by decide) (by omega) (fun d' Z ed hc hr => ?_)
  have hH : zH mi_X7_run zc_X7_run 79 7 5 := ⟨by rfl, by rfl, by rfl, by rfl⟩
  refine z_rcs hc hH 2 (pc' := 2) (lv' := [(0, .ref 50), (1, .int y), (2, .int x)]) (st' := [.int 0, .ref 50]) (μ' := μ) (by rfl) ?_
  refine zq_pfi hc hH (by rfl) (ci := 6) (f := 0) (by rfl) (by decide +kernel) (by rfl) ?_
  show Z 0 5 [(0, .ref 50), (1, .int y), (2, .int x)] [] (z_ui μ 50 0 0)
  refine z_rcs hc hH 2 (pc' := 7) (lv' := [(0, .ref 50), (1, .int y), (2, .int x)]) (st' := [.int y, .ref 50]) (μ' := z_ui μ 50 0 0) (by rfl) ?_
  refine zq_call hc (by rfl) (hmc d' (by omega)) (by decide +kernel) (fun r9 μ9 hq => ?_)
  obtain ⟨hμ9, rfl⟩ := hq
  rw [hμ9]
  clear hμ9 μ9
  show Z 0 10 [(0, .ref 50), (1, .int y), (2, .int x)] [.int 0] (z_ui μ 50 0 0)
  refine z_rcs hc hH 2 (pc' := 51) (lv' := [(0, .ref 50), (1, .int y), (2, .int x)]) (st' := [.int 0]) (μ' := z_ui μ 50 0 0) (by rfl) ?_
  exact hr 0 51 _ _ _ (some (.int 0)) (by decide +kernel) (by rfl) (⟨rfl, rfl⟩)
theorem mr_three (d : Nat) (hd : 3 ≤ d) (μ : zM) (y : Int32) (hmc : ∀ d, 2 ≤ d → z_C d mi_X7_mayClaim [.ref 50, .int y] (z_ui μ 50 0 0) (zR (z_ui μ 50 0 0) (.int 0))) : z_C d mi_X7_three [.ref 50, .int y] μ (fun r μ' => r = some (.int 0) ∧ μ' = z_ui μ 50 0 0) := by
  refine z_C_in (by decide) (by omega) (fun d' Z ed hc hr => ?_)
  have hH : zH mi_X7_three zc_X7_three 79 7 3 := ⟨by rfl, by rfl, by rfl, by rfl⟩
  refine z_rcs hc hH 2 (pc' := 2) (lv' := [(0, .ref 50), (1, .int y)]) (st' := [.int 0, .ref 50]) (μ' := μ) (by rfl) ?_
  refine zq_pfi hc hH (by rfl) (ci := 6) (f := 0) (by rfl) (by decide +kernel) (by rfl) ?_
  show Z 0 5 [(0, .ref 50), (1, .int y)] [] (z_ui μ 50 0 0)
  refine z_rcs hc hH 2 (pc' := 7) (lv' := [(0, .ref 50), (1, .int y)]) (st' := [.int y, .ref 50]) (μ' := z_ui μ 50 0 0) (by rfl) ?_
  refine zq_call hc (by rfl) (hmc d' (by omega)) (by decide +kernel) (fun r9 μ9 hq => ?_)
  obtain ⟨hμ9, rfl⟩ := hq
  rw [hμ9]
  clear hμ9 μ9
  show Z 0 10 [(0, .ref 50), (1, .int y)] [.int 0] (z_ui μ 50 0 0)
  refine z_rcs hc hH 2 (pc' := 27) (lv' := [(0, .ref 50), (1, .int y)]) (st' := [.int 0]) (μ' := z_ui μ 50 0 0) (by rfl) ?_
  exact hr 0 27 _ _ _ (some (.int 0)) (by decide +kernel) (by rfl) (⟨rfl, rfl⟩)
theorem mr_four (d : Nat) (hd : 3 ≤ d) (μ : zM) (y : Int32) (hmc : ∀ d, 2 ≤ d → z_C d mi_X7_mayClaim [.ref 50, .int y] (z_ui μ 50 0 0) (zR (z_ui μ 50 0 0) (.int 0))) : z_C d mi_X7_four [.ref 50, .int y] μ (fun r μ' => r = some (.int 0) ∧ μ' = z_ui μ 50 0 0) := by
  refine z_C_in (by decide) (by omega) (fun d' Z ed hc hr => ?_)
  have hH : zH mi_X7_four zc_X7_four 79 7 2 := ⟨by rfl, by rfl, by rfl, by rfl⟩
  refine z_rcs hc hH 2 (pc' := 2) (lv' := [(0, .ref 50), (1, .int y)]) (st' := [.int 0, .ref 50]) (μ' := μ) (by rfl) ?_
  refine zq_pfi hc hH (by rfl) (ci := 6) (f := 0) (by rfl) (by decide +kernel) (by rfl) ?_
  show Z 0 5 [(0, .ref 50), (1, .int y)] [] (z_ui μ 50 0 0)
  refine z_rcs hc hH 2 (pc' := 7) (lv' := [(0, .ref 50), (1, .int y)]) (st' := [.int y, .ref 50]) (μ' := z_ui μ 50 0 0) (by rfl) ?_
  refine zq_call hc (by rfl) (hmc d' (by omega)) (by decide +kernel) (fun r9 μ9 hq => ?_)
  obtain ⟨hμ9, rfl⟩ := hq
  rw [hμ9]
  clear hμ9 μ9
  show Z 0 10 [(0, .ref 50), (1, .int y)] [.int 0] (z_ui μ 50 0 0)
  refine z_rcs hc hH 2 (pc' := 35) (lv' := [(0, .ref 50), (1, .int y)]) (st' := [.int 0]) (μ' := z_ui μ 50 0 0) (by rfl) ?_
  exact hr 0 35 _ _ _ (some (.int 0)) (by decide +kernel) (by rfl) (⟨rfl, rfl⟩)
theorem mr_hide (d : Nat) (hd : 3 ≤ d) (μ : zM) (x : Int32) (hmm : ∀ d, 2 ≤ d → z_C d mi_X7_mayMake [.ref 50] (z_ui μ 50 0 0) (zR (z_ui μ 50 0 0) (.int 0))) : z_C d mi_X7_hide [.ref 50, .int x] μ (fun r μ' => r = some (.int 0) ∧ μ' = z_ui μ 50 0 0) := by
  refine z_C_in (by decide) (by omega) (fun d' Z ed hc hr => ?_)
  have hH : zH mi_X7_hide zc_X7_hide 79 7 2 := ⟨by rfl, by rfl, by rfl, by rfl⟩
  refine z_rcs hc hH 2 (pc' := 2) (lv' := [(0, .ref 50), (1, .int x)]) (st' := [.int 0, .ref 50]) (μ' := μ) (by rfl) ?_
  refine zq_pfi hc hH (by rfl) (ci := 6) (f := 0) (by rfl) (by decide +kernel) (by rfl) ?_
  show Z 0 5 [(0, .ref 50), (1, .int x)] [] (z_ui μ 50 0 0)
  refine z_rcs hc hH 1 (pc' := 6) (lv' := [(0, .ref 50), (1, .int x)]) (st' := [.ref 50]) (μ' := z_ui μ 50 0 0) (by rfl) ?_
  refine zq_call hc (by rfl) (hmm d' (by omega)) (by decide +kernel) (fun r9 μ9 hq => ?_)
  obtain ⟨hμ9, rfl⟩ := hq
  rw [hμ9]
  clear hμ9 μ9
  show Z 0 9 [(0, .ref 50), (1, .int x)] [.int 0] (z_ui μ 50 0 0)
  refine z_rcs hc hH 2 (pc' := 33) (lv' := [(0, .ref 50), (1, .int x)]) (st' := [.int 0]) (μ' := z_ui μ 50 0 0) (by rfl) ?_
  exact hr 0 33 _ _ _ (some (.int 0)) (by decide +kernel) (by rfl) (⟨rfl, rfl⟩)
theorem mr_hideK (d : Nat) (hd : 3 ≤ d) (μ : zM) (x : Int32) (hmm : ∀ d, 2 ≤ d → z_C d mi_X7_mayMake [.ref 50] (z_ui μ 50 0 0) (zR (z_ui μ 50 0 0) (.int 1))) (hk : ∀ d, 1 ≤ d → z_C d mi_X7_isKind [.int x] (z_ui μ 50 0 0) (zR (z_ui μ 50 0 0) (.int 0))) : z_C d mi_X7_hide [.ref 50, .int x] μ (fun r μ' => r = some (.int 0) ∧ μ' = z_ui μ 50 0 0) := by
  refine z_C_in (by decide) (by omega) (fun d' Z ed hc hr => ?_)
  have hH : zH mi_X7_hide zc_X7_hide 79 7 2 := ⟨by rfl, by rfl, by rfl, by rfl⟩
  refine z_rcs hc hH 2 (pc' := 2) (lv' := [(0, .ref 50), (1, .int x)]) (st' := [.int 0, .ref 50]) (μ' := μ) (by rfl) ?_
  refine zq_pfi hc hH (by rfl) (ci := 6) (f := 0) (by rfl) (by decide +kernel) (by rfl) ?_
  show Z 0 5 [(0, .ref 50), (1, .int x)] [] (z_ui μ 50 0 0)
  refine z_rcs hc hH 1 (pc' := 6) (lv' := [(0, .ref 50), (1, .int x)]) (st' := [.ref 50]) (μ' := z_ui μ 50 0 0) (by rfl) ?_
  refine zq_call hc (by rfl) (hmm d' (by omega)) (by decide +kernel) (fun r9 μ9 hq => ?_)
  obtain ⟨hμ9, rfl⟩ := hq
  rw [hμ9]
  clear hμ9 μ9
  show Z 0 9 [(0, .ref 50), (1, .int x)] [.int 1] (z_ui μ 50 0 0)
  refine z_rcs hc hH 2 (pc' := 13) (lv' := [(0, .ref 50), (1, .int x)]) (st' := [.int x]) (μ' := z_ui μ 50 0 0) (by rfl) ?_
  refine zq_call hc (by rfl) (hk d' (by omega)) (by decide +kernel) (fun r9 μ9 hq => ?_)
  obtain ⟨hμ9, rfl⟩ := hq
  rw [hμ9]
  clear hμ9 μ9
  show Z 0 16 [(0, .ref 50), (1, .int x)] [.int 0] (z_ui μ 50 0 0)
  refine z_rcs hc hH 2 (pc' := 33) (lv' := [(0, .ref 50), (1, .int x)]) (st' := [.int 0]) (μ' := z_ui μ 50 0 0) (by rfl) ?_
  exact hr 0 33 _ _ _ (some (.int 0)) (by decide +kernel) (by rfl) (⟨rfl, rfl⟩)
theorem mr_add (d : Nat) (hd : 3 ≤ d) (μ : zM) (x : Int32) (hmm : ∀ d, 2 ≤ d → z_C d mi_X7_mayMake [.ref 50] (z_ui μ 50 0 0) (zR (z_ui μ 50 0 0) (.int 0))) : z_C d mi_X7_add [.ref 50, .int x] μ (fun r μ' => r = some (.int 0) ∧ μ' = z_ui μ 50 0 0) := by
  refine z_C_in (by decide) (by omega) (fun d' Z ed hc hr => ?_)
  have hH : zH mi_X7_add zc_X7_add 79 7 3 := ⟨by rfl, by rfl, by rfl, by rfl⟩
  refine z_rcs hc hH 2 (pc' := 2) (lv' := [(0, .ref 50), (1, .int x)]) (st' := [.int 0, .ref 50]) (μ' := μ) (by rfl) ?_
  refine zq_pfi hc hH (by rfl) (ci := 6) (f := 0) (by rfl) (by decide +kernel) (by rfl) ?_
  show Z 0 5 [(0, .ref 50), (1, .int x)] [] (z_ui μ 50 0 0)
  refine z_rcs hc hH 1 (pc' := 6) (lv' := [(0, .ref 50), (1, .int x)]) (st' := [.ref 50]) (μ' := z_ui μ 50 0 0) (by rfl) ?_
  refine zq_call hc (by rfl) (hmm d' (by omega)) (by decide +kernel) (fun r9 μ9 hq => ?_)
  obtain ⟨hμ9, rfl⟩ := hq
  rw [hμ9]
  clear hμ9 μ9
  show Z 0 9 [(0, .ref 50), (1, .int x)] [.int 0] (z_ui μ 50 0 0)
  refine z_rcs hc hH 2 (pc' := 32) (lv' := [(0, .ref 50), (1, .int x)]) (st' := [.int 0]) (μ' := z_ui μ 50 0 0) (by rfl) ?_
  exact hr 0 32 _ _ _ (some (.int 0)) (by decide +kernel) (by rfl) (⟨rfl, rfl⟩)
theorem mr_addK (d : Nat) (hd : 3 ≤ d) (μ : zM) (x : Int32) (hmm : ∀ d, 2 ≤ d → z_C d mi_X7_mayMake [.ref 50] (z_ui μ 50 0 0) (zR (z_ui μ 50 0 0) (.int 1))) (hk : ∀ d, 1 ≤ d → z_C d mi_X7_isKind [.int x] (z_ui μ 50 0 0) (zR (z_ui μ 50 0 0) (.int 0))) : z_C d mi_X7_add [.ref 50, .int x] μ (fun r μ' => r = some (.int 0) ∧ μ' = z_ui μ 50 0 0) := by
  refine z_C_in (by decide) (by omega) (fun d' Z ed hc hr => ?_)
  have hH : zH mi_X7_add zc_X7_add 79 7 3 := ⟨by rfl, by rfl, by rfl, by rfl⟩
  refine z_rcs hc hH 2 (pc' := 2) (lv' := [(0, .ref 50), (1, .int x)]) (st' := [.int 0, .ref 50]) (μ' := μ) (by rfl) ?_
  refine zq_pfi hc hH (by rfl) (ci := 6) (f := 0) (by rfl) (by decide +kernel) (by rfl) ?_
  show Z 0 5 [(0, .ref 50), (1, .int x)] [] (z_ui μ 50 0 0)
  refine z_rcs hc hH 1 (pc' := 6) (lv' := [(0, .ref 50), (1, .int x)]) (st' := [.ref 50]) (μ' := z_ui μ 50 0 0) (by rfl) ?_
  refine zq_call hc (by rfl) (hmm d' (by omega)) (by decide +kernel) (fun r9 μ9 hq => ?_)
  obtain ⟨hμ9, rfl⟩ := hq
  rw [hμ9]
  clear hμ9 μ9
  show Z 0 9 [(0, .ref 50), (1, .int x)] [.int 1] (z_ui μ 50 0 0)
  refine z_rcs hc hH 2 (pc' := 13) (lv' := [(0, .ref 50), (1, .int x)]) (st' := [.int x]) (μ' := z_ui μ 50 0 0) (by rfl) ?_
  refine zq_call hc (by rfl) (hk d' (by omega)) (by decide +kernel) (fun r9 μ9 hq => ?_)
  obtain ⟨hμ9, rfl⟩ := hq
  rw [hμ9]
  clear hμ9 μ9
  show Z 0 16 [(0, .ref 50), (1, .int x)] [.int 0] (z_ui μ 50 0 0)
  refine z_rcs hc hH 2 (pc' := 32) (lv' := [(0, .ref 50), (1, .int x)]) (st' := [.int 0]) (μ' := z_ui μ 50 0 0) (by rfl) ?_
  exact hr 0 32 _ _ _ (some (.int 0)) (by decide +kernel) (by rfl) (⟨rfl, rfl⟩)
theorem mr_winP (d : Nat) (hd : 2 ≤ d) (μ : zM) (hp : decide (μ.1 50 44 = 1) = false) : z_C d mi_X7_win [.ref 50] μ (fun r μ' => r = some (.int 0) ∧ μ' = z_ui μ 50 0 0) := by
  refine z_C_in (by decide) (by omega) (fun d' Z ed hc hr => ?_)
  have hH : zH mi_X7_win zc_X7_win 79 7 4 := ⟨by rfl, by rfl, by rfl, by rfl⟩
  refine z_rcs hc hH 2 (pc' := 2) (lv' := [(0, .ref 50)]) (st' := [.int 0, .ref 50]) (μ' := μ) (by rfl) ?_
  refine zq_pfi hc hH (by rfl) (ci := 6) (f := 0) (by rfl) (by decide +kernel) (by rfl) ?_
  show Z 0 5 [(0, .ref 50)] [] (z_ui μ 50 0 0)
  refine z_rcs hc hH 1 (pc' := 6) (lv' := [(0, .ref 50)]) (st' := [.ref 50]) (μ' := z_ui μ 50 0 0) (by rfl) ?_
  refine zq_gfi hc hH (by rfl) (ci := 6) (f := 44) (by rfl) (by decide +kernel) (by rfl) ?_
  rw [ui_k (by omega)]
  refine z_rcs hc hH 1 (pc' := 10) (lv' := [(0, .ref 50)]) (st' := [.int 1, .int (μ.1 50 44)]) (μ' := z_ui μ 50 0 0) (by rfl) ?_
  refine zq_ic hc hH (by rfl) (tg := 20) (by rfl) (fun h1 => ?_) (fun h1 => ?_)
  · have h1 : (decide ((μ.1 50 44) = 1)) = false := decide_eq_false (cm_ne.mp h1)
    refine z_rcs hc hH 1 (pc' := 21) (lv' := [(0, .ref 50)]) (st' := [.int 0]) (μ' := z_ui μ 50 0 0) (by rfl) ?_
    exact hr 0 21 _ _ _ (some (.int 0)) (by decide +kernel) (by rfl) (⟨rfl, rfl⟩)
  · have h1 : (decide ((μ.1 50 44) = 1)) = true := decide_eq_true (cn_ne.mp h1)
    exact absurd (Eq.trans (Eq.symm (hp)) h1) (by decide)
theorem mr_winT (d : Nat) (hd : 2 ≤ d) (μ : zM) (hp : decide (μ.1 50 44 = 1) = true) (hj : decide (μ.1 50 57 = 0) = false) : z_C d mi_X7_win [.ref 50] μ (fun r μ' => r = some (.int 0) ∧ μ' = z_ui μ 50 0 0) := by
  refine z_C_in (by decide) (by omega) (fun d' Z ed hc hr => ?_)
  have hH : zH mi_X7_win zc_X7_win 79 7 4 := ⟨by rfl, by rfl, by rfl, by rfl⟩
  refine z_rcs hc hH 2 (pc' := 2) (lv' := [(0, .ref 50)]) (st' := [.int 0, .ref 50]) (μ' := μ) (by rfl) ?_
  refine zq_pfi hc hH (by rfl) (ci := 6) (f := 0) (by rfl) (by decide +kernel) (by rfl) ?_
  show Z 0 5 [(0, .ref 50)] [] (z_ui μ 50 0 0)
  refine z_rcs hc hH 1 (pc' := 6) (lv' := [(0, .ref 50)]) (st' := [.ref 50]) (μ' := z_ui μ 50 0 0) (by rfl) ?_
  refine zq_gfi hc hH (by rfl) (ci := 6) (f := 44) (by rfl) (by decide +kernel) (by rfl) ?_
  rw [ui_k (by omega)]
  refine z_rcs hc hH 1 (pc' := 10) (lv' := [(0, .ref 50)]) (st' := [.int 1, .int (μ.1 50 44)]) (μ' := z_ui μ 50 0 0) (by rfl) ?_
  refine zq_ic hc hH (by rfl) (tg := 20) (by rfl) (fun h1 => ?_) (fun h1 => ?_)
  · have h1 : (decide ((μ.1 50 44) = 1)) = false := decide_eq_false (cm_ne.mp h1)
    exact absurd (Eq.trans (Eq.symm (hp)) h1) (by decide)
  · have h1 : (decide ((μ.1 50 44) = 1)) = true := decide_eq_true (cn_ne.mp h1)
    refine z_rcs hc hH 1 (pc' := 14) (lv' := [(0, .ref 50)]) (st' := [.ref 50]) (μ' := z_ui μ 50 0 0) (by rfl) ?_
    refine zq_gfi hc hH (by rfl) (ci := 6) (f := 57) (by rfl) (by decide +kernel) (by rfl) ?_
    rw [ui_k (by omega)]
    refine zq_if hc hH (by rfl) (tg := 22) (by rfl) (fun h2 => ?_) (fun h2 => ?_)
    · have h2 : (decide ((μ.1 50 57) = 0)) = true := decide_eq_true (cm_eq9.mp h2)
      exact absurd (Eq.trans (Eq.symm (hj)) h2) (by decide)
    · have h2 : (decide ((μ.1 50 57) = 0)) = false := decide_eq_false (cn_eq.mp h2)
      refine z_rcs hc hH 1 (pc' := 21) (lv' := [(0, .ref 50)]) (st' := [.int 0]) (μ' := z_ui μ 50 0 0) (by rfl) ?_
      exact hr 0 21 _ _ _ (some (.int 0)) (by decide +kernel) (by rfl) (⟨rfl, rfl⟩)
theorem mr_claimP (d : Nat) (hd : 2 ≤ d) (μ : zM) (y : Int32) (hp : decide (μ.1 50 44 < 2) = true) : z_C d mi_X7_claim [.ref 50, .int y] μ (fun r μ' => r = some (.int 0) ∧ μ' = z_ui μ 50 0 0) := by
  refine z_C_in (by decide) (by omega) (fun d' Z ed hc hr => ?_)
  have hH : zH mi_X7_claim zc_X7_claim 79 7 5 := ⟨by rfl, by rfl, by rfl, by rfl⟩
  refine z_rcs hc hH 2 (pc' := 2) (lv' := [(0, .ref 50), (1, .int y)]) (st' := [.int 0, .ref 50]) (μ' := μ) (by rfl) ?_
  refine zq_pfi hc hH (by rfl) (ci := 6) (f := 0) (by rfl) (by decide +kernel) (by rfl) ?_
  show Z 0 5 [(0, .ref 50), (1, .int y)] [] (z_ui μ 50 0 0)
  refine z_rcs hc hH 1 (pc' := 6) (lv' := [(0, .ref 50), (1, .int y)]) (st' := [.ref 50]) (μ' := z_ui μ 50 0 0) (by rfl) ?_
  refine zq_gfi hc hH (by rfl) (ci := 6) (f := 44) (by rfl) (by decide +kernel) (by rfl) ?_
  rw [ui_k (by omega)]
  refine z_rcs hc hH 1 (pc' := 10) (lv' := [(0, .ref 50), (1, .int y)]) (st' := [.int 2, .int (μ.1 50 44)]) (μ' := z_ui μ 50 0 0) (by rfl) ?_
  refine zq_ic hc hH (by rfl) (tg := 46) (by rfl) (fun h1 => ?_) (fun h1 => ?_)
  · have h1 : (decide ((μ.1 50 44) < 2)) = true := decide_eq_true (cm_lt.mp h1)
    refine z_rcs hc hH 1 (pc' := 47) (lv' := [(0, .ref 50), (1, .int y)]) (st' := [.int 0]) (μ' := z_ui μ 50 0 0) (by rfl) ?_
    exact hr 0 47 _ _ _ (some (.int 0)) (by decide +kernel) (by rfl) (⟨rfl, rfl⟩)
  · have h1 : (decide ((μ.1 50 44) < 2)) = false := decide_eq_false (cn_lt.mp h1)
    exact absurd (Eq.trans (Eq.symm (hp)) h1) (by decide)
theorem mr_claimS (d : Nat) (hd : 2 ≤ d) (μ : zM) (y : Int32) (hs : ∀ d, 1 ≤ d → z_C d mi_X7_isSeat [.int y] (z_ui μ 50 0 0) (zR (z_ui μ 50 0 0) (.int 0))) : z_C d mi_X7_claim [.ref 50, .int y] μ (fun r μ' => r = some (.int 0) ∧ μ' = z_ui μ 50 0 0) := by
  refine z_C_in (by decide) (by omega) (fun d' Z ed hc hr => ?_)
  have hH : zH mi_X7_claim zc_X7_claim 79 7 5 := ⟨by rfl, by rfl, by rfl, by rfl⟩
  refine z_rcs hc hH 2 (pc' := 2) (lv' := [(0, .ref 50), (1, .int y)]) (st' := [.int 0, .ref 50]) (μ' := μ) (by rfl) ?_
  refine zq_pfi hc hH (by rfl) (ci := 6) (f := 0) (by rfl) (by decide +kernel) (by rfl) ?_
  show Z 0 5 [(0, .ref 50), (1, .int y)] [] (z_ui μ 50 0 0)
  refine z_rcs hc hH 1 (pc' := 6) (lv' := [(0, .ref 50), (1, .int y)]) (st' := [.ref 50]) (μ' := z_ui μ 50 0 0) (by rfl) ?_
  refine zq_gfi hc hH (by rfl) (ci := 6) (f := 44) (by rfl) (by decide +kernel) (by rfl) ?_
  rw [ui_k (by omega)]
  refine z_rcs hc hH 1 (pc' := 10) (lv' := [(0, .ref 50), (1, .int y)]) (st' := [.int 2, .int (μ.1 50 44)]) (μ' := z_ui μ 50 0 0) (by rfl) ?_
  refine zq_ic hc hH (by rfl) (tg := 46) (by rfl) (fun h1 => ?_) (fun h1 => ?_)
  · have h1 : (decide ((μ.1 50 44) < 2)) = true := decide_eq_true (cm_lt.mp h1)
    refine z_rcs hc hH 1 (pc' := 47) (lv' := [(0, .ref 50), (1, .int y)]) (st' := [.int 0]) (μ' := z_ui μ 50 0 0) (by rfl) ?_
    exact hr 0 47 _ _ _ (some (.int 0)) (by decide +kernel) (by rfl) (⟨rfl, rfl⟩)
  · have h1 : (decide ((μ.1 50 44) < 2)) = false := decide_eq_false (cn_lt.mp h1)
    refine z_rcs hc hH 1 (pc' := 14) (lv' := [(0, .ref 50), (1, .int y)]) (st' := [.int y]) (μ' := z_ui μ 50 0 0) (by rfl) ?_
    refine zq_call hc (by rfl) (hs d' (by omega)) (by decide +kernel) (fun r9 μ9 hq => ?_)
    obtain ⟨hμ9, rfl⟩ := hq
    rw [hμ9]
    clear hμ9 μ9
    show Z 0 17 [(0, .ref 50), (1, .int y)] [.int 0] (z_ui μ 50 0 0)
    refine z_rcs hc hH 2 (pc' := 47) (lv' := [(0, .ref 50), (1, .int y)]) (st' := [.int 0]) (μ' := z_ui μ 50 0 0) (by rfl) ?_
    exact hr 0 47 _ _ _ (some (.int 0)) (by decide +kernel) (by rfl) (⟨rfl, rfl⟩)
theorem mr_dealP (d : Nat) (hd : 2 ≤ d) (μ : zM) (sd : Int64) (hp : decide (μ.1 50 44 = 0) = false) : z_C d mi_X7_deal [.ref 50, .long sd] μ (fun r μ' => r = some (.int 0) ∧ μ' = z_ui μ 50 0 0) := by
  refine z_C_in (by decide) (by omega) (fun d' Z ed hc hr => ?_)
  have hH : zH mi_X7_deal zc_X7_deal 79 7 8 := ⟨by rfl, by rfl, by rfl, by rfl⟩
  refine z_rcs hc hH 2 (pc' := 2) (lv' := [(0, .ref 50), (1, .long sd)]) (st' := [.int 0, .ref 50]) (μ' := μ) (by rfl) ?_
  refine zq_pfi hc hH (by rfl) (ci := 6) (f := 0) (by rfl) (by decide +kernel) (by rfl) ?_
  show Z 0 5 [(0, .ref 50), (1, .long sd)] [] (z_ui μ 50 0 0)
  refine z_rcs hc hH 1 (pc' := 6) (lv' := [(0, .ref 50), (1, .long sd)]) (st' := [.ref 50]) (μ' := z_ui μ 50 0 0) (by rfl) ?_
  refine zq_gfi hc hH (by rfl) (ci := 6) (f := 44) (by rfl) (by decide +kernel) (by rfl) ?_
  rw [ui_k (by omega)]
  refine zq_if hc hH (by rfl) (tg := 19) (by rfl) (fun h1 => ?_) (fun h1 => ?_)
  · have h1 : (decide ((μ.1 50 44) = 0)) = false := decide_eq_false (cm_ne.mp h1)
    refine z_rcs hc hH 1 (pc' := 20) (lv' := [(0, .ref 50), (1, .long sd)]) (st' := [.int 0]) (μ' := z_ui μ 50 0 0) (by rfl) ?_
    exact hr 0 20 _ _ _ (some (.int 0)) (by decide +kernel) (by rfl) (⟨rfl, rfl⟩)
  · have h1 : (decide ((μ.1 50 44) = 0)) = true := decide_eq_true (cn_ne.mp h1)
    exact absurd (Eq.trans (Eq.symm (hp)) h1) (by decide)
theorem mr_dealE (d : Nat) (hd : 2 ≤ d) (μ : zM) (sd : Int64) (hp : decide (μ.1 50 44 = 0) = true) (he : decide (μ.1 50 54 = 0) = false) : z_C d mi_X7_deal [.ref 50, .long sd] μ (fun r μ' => r = some (.int 0) ∧ μ' = z_ui μ 50 0 0) := by
  refine z_C_in (by decide) (by omega) (fun d' Z ed hc hr => ?_)
  have hH : zH mi_X7_deal zc_X7_deal 79 7 8 := ⟨by rfl, by rfl, by rfl, by rfl⟩
  refine z_rcs hc hH 2 (pc' := 2) (lv' := [(0, .ref 50), (1, .long sd)]) (st' := [.int 0, .ref 50]) (μ' := μ) (by rfl) ?_
  refine zq_pfi hc hH (by rfl) (ci := 6) (f := 0) (by rfl) (by decide +kernel) (by rfl) ?_
  show Z 0 5 [(0, .ref 50), (1, .long sd)] [] (z_ui μ 50 0 0)
  refine z_rcs hc hH 1 (pc' := 6) (lv' := [(0, .ref 50), (1, .long sd)]) (st' := [.ref 50]) (μ' := z_ui μ 50 0 0) (by rfl) ?_
  refine zq_gfi hc hH (by rfl) (ci := 6) (f := 44) (by rfl) (by decide +kernel) (by rfl) ?_
  rw [ui_k (by omega)]
  refine zq_if hc hH (by rfl) (tg := 19) (by rfl) (fun h1 => ?_) (fun h1 => ?_)
  · have h1 : (decide ((μ.1 50 44) = 0)) = false := decide_eq_false (cm_ne.mp h1)
    exact absurd (Eq.trans (Eq.symm (hp)) h1) (by decide)
  · have h1 : (decide ((μ.1 50 44) = 0)) = true := decide_eq_true (cn_ne.mp h1)
    refine z_rcs hc hH 1 (pc' := 13) (lv' := [(0, .ref 50), (1, .long sd)]) (st' := [.ref 50]) (μ' := z_ui μ 50 0 0) (by rfl) ?_
    refine zq_gfi hc hH (by rfl) (ci := 6) (f := 54) (by rfl) (by decide +kernel) (by rfl) ?_
    rw [ui_k (by omega)]
    refine zq_if hc hH (by rfl) (tg := 21) (by rfl) (fun h2 => ?_) (fun h2 => ?_)
    · have h2 : (decide ((μ.1 50 54) = 0)) = true := decide_eq_true (cm_eq9.mp h2)
      exact absurd (Eq.trans (Eq.symm (he)) h2) (by decide)
    · have h2 : (decide ((μ.1 50 54) = 0)) = false := decide_eq_false (cn_eq.mp h2)
      refine z_rcs hc hH 1 (pc' := 20) (lv' := [(0, .ref 50), (1, .long sd)]) (st' := [.int 0]) (μ' := z_ui μ 50 0 0) (by rfl) ?_
      exact hr 0 20 _ _ _ (some (.int 0)) (by decide +kernel) (by rfl) (⟨rfl, rfl⟩)

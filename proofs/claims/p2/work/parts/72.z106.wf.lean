/-! waits of the class leaves all alone -/
set_option maxRecDepth 8000
theorem gq_waits (d : Nat) (hd : 702 ≤ d) (μ : zM) (s : Nat) (hs4 : s < 4) (hwt : ∀ d, 701 ≤ d → z_C d mi_X3_waiting [.ref (19 + 8 * s)] μ (fun r μ' => μ' = μ ∧ ∃ x, r = some (.long x))) : z_C d mi_X6_waits [.ref 0, .int (nI s)] μ (fun r μ' => μ' = μ ∧ ∃ x, r = some (.long x)) := by
  refine z_C_in (by decide) (by omega) (fun d' Z ed hc hr => ?_)
  have hH : zH mi_X6_waits zc_X6_waits 79 6 2 := ⟨by rfl, by rfl, by rfl, by rfl⟩
  refine z_rcs hc hH 1 (pc' := 1) (lv' := [(0, .ref 0), (1, .int (nI s))]) (st' := [.int (nI s)]) (μ' := μ) (by rfl) ?_
  refine zq_call hc (by rfl) (gc_isSeat d' (by omega) μ (nI s)) (by decide +kernel) (fun r9 μ9 hq => ?_)
  obtain ⟨hμ9, rfl⟩ := hq
  rw [hμ9]
  clear hμ9 μ9
  show Z 0 4 [(0, .ref 0), (1, .int (nI s))] [.int (nB (sI (nI s)))] μ
  refine zq_if hc hH (by rfl) (tg := 21) (by rfl) (fun h1 => ?_) (fun h1 => ?_)
  · have h1 : (sI (nI s)) = false := nB_z.mp (cm_eq9.mp h1)
    exact absurd (Eq.trans (Eq.symm (sI_n hs4)) h1) (by decide)
  · have h1 : (sI (nI s)) = true := nB_n.mp (cn_eq.mp h1)
    refine z_rcs hc hH 2 (pc' := 9) (lv' := [(0, .ref 0), (1, .int (nI s))]) (st' := [.int (nI s), .ref 0]) (μ' := μ) (by rfl) ?_
    refine zq_call hc (by rfl) (gc_at4 d' (by omega) μ s hs4) (by decide +kernel) (fun r9 μ9 hq => ?_)
    obtain ⟨hμ9, rfl⟩ := hq
    rw [hμ9]
    clear hμ9 μ9
    show Z 0 12 [(0, .ref 0), (1, .int (nI s))] [.ref (18 + 8 * s)] μ
    refine zq_gfr hc hH (by rfl) (ci := 1) (f := 0) (q := 19 + 8 * s) (by rfl) (sj (P := fun i => okf 79 1 0 (18 + 8 * i)) hs4 (by decide +kernel)) (by rfl) (sj (P := fun i => Nat.beq (z_gr (18 + 8 * i) 0) (19 + 8 * i)) hs4 (by decide +kernel)) ?_
    refine zq_call hc (z_clv (by rfl) (by rfl) (by rfl) (by rfl) (by rfl) (by rfl) (sj (P := fun i => okr 79 2 (19 + 8 * i)) hs4 (by decide +kernel)) (by rfl) (by rfl)) (hwt d' (by omega)) (by decide +kernel) (fun r9 μ9 hq => ?_)
    obtain ⟨hμ9, V, rfl⟩ := hq
    rw [hμ9]
    clear hμ9 μ9
    show Z 0 18 [(0, .ref 0), (1, .int (nI s))] [.long V] μ
    refine z_rcs hc hH 1 (pc' := 22) (lv' := [(0, .ref 0), (1, .int (nI s))]) (st' := [.long V]) (μ' := μ) (by rfl) ?_
    exact hr 0 22 _ _ _ (some (.long V)) (by decide +kernel) (by rfl) (⟨rfl, _, rfl⟩)
theorem gq_waitsS (d : Nat) (hd : 3 ≤ d) (μ : zM) (y : Int32) (hy : sI y = false) : z_C d mi_X6_waits [.ref 0, .int y] μ (fun r μ' => μ' = μ ∧ ∃ x, r = some (.long x)) := by
  refine z_C_in (by decide) (by omega) (fun d' Z ed hc hr => ?_)
  have hH : zH mi_X6_waits zc_X6_waits 79 6 2 := ⟨by rfl, by rfl, by rfl, by rfl⟩
  refine z_rcs hc hH 1 (pc' := 1) (lv' := [(0, .ref 0), (1, .int y)]) (st' := [.int y]) (μ' := μ) (by rfl) ?_
  refine zq_call hc (by rfl) (gc_isSeat d' (by omega) μ y) (by decide +kernel) (fun r9 μ9 hq => ?_)
  obtain ⟨hμ9, rfl⟩ := hq
  rw [hμ9]
  clear hμ9 μ9
  show Z 0 4 [(0, .ref 0), (1, .int y)] [.int (nB (sI y))] μ
  refine zq_if hc hH (by rfl) (tg := 21) (by rfl) (fun h1 => ?_) (fun h1 => ?_)
  · have h1 : (sI y) = false := nB_z.mp (cm_eq9.mp h1)
    refine z_rcs hc hH 1 (pc' := 22) (lv' := [(0, .ref 0), (1, .int y)]) (st' := [.long 0]) (μ' := μ) (by rfl) ?_
    exact hr 0 22 _ _ _ (some (.long 0)) (by decide +kernel) (by rfl) (⟨rfl, _, rfl⟩)
  · have h1 : (sI y) = true := nB_n.mp (cn_eq.mp h1)
    exact absurd (Eq.trans (Eq.symm (hy)) h1) (by decide)

/-! the game: letting go, exactly -/
set_option maxRecDepth 8000
/-- these seats' tiles are as before -/
def TE (μ μ' : zM) : Prop := ∀ i, i < 4 → ∀ a, 19 ≤ a → a ≤ 23 → ∀ k, μ'.1 (a + 8 * i) k = μ.1 (a + 8 * i) k
theorem TE_rf (μ : zM) : TE μ μ := fun _ _ _ _ _ _ => rfl
theorem TE_tr {μ μ1 μ2 : zM} (h : TE μ μ1) (h2 : TE μ1 μ2) : TE μ μ2 := fun i hi a h1 h3 k => (h2 i hi a h1 h3 k).trans (h i hi a h1 h3 k)
theorem TE_ui {μ μ1 : zM} (h : TE μ μ1) {r k : Nat} {x : Int32} (hr : ∀ i a, i < 4 → 19 ≤ a → a ≤ 23 → a + 8 * i ≠ r) : TE μ (z_ui μ1 r k x) := fun i hi a h1 h2 k' => (ui_o (hr i a hi h1 h2)).trans (h i hi a h1 h2 k')
theorem TE_uj {μ μ1 : zM} (h : TE μ μ1) {r k : Nat} {x : Int64} : TE μ (z_uj μ1 r k x) := h
/-- a seat lets go -/
def lgS (μ : zM) (u : Nat) (c : Bool) : zM := bif c then z_ui μ (18 + 8 * u) 8 1 else μ
theorem lgS_k {μ : zM} {u r k : Nat} {c : Bool} (h : k ≠ 8) : (lgS μ u c).1 r k = μ.1 r k := by
  unfold lgS; cases c
  · rfl
  · exact ui_k h
theorem lgS_o {μ : zM} {u r k : Nat} {c : Bool} (h : r ≠ 18 + 8 * u) : (lgS μ u c).1 r k = μ.1 r k := by
  unfold lgS; cases c
  · rfl
  · exact ui_o h
theorem lgS_j {μ : zM} {u r k : Nat} {c : Bool} : (lgS μ u c).2.1 r k = μ.2.1 r k := by unfold lgS; cases c <;> rfl
theorem TE_lg {μ μ1 : zM} (h : TE μ μ1) {u : Nat} {c : Bool} : TE μ (lgS μ1 u c) := by
  unfold lgS; cases c
  · exact h
  · exact TE_ui h (by intro i a hi h1 h2; omega)
def lT (μ : zM) (t u1 u2 u3 : Nat) (c1 c2 c3 : Bool) : zM := (bif decide ((μ.1 (18 + 8 * t) 6) = 0) then lgS (lgS (lgS μ u1 c1) u2 c2) u3 c3 else z_ui (z_ui (z_ui (lgS (lgS (lgS μ u1 c1) u2 c2) u3 c3) (18 + 8 * t) 6 0) (18 + 8 * t) 4 ((μ.1 (18 + 8 * t) 4) - 1000)) 0 12 ((μ.1 0 12) + 1))
theorem gc_letTileGo (d : Nat) (hd : 7 ≤ d) (μ : zM) (t c u1 u2 u3 : Nat) (c1 c2 c3 : Bool) (ht4 : t < 4) (ht : μ.1 0 8 = nI t) (hc34 : c < 34) (hc15 : μ.1 0 15 = nI c) (hu1 : (t + 1) % 4 = u1) (hu14 : u1 < 4) (hw1 : ∀ μ1, TE μ μ1 → ∀ d, 6 ≤ d → z_C d mi_X3_waitsFor [.ref (19 + 8 * u1), .int (nI c)] μ1 (zR μ1 (.int (nB c1)))) (hu2 : (t + 2) % 4 = u2) (hu24 : u2 < 4) (hw2 : ∀ μ1, TE μ μ1 → ∀ d, 6 ≤ d → z_C d mi_X3_waitsFor [.ref (19 + 8 * u2), .int (nI c)] μ1 (zR μ1 (.int (nB c2)))) (hu3 : (t + 3) % 4 = u3) (hu34 : u3 < 4) (hw3 : ∀ μ1, TE μ μ1 → ∀ d, 6 ≤ d → z_C d mi_X3_waitsFor [.ref (19 + 8 * u3), .int (nI c)] μ1 (zR μ1 (.int (nB c3)))) : z_C d mi_X6_letTileGo [.ref 0] μ (fun r μ' => r = none ∧ μ' = lT μ t u1 u2 u3 c1 c2 c3) := by
  refine z_C_in (by decide) (by omega) (fun d' Z ed hc hr => ?_)
  have hH : zH mi_X6_letTileGo zc_X6_letTileGo 79 6 3 := ⟨by rfl, by rfl, by rfl, by rfl⟩
  refine z_rcs hc hH 7 (pc' := 9) (lv' := [(1, .int 1), (0, .ref 0)]) (st' := [.ref 0, .ref 0]) (μ' := μ) (by rfl) ?_
  refine zq_gfi hc hH (by rfl) (ci := 5) (f := 8) (by rfl) (by decide +kernel) (by rfl) ?_
  rw [ht]
  refine z_rcs hc hH 2 (pc' := 14) (lv' := [(1, .int 1), (0, .ref 0)]) (st' := [.int ((nI t) + 1), .ref 0]) (μ' := μ) (by rfl) ?_
  rw [show nI t + 1 = nI (t + 1) from by rw [show (1 : Int32) = nI 1 from rfl, nI_add]]
  refine zq_call hc (by rfl) (gc_atm d' (by omega) μ (t + 1) u1 (by omega) hu1) (by decide +kernel) (fun r9 μ9 hq => ?_)
  obtain ⟨hμ9, rfl⟩ := hq
  rw [hμ9]
  clear hμ9 μ9
  show Z 0 17 [(1, .int 1), (0, .ref 0)] [.ref (18 + 8 * u1)] μ
  refine z_rcs hc hH 2 (pc' := 19) (lv' := [(2, .ref (18 + 8 * u1)), (1, .int 1), (0, .ref 0)]) (st' := [.ref (18 + 8 * u1)]) (μ' := μ) (by rfl) ?_
  refine zq_gfr hc hH (by rfl) (ci := 1) (f := 0) (q := 19 + 8 * u1) (by rfl) (sj (P := fun i => okf 79 1 0 (18 + 8 * i)) hu14 (by decide +kernel)) (by rfl) (sj (P := fun i => Nat.beq (z_gr (18 + 8 * i) 0) (19 + 8 * i)) hu14 (by decide +kernel)) ?_
  refine z_rcs hc hH 1 (pc' := 23) (lv' := [(2, .ref (18 + 8 * u1)), (1, .int 1), (0, .ref 0)]) (st' := [.ref 0, .ref (19 + 8 * u1)]) (μ' := μ) (by rfl) ?_
  refine zq_gfi hc hH (by rfl) (ci := 5) (f := 15) (by rfl) (by decide +kernel) (by rfl) ?_
  rw [hc15]
  refine zq_call hc (z_clv (by rfl) (by rfl) (by rfl) (by rfl) (by rfl) (by rfl) (sj (P := fun i => okr 79 2 (19 + 8 * i)) hu14 (by decide +kernel)) (by rfl) (by rfl)) (hw1 _ (TE_rf _) d' (by omega)) (by decide +kernel) (fun r9 μ9 hq => ?_)
  obtain ⟨hμ9, rfl⟩ := hq
  rw [hμ9]
  clear hμ9 μ9
  show Z 0 29 [(2, .ref (18 + 8 * u1)), (1, .int 1), (0, .ref 0)] [.int (nB c1)] μ
  have hJ1 : Z 0 37 [(2, .ref (18 + 8 * u1)), (1, .int 1), (0, .ref 0)] [] (lgS μ u1 c1) := by
    refine z_rcs hc hH 7 (pc' := 9) (lv' := [(1, .int 2), (2, .ref (18 + 8 * u1)), (0, .ref 0)]) (st' := [.ref 0, .ref 0]) (μ' := lgS μ u1 c1) (by rfl) ?_
    refine zq_gfi hc hH (by rfl) (ci := 5) (f := 8) (by rfl) (by decide +kernel) (by rfl) ?_
    rw [lgS_o (by omega)]
    rw [ht]
    refine z_rcs hc hH 2 (pc' := 14) (lv' := [(1, .int 2), (2, .ref (18 + 8 * u1)), (0, .ref 0)]) (st' := [.int ((nI t) + 2), .ref 0]) (μ' := lgS μ u1 c1) (by rfl) ?_
    rw [show nI t + 2 = nI (t + 2) from by rw [show (2 : Int32) = nI 2 from rfl, nI_add]]
    refine zq_call hc (by rfl) (gc_atm d' (by omega) (lgS μ u1 c1) (t + 2) u2 (by omega) hu2) (by decide +kernel) (fun r9 μ9 hq => ?_)
    obtain ⟨hμ9, rfl⟩ := hq
    rw [hμ9]
    clear hμ9 μ9
    show Z 0 17 [(1, .int 2), (2, .ref (18 + 8 * u1)), (0, .ref 0)] [.ref (18 + 8 * u2)] (lgS μ u1 c1)
    refine z_rcs hc hH 2 (pc' := 19) (lv' := [(2, .ref (18 + 8 * u2)), (1, .int 2), (0, .ref 0)]) (st' := [.ref (18 + 8 * u2)]) (μ' := lgS μ u1 c1) (by rfl) ?_
    refine zq_gfr hc hH (by rfl) (ci := 1) (f := 0) (q := 19 + 8 * u2) (by rfl) (sj (P := fun i => okf 79 1 0 (18 + 8 * i)) hu24 (by decide +kernel)) (by rfl) (sj (P := fun i => Nat.beq (z_gr (18 + 8 * i) 0) (19 + 8 * i)) hu24 (by decide +kernel)) ?_
    refine z_rcs hc hH 1 (pc' := 23) (lv' := [(2, .ref (18 + 8 * u2)), (1, .int 2), (0, .ref 0)]) (st' := [.ref 0, .ref (19 + 8 * u2)]) (μ' := lgS μ u1 c1) (by rfl) ?_
    refine zq_gfi hc hH (by rfl) (ci := 5) (f := 15) (by rfl) (by decide +kernel) (by rfl) ?_
    rw [lgS_k (by omega)]
    rw [hc15]
    refine zq_call hc (z_clv (by rfl) (by rfl) (by rfl) (by rfl) (by rfl) (by rfl) (sj (P := fun i => okr 79 2 (19 + 8 * i)) hu24 (by decide +kernel)) (by rfl) (by rfl)) (hw2 _ (TE_lg (TE_rf _)) d' (by omega)) (by decide +kernel) (fun r9 μ9 hq => ?_)
    obtain ⟨hμ9, rfl⟩ := hq
    rw [hμ9]
    clear hμ9 μ9
    show Z 0 29 [(2, .ref (18 + 8 * u2)), (1, .int 2), (0, .ref 0)] [.int (nB c2)] (lgS μ u1 c1)
    have hJ2 : Z 0 37 [(2, .ref (18 + 8 * u2)), (1, .int 2), (0, .ref 0)] [] (lgS (lgS μ u1 c1) u2 c2) := by
      refine z_rcs hc hH 7 (pc' := 9) (lv' := [(1, .int 3), (2, .ref (18 + 8 * u2)), (0, .ref 0)]) (st' := [.ref 0, .ref 0]) (μ' := lgS (lgS μ u1 c1) u2 c2) (by rfl) ?_
      refine zq_gfi hc hH (by rfl) (ci := 5) (f := 8) (by rfl) (by decide +kernel) (by rfl) ?_
      rw [lgS_o (by omega), lgS_o (by omega)]
      rw [ht]
      refine z_rcs hc hH 2 (pc' := 14) (lv' := [(1, .int 3), (2, .ref (18 + 8 * u2)), (0, .ref 0)]) (st' := [.int ((nI t) + 3), .ref 0]) (μ' := lgS (lgS μ u1 c1) u2 c2) (by rfl) ?_
      rw [show nI t + 3 = nI (t + 3) from by rw [show (3 : Int32) = nI 3 from rfl, nI_add]]
      refine zq_call hc (by rfl) (gc_atm d' (by omega) (lgS (lgS μ u1 c1) u2 c2) (t + 3) u3 (by omega) hu3) (by decide +kernel) (fun r9 μ9 hq => ?_)
      obtain ⟨hμ9, rfl⟩ := hq
      rw [hμ9]
      clear hμ9 μ9
      show Z 0 17 [(1, .int 3), (2, .ref (18 + 8 * u2)), (0, .ref 0)] [.ref (18 + 8 * u3)] (lgS (lgS μ u1 c1) u2 c2)
      refine z_rcs hc hH 2 (pc' := 19) (lv' := [(2, .ref (18 + 8 * u3)), (1, .int 3), (0, .ref 0)]) (st' := [.ref (18 + 8 * u3)]) (μ' := lgS (lgS μ u1 c1) u2 c2) (by rfl) ?_
      refine zq_gfr hc hH (by rfl) (ci := 1) (f := 0) (q := 19 + 8 * u3) (by rfl) (sj (P := fun i => okf 79 1 0 (18 + 8 * i)) hu34 (by decide +kernel)) (by rfl) (sj (P := fun i => Nat.beq (z_gr (18 + 8 * i) 0) (19 + 8 * i)) hu34 (by decide +kernel)) ?_
      refine z_rcs hc hH 1 (pc' := 23) (lv' := [(2, .ref (18 + 8 * u3)), (1, .int 3), (0, .ref 0)]) (st' := [.ref 0, .ref (19 + 8 * u3)]) (μ' := lgS (lgS μ u1 c1) u2 c2) (by rfl) ?_
      refine zq_gfi hc hH (by rfl) (ci := 5) (f := 15) (by rfl) (by decide +kernel) (by rfl) ?_
      rw [lgS_k (by omega), lgS_k (by omega)]
      rw [hc15]
      refine zq_call hc (z_clv (by rfl) (by rfl) (by rfl) (by rfl) (by rfl) (by rfl) (sj (P := fun i => okr 79 2 (19 + 8 * i)) hu34 (by decide +kernel)) (by rfl) (by rfl)) (hw3 _ (TE_lg (TE_lg (TE_rf _))) d' (by omega)) (by decide +kernel) (fun r9 μ9 hq => ?_)
      obtain ⟨hμ9, rfl⟩ := hq
      rw [hμ9]
      clear hμ9 μ9
      show Z 0 29 [(2, .ref (18 + 8 * u3)), (1, .int 3), (0, .ref 0)] [.int (nB c3)] (lgS (lgS μ u1 c1) u2 c2)
      have hJ3 : Z 0 37 [(2, .ref (18 + 8 * u3)), (1, .int 3), (0, .ref 0)] [] (lgS (lgS (lgS μ u1 c1) u2 c2) u3 c3) := by
        refine z_rcs hc hH 7 (pc' := 45) (lv' := [(1, .int 4), (2, .ref (18 + 8 * u3)), (0, .ref 0)]) (st' := [.ref 0, .ref 0]) (μ' := lgS (lgS (lgS μ u1 c1) u2 c2) u3 c3) (by rfl) ?_
        refine zq_gfi hc hH (by rfl) (ci := 5) (f := 8) (by rfl) (by decide +kernel) (by rfl) ?_
        rw [lgS_o (by omega), lgS_o (by omega), lgS_o (by omega)]
        rw [ht]
        refine zq_call hc (by rfl) (gc_at4 d' (by omega) (lgS (lgS (lgS μ u1 c1) u2 c2) u3 c3) t ht4) (by decide +kernel) (fun r9 μ9 hq => ?_)
        obtain ⟨hμ9, rfl⟩ := hq
        rw [hμ9]
        clear hμ9 μ9
        show Z 0 51 [(1, .int 4), (2, .ref (18 + 8 * u3)), (0, .ref 0)] [.ref (18 + 8 * t)] (lgS (lgS (lgS μ u1 c1) u2 c2) u3 c3)
        refine z_rcs hc hH 2 (pc' := 53) (lv' := [(1, .ref (18 + 8 * t)), (2, .ref (18 + 8 * u3)), (0, .ref 0)]) (st' := [.ref (18 + 8 * t)]) (μ' := lgS (lgS (lgS μ u1 c1) u2 c2) u3 c3) (by rfl) ?_
        refine zq_gfi hc hH (by rfl) (ci := 1) (f := 6) (by rfl) (sj (P := fun i => okf 79 1 6 (18 + 8 * i)) ht4 (by decide +kernel)) (by rfl) ?_
        rw [lgS_k (by omega), lgS_k (by omega), lgS_k (by omega)]
        refine zq_if hc hH (by rfl) (tg := 86) (by rfl) (fun h4 => ?_) (fun h4 => ?_)
        · have h4 : (decide ((μ.1 (18 + 8 * t) 6) = 0)) = true := decide_eq_true (cm_eq9.mp h4)
          exact hr 0 86 _ _ _ none (by decide +kernel) (by rfl) (⟨rfl, (by unfold lT; simp only [h4, cond_true, cond_false])⟩)
        · have h4 : (decide ((μ.1 (18 + 8 * t) 6) = 0)) = false := decide_eq_false (cn_eq.mp h4)
          refine z_rcs hc hH 2 (pc' := 61) (lv' := [(1, .ref (18 + 8 * t)), (2, .ref (18 + 8 * u3)), (0, .ref 0)]) (st' := [.int 0, .ref (18 + 8 * t)]) (μ' := lgS (lgS (lgS μ u1 c1) u2 c2) u3 c3) (by rfl) ?_
          refine zq_pfb hc hH (by rfl) (ci := 1) (f := 6) (by rfl) (sj (P := fun i => okf 79 1 6 (18 + 8 * i)) ht4 (by decide +kernel)) (by rfl) (by decide) ?_
          show Z 0 64 [(1, .ref (18 + 8 * t)), (2, .ref (18 + 8 * u3)), (0, .ref 0)] [] (z_ui (lgS (lgS (lgS μ u1 c1) u2 c2) u3 c3) (18 + 8 * t) 6 0)
          refine z_rcs hc hH 2 (pc' := 66) (lv' := [(1, .ref (18 + 8 * t)), (2, .ref (18 + 8 * u3)), (0, .ref 0)]) (st' := [.ref (18 + 8 * t), .ref (18 + 8 * t)]) (μ' := z_ui (lgS (lgS (lgS μ u1 c1) u2 c2) u3 c3) (18 + 8 * t) 6 0) (by rfl) ?_
          refine zq_gfi hc hH (by rfl) (ci := 1) (f := 4) (by rfl) (sj (P := fun i => okf 79 1 4 (18 + 8 * i)) ht4 (by decide +kernel)) (by rfl) ?_
          rw [ui_k (by omega), lgS_k (by omega), lgS_k (by omega), lgS_k (by omega)]
          refine z_rcs hc hH 2 (pc' := 73) (lv' := [(1, .ref (18 + 8 * t)), (2, .ref (18 + 8 * u3)), (0, .ref 0)]) (st' := [.int ((μ.1 (18 + 8 * t) 4) - 1000), .ref (18 + 8 * t)]) (μ' := z_ui (lgS (lgS (lgS μ u1 c1) u2 c2) u3 c3) (18 + 8 * t) 6 0) (by rfl) ?_
          refine zq_pfi hc hH (by rfl) (ci := 1) (f := 4) (by rfl) (sj (P := fun i => okf 79 1 4 (18 + 8 * i)) ht4 (by decide +kernel)) (by rfl) ?_
          show Z 0 76 [(1, .ref (18 + 8 * t)), (2, .ref (18 + 8 * u3)), (0, .ref 0)] [] (z_ui (z_ui (lgS (lgS (lgS μ u1 c1) u2 c2) u3 c3) (18 + 8 * t) 6 0) (18 + 8 * t) 4 ((μ.1 (18 + 8 * t) 4) - 1000))
          refine z_rcs hc hH 2 (pc' := 78) (lv' := [(1, .ref (18 + 8 * t)), (2, .ref (18 + 8 * u3)), (0, .ref 0)]) (st' := [.ref 0, .ref 0]) (μ' := z_ui (z_ui (lgS (lgS (lgS μ u1 c1) u2 c2) u3 c3) (18 + 8 * t) 6 0) (18 + 8 * t) 4 ((μ.1 (18 + 8 * t) 4) - 1000)) (by rfl) ?_
          refine zq_gfi hc hH (by rfl) (ci := 5) (f := 12) (by rfl) (by decide +kernel) (by rfl) ?_
          rw [ui_o (by omega), ui_o (by omega), lgS_k (by omega), lgS_k (by omega), lgS_k (by omega)]
          refine z_rcs hc hH 2 (pc' := 83) (lv' := [(1, .ref (18 + 8 * t)), (2, .ref (18 + 8 * u3)), (0, .ref 0)]) (st' := [.int ((μ.1 0 12) + 1), .ref 0]) (μ' := z_ui (z_ui (lgS (lgS (lgS μ u1 c1) u2 c2) u3 c3) (18 + 8 * t) 6 0) (18 + 8 * t) 4 ((μ.1 (18 + 8 * t) 4) - 1000)) (by rfl) ?_
          refine zq_pfi hc hH (by rfl) (ci := 5) (f := 12) (by rfl) (by decide +kernel) (by rfl) ?_
          show Z 0 86 [(1, .ref (18 + 8 * t)), (2, .ref (18 + 8 * u3)), (0, .ref 0)] [] (z_ui (z_ui (z_ui (lgS (lgS (lgS μ u1 c1) u2 c2) u3 c3) (18 + 8 * t) 6 0) (18 + 8 * t) 4 ((μ.1 (18 + 8 * t) 4) - 1000)) 0 12 ((μ.1 0 12) + 1))
          exact hr 0 86 _ _ _ none (by decide +kernel) (by rfl) (⟨rfl, (by unfold lT; simp only [h4, cond_true, cond_false])⟩)
      refine zq_if hc hH (by rfl) (tg := 37) (by rfl) (fun h5 => ?_) (fun h5 => ?_)
      · have h5 : (c3) = false := nB_z.mp (cm_eq9.mp h5)
        exact zJ hJ3 rfl rfl (by unfold lgS; rw [h5]; rfl)
      · have h5 : (c3) = true := nB_n.mp (cn_eq.mp h5)
        refine z_rcs hc hH 2 (pc' := 34) (lv' := [(2, .ref (18 + 8 * u3)), (1, .int 3), (0, .ref 0)]) (st' := [.int 1, .ref (18 + 8 * u3)]) (μ' := lgS (lgS μ u1 c1) u2 c2) (by rfl) ?_
        refine zq_pfb hc hH (by rfl) (ci := 1) (f := 8) (by rfl) (sj (P := fun i => okf 79 1 8 (18 + 8 * i)) hu34 (by decide +kernel)) (by rfl) (by decide) ?_
        show Z 0 37 [(2, .ref (18 + 8 * u3)), (1, .int 3), (0, .ref 0)] [] (z_ui (lgS (lgS μ u1 c1) u2 c2) (18 + 8 * u3) 8 1)
        exact zJ hJ3 rfl rfl (by unfold lgS; rw [h5]; rfl)
    refine zq_if hc hH (by rfl) (tg := 37) (by rfl) (fun h6 => ?_) (fun h6 => ?_)
    · have h6 : (c2) = false := nB_z.mp (cm_eq9.mp h6)
      exact zJ hJ2 rfl rfl (by unfold lgS; rw [h6]; rfl)
    · have h6 : (c2) = true := nB_n.mp (cn_eq.mp h6)
      refine z_rcs hc hH 2 (pc' := 34) (lv' := [(2, .ref (18 + 8 * u2)), (1, .int 2), (0, .ref 0)]) (st' := [.int 1, .ref (18 + 8 * u2)]) (μ' := lgS μ u1 c1) (by rfl) ?_
      refine zq_pfb hc hH (by rfl) (ci := 1) (f := 8) (by rfl) (sj (P := fun i => okf 79 1 8 (18 + 8 * i)) hu24 (by decide +kernel)) (by rfl) (by decide) ?_
      show Z 0 37 [(2, .ref (18 + 8 * u2)), (1, .int 2), (0, .ref 0)] [] (z_ui (lgS μ u1 c1) (18 + 8 * u2) 8 1)
      exact zJ hJ2 rfl rfl (by unfold lgS; rw [h6]; rfl)
  refine zq_if hc hH (by rfl) (tg := 37) (by rfl) (fun h7 => ?_) (fun h7 => ?_)
  · have h7 : (c1) = false := nB_z.mp (cm_eq9.mp h7)
    exact zJ hJ1 rfl rfl (by unfold lgS; rw [h7]; rfl)
  · have h7 : (c1) = true := nB_n.mp (cn_eq.mp h7)
    refine z_rcs hc hH 2 (pc' := 34) (lv' := [(2, .ref (18 + 8 * u1)), (1, .int 1), (0, .ref 0)]) (st' := [.int 1, .ref (18 + 8 * u1)]) (μ' := μ) (by rfl) ?_
    refine zq_pfb hc hH (by rfl) (ci := 1) (f := 8) (by rfl) (sj (P := fun i => okf 79 1 8 (18 + 8 * i)) hu14 (by decide +kernel)) (by rfl) (by decide) ?_
    show Z 0 37 [(2, .ref (18 + 8 * u1)), (1, .int 1), (0, .ref 0)] [] (z_ui μ (18 + 8 * u1) 8 1)
    exact zJ hJ1 rfl rfl (by unfold lgS; rw [h7]; rfl)

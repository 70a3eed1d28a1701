/-! the game: claim, nine of the class -/
set_option maxRecDepth 8000
theorem sI_n {s : Nat} (h : s < 4) : sI (nI s) = true := by
  have a : decide (nI s < 0) = false := kn_l0 (by omega)
  have b : decide ((4 : Int32) ≤ nI s) = false := kn_le (m := 4) rfl (by omega) h
  unfold sI; rw [a, b]; rfl
abbrev clC (μ : zM) (s t c : Nat) (wt : Int64) : Bool := (decide (μ.1 0 7 = 2) || decide (μ.1 0 7 = 3)) && (!decide (nI s = nI t) && (decide (μ.1 (18 + 8 * s) 9 = 0) && (decide (μ.1 (18 + 8 * s) 8 = 0) && (xHd wt (nI c) && decide (lg_cmp (wt &&& μ.2.1 (18 + 8 * s) 3) 0 = 0)))))
theorem gc_claim (d : Nat) (hd : 11 ≤ d) (μ : zM) (s t c : Nat) (hs4 : s < 4) (ht4 : t < 4) (ht : μ.1 0 8 = nI t) (hc34 : c < 34) (hc15 : μ.1 0 15 = nI c) (wt : Int64) (hwt : ∀ d, 7 ≤ d → z_C d mi_X3_waiting [.ref (19 + 8 * s)] μ (zR μ (.long wt))) (J : zM → Prop) (hwg : ∀ d, 10 ≤ d → z_C d mi_X6_weighHand [.ref 0, .int (nI s), .int 0] μ (fun r μ' => ∃ μj, J μj ∧ μ' = pS μj s c (-1) ∧ r = some (.int (μj.1 4 0)))) : z_C d mi_X6_claim [.ref 0, .int (nI s)] μ (fun r μ' => (clC μ s t c wt = false ∧ r = some (.int 0) ∧ μ' = μ) ∨ (clC μ s t c wt = true ∧ ∃ μj, J μj ∧ ((decide (μj.1 4 0 = 0) = true ∧ r = some (.int 0) ∧ μ' = pS μj s c (-1)) ∨ (decide (μj.1 4 0 = 0) = false ∧ r = some (.int 1) ∧ μ' = z_ui (pS μj s c (-1)) (18 + 8 * s) 9 1)))) := by
  refine z_C_in (by decide) (by omega) (fun d' Z ed hc hr => ?_)
  have hH : zH mi_X6_claim zc_X6_claim 79 6 5 := ⟨by rfl, by rfl, by rfl, by rfl⟩
  refine z_rcs hc hH 1 (pc' := 1) (lv' := [(0, .ref 0), (1, .int (nI s))]) (st' := [.ref 0]) (μ' := μ) (by rfl) ?_
  refine zq_gfi hc hH (by rfl) (ci := 5) (f := 7) (by rfl) (by decide +kernel) (by rfl) ?_
  refine z_rcs hc hH 1 (pc' := 5) (lv' := [(0, .ref 0), (1, .int (nI s))]) (st' := [.int 2, .int (μ.1 0 7)]) (μ' := μ) (by rfl) ?_
  refine zq_ic hc hH (by rfl) (tg := 16) (by rfl) (fun h1 => ?_) (fun h1 => ?_)
  · have h1 : (decide ((μ.1 0 7) = 2)) = true := decide_eq_true (cm_eq9.mp h1)
    refine z_rcs hc hH 1 (pc' := 17) (lv' := [(0, .ref 0), (1, .int (nI s))]) (st' := [.int (nI s)]) (μ' := μ) (by rfl) ?_
    refine zq_call hc (by rfl) (gc_isSeat d' (by omega) μ (nI s)) (by decide +kernel) (fun r9 μ9 hq => ?_)
    obtain ⟨hμ9, rfl⟩ := hq
    rw [hμ9]
    clear hμ9 μ9
    show Z 0 20 [(0, .ref 0), (1, .int (nI s))] [.int (nB (sI (nI s)))] μ
    refine zq_if hc hH (by rfl) (tg := 31) (by rfl) (fun h2 => ?_) (fun h2 => ?_)
    · have h2 : (sI (nI s)) = false := nB_z.mp (cm_eq9.mp h2)
      exact absurd (Eq.trans (Eq.symm (sI_n hs4)) h2) (by decide)
    · have h2 : (sI (nI s)) = true := nB_n.mp (cn_eq.mp h2)
      refine z_rcs hc hH 2 (pc' := 25) (lv' := [(0, .ref 0), (1, .int (nI s))]) (st' := [.ref 0, .int (nI s)]) (μ' := μ) (by rfl) ?_
      refine zq_gfi hc hH (by rfl) (ci := 5) (f := 8) (by rfl) (by decide +kernel) (by rfl) ?_
      rw [ht]
      refine zq_ic hc hH (by rfl) (tg := 33) (by rfl) (fun h3 => ?_) (fun h3 => ?_)
      · have h3 : (decide ((nI s) = (nI t))) = false := decide_eq_false (cm_ne.mp h3)
        refine z_rcs hc hH 2 (pc' := 35) (lv' := [(0, .ref 0), (1, .int (nI s))]) (st' := [.int (nI s), .ref 0]) (μ' := μ) (by rfl) ?_
        refine zq_call hc (by rfl) (gc_at4 d' (by omega) μ s hs4) (by decide +kernel) (fun r9 μ9 hq => ?_)
        obtain ⟨hμ9, rfl⟩ := hq
        rw [hμ9]
        clear hμ9 μ9
        show Z 0 38 [(0, .ref 0), (1, .int (nI s))] [.ref (18 + 8 * s)] μ
        refine z_rcs hc hH 2 (pc' := 40) (lv' := [(2, .ref (18 + 8 * s)), (0, .ref 0), (1, .int (nI s))]) (st' := [.ref (18 + 8 * s)]) (μ' := μ) (by rfl) ?_
        refine zq_gfi hc hH (by rfl) (ci := 1) (f := 9) (by rfl) (sj (P := fun i => okf 79 1 9 (18 + 8 * i)) hs4 (by decide +kernel)) (by rfl) ?_
        refine zq_if hc hH (by rfl) (tg := 53) (by rfl) (fun h4 => ?_) (fun h4 => ?_)
        · have h4 : (decide ((μ.1 (18 + 8 * s) 9) = 0)) = false := decide_eq_false (cm_ne.mp h4)
          refine z_rcs hc hH 1 (pc' := 54) (lv' := [(2, .ref (18 + 8 * s)), (0, .ref 0), (1, .int (nI s))]) (st' := [.int 0]) (μ' := μ) (by rfl) ?_
          exact hr 0 54 _ _ _ (some (.int 0)) (by decide +kernel) (by rfl) (Or.inl ⟨by simp only [clC, h1, h3, h4, Bool.true_or, Bool.or_true, Bool.false_or, Bool.or_false, Bool.true_and, Bool.and_true, Bool.false_and, Bool.and_false, Bool.not_true, Bool.not_false], rfl, rfl⟩)
        · have h4 : (decide ((μ.1 (18 + 8 * s) 9) = 0)) = true := decide_eq_true (cn_ne.mp h4)
          refine z_rcs hc hH 1 (pc' := 47) (lv' := [(2, .ref (18 + 8 * s)), (0, .ref 0), (1, .int (nI s))]) (st' := [.ref (18 + 8 * s)]) (μ' := μ) (by rfl) ?_
          refine zq_gfi hc hH (by rfl) (ci := 1) (f := 8) (by rfl) (sj (P := fun i => okf 79 1 8 (18 + 8 * i)) hs4 (by decide +kernel)) (by rfl) ?_
          refine zq_if hc hH (by rfl) (tg := 55) (by rfl) (fun h5 => ?_) (fun h5 => ?_)
          · have h5 : (decide ((μ.1 (18 + 8 * s) 8) = 0)) = true := decide_eq_true (cm_eq9.mp h5)
            refine z_rcs hc hH 1 (pc' := 56) (lv' := [(2, .ref (18 + 8 * s)), (0, .ref 0), (1, .int (nI s))]) (st' := [.ref (18 + 8 * s)]) (μ' := μ) (by rfl) ?_
            refine zq_gfr hc hH (by rfl) (ci := 1) (f := 0) (q := 19 + 8 * s) (by rfl) (sj (P := fun i => okf 79 1 0 (18 + 8 * i)) hs4 (by decide +kernel)) (by rfl) (sj (P := fun i => Nat.beq (z_gr (18 + 8 * i) 0) (19 + 8 * i)) hs4 (by decide +kernel)) ?_
            refine zq_call hc (z_clv (by rfl) (by rfl) (by rfl) (by rfl) (by rfl) (by rfl) (sj (P := fun i => okr 79 2 (19 + 8 * i)) hs4 (by decide +kernel)) (by rfl) (by rfl)) (hwt d' (by omega)) (by decide +kernel) (fun r9 μ9 hq => ?_)
            obtain ⟨hμ9, rfl⟩ := hq
            rw [hμ9]
            clear hμ9 μ9
            show Z 0 62 [(2, .ref (18 + 8 * s)), (0, .ref 0), (1, .int (nI s))] [.long wt] μ
            refine z_rcs hc hH 3 (pc' := 65) (lv' := [(3, .long wt), (2, .ref (18 + 8 * s)), (0, .ref 0), (1, .int (nI s))]) (st' := [.ref 0, .long wt]) (μ' := μ) (by rfl) ?_
            refine zq_gfi hc hH (by rfl) (ci := 5) (f := 15) (by rfl) (by decide +kernel) (by rfl) ?_
            rw [hc15]
            refine zq_call hc (by rfl) (fb_X6_holds d' (by omega) μ wt (nI c)) (by decide +kernel) (fun r9 μ9 hq => ?_)
            obtain ⟨hμ9, rfl⟩ := hq
            rw [hμ9]
            clear hμ9 μ9
            show Z 0 71 [(3, .long wt), (2, .ref (18 + 8 * s)), (0, .ref 0), (1, .int (nI s))] [.int (nB (xHd wt (nI c)))] μ
            refine zq_if hc hH (by rfl) (tg := 85) (by rfl) (fun h6 => ?_) (fun h6 => ?_)
            · have h6 : (xHd wt (nI c)) = false := nB_z.mp (cm_eq9.mp h6)
              refine z_rcs hc hH 1 (pc' := 86) (lv' := [(3, .long wt), (2, .ref (18 + 8 * s)), (0, .ref 0), (1, .int (nI s))]) (st' := [.int 0]) (μ' := μ) (by rfl) ?_
              exact hr 0 86 _ _ _ (some (.int 0)) (by decide +kernel) (by rfl) (Or.inl ⟨by simp only [clC, h1, h3, h4, h5, h6, Bool.true_or, Bool.or_true, Bool.false_or, Bool.or_false, Bool.true_and, Bool.and_true, Bool.false_and, Bool.and_false, Bool.not_true, Bool.not_false], rfl, rfl⟩)
            · have h6 : (xHd wt (nI c)) = true := nB_n.mp (cn_eq.mp h6)
              refine z_rcs hc hH 2 (pc' := 76) (lv' := [(3, .long wt), (2, .ref (18 + 8 * s)), (0, .ref 0), (1, .int (nI s))]) (st' := [.ref (18 + 8 * s), .long wt]) (μ' := μ) (by rfl) ?_
              refine zq_gfl hc hH (by rfl) (ci := 1) (f := 3) (by rfl) (sj (P := fun i => okf 79 1 3 (18 + 8 * i)) hs4 (by decide +kernel)) (by rfl) ?_
              refine z_rcs hc hH 3 (pc' := 82) (lv' := [(3, .long wt), (2, .ref (18 + 8 * s)), (0, .ref 0), (1, .int (nI s))]) (st' := [.int (lg_cmp (wt &&& (μ.2.1 (18 + 8 * s) 3)) 0)]) (μ' := μ) (by rfl) ?_
              refine zq_if hc hH (by rfl) (tg := 87) (by rfl) (fun h7 => ?_) (fun h7 => ?_)
              · have h7 : (decide ((lg_cmp (wt &&& (μ.2.1 (18 + 8 * s) 3)) 0) = 0)) = true := decide_eq_true (cm_eq9.mp h7)
                refine z_rcs hc hH 3 (pc' := 90) (lv' := [(3, .long wt), (2, .ref (18 + 8 * s)), (0, .ref 0), (1, .int (nI s))]) (st' := [.int 0, .int (nI s), .ref 0]) (μ' := μ) (by rfl) ?_
                refine zq_call hc (by rfl) (hwg d' (by omega)) (by decide +kernel) (fun r9 μ9 hq => ?_)
                obtain ⟨μj, hJ, rfl, rfl⟩ := hq
                show Z 0 93 [(3, .long wt), (2, .ref (18 + 8 * s)), (0, .ref 0), (1, .int (nI s))] [.int (μj.1 4 0)] (pS μj s c (-1))
                refine zq_if hc hH (by rfl) (tg := 98) (by rfl) (fun h8 => ?_) (fun h8 => ?_)
                · have h8 : (decide ((μj.1 4 0) = 0)) = false := decide_eq_false (cm_ne.mp h8)
                  refine z_rcs hc hH 2 (pc' := 100) (lv' := [(3, .long wt), (2, .ref (18 + 8 * s)), (0, .ref 0), (1, .int (nI s))]) (st' := [.int 1, .ref (18 + 8 * s)]) (μ' := pS μj s c (-1)) (by rfl) ?_
                  refine zq_pfb hc hH (by rfl) (ci := 1) (f := 9) (by rfl) (sj (P := fun i => okf 79 1 9 (18 + 8 * i)) hs4 (by decide +kernel)) (by rfl) (by decide) ?_
                  show Z 0 103 [(3, .long wt), (2, .ref (18 + 8 * s)), (0, .ref 0), (1, .int (nI s))] [] (z_ui (pS μj s c (-1)) (18 + 8 * s) 9 1)
                  refine z_rcs hc hH 1 (pc' := 104) (lv' := [(3, .long wt), (2, .ref (18 + 8 * s)), (0, .ref 0), (1, .int (nI s))]) (st' := [.int 1]) (μ' := z_ui (pS μj s c (-1)) (18 + 8 * s) 9 1) (by rfl) ?_
                  exact hr 0 104 _ _ _ (some (.int 1)) (by decide +kernel) (by rfl) (Or.inr ⟨by simp only [clC, h1, h3, h4, h5, h6, h7, Bool.true_or, Bool.or_true, Bool.false_or, Bool.or_false, Bool.true_and, Bool.and_true, Bool.false_and, Bool.and_false, Bool.not_true, Bool.not_false], μj, hJ, Or.inr ⟨h8, rfl, rfl⟩⟩)
                · have h8 : (decide ((μj.1 4 0) = 0)) = true := decide_eq_true (cn_ne.mp h8)
                  refine z_rcs hc hH 1 (pc' := 97) (lv' := [(3, .long wt), (2, .ref (18 + 8 * s)), (0, .ref 0), (1, .int (nI s))]) (st' := [.int 0]) (μ' := pS μj s c (-1)) (by rfl) ?_
                  exact hr 0 97 _ _ _ (some (.int 0)) (by decide +kernel) (by rfl) (Or.inr ⟨by simp only [clC, h1, h3, h4, h5, h6, h7, Bool.true_or, Bool.or_true, Bool.false_or, Bool.or_false, Bool.true_and, Bool.and_true, Bool.false_and, Bool.and_false, Bool.not_true, Bool.not_false], μj, hJ, Or.inl ⟨h8, rfl, rfl⟩⟩)
              · have h7 : (decide ((lg_cmp (wt &&& (μ.2.1 (18 + 8 * s) 3)) 0) = 0)) = false := decide_eq_false (cn_eq.mp h7)
                refine z_rcs hc hH 1 (pc' := 86) (lv' := [(3, .long wt), (2, .ref (18 + 8 * s)), (0, .ref 0), (1, .int (nI s))]) (st' := [.int 0]) (μ' := μ) (by rfl) ?_
                exact hr 0 86 _ _ _ (some (.int 0)) (by decide +kernel) (by rfl) (Or.inl ⟨by simp only [clC, h1, h3, h4, h5, h6, h7, Bool.true_or, Bool.or_true, Bool.false_or, Bool.or_false, Bool.true_and, Bool.and_true, Bool.false_and, Bool.and_false, Bool.not_true, Bool.not_false], rfl, rfl⟩)
          · have h5 : (decide ((μ.1 (18 + 8 * s) 8) = 0)) = false := decide_eq_false (cn_eq.mp h5)
            refine z_rcs hc hH 1 (pc' := 54) (lv' := [(2, .ref (18 + 8 * s)), (0, .ref 0), (1, .int (nI s))]) (st' := [.int 0]) (μ' := μ) (by rfl) ?_
            exact hr 0 54 _ _ _ (some (.int 0)) (by decide +kernel) (by rfl) (Or.inl ⟨by simp only [clC, h1, h3, h4, h5, Bool.true_or, Bool.or_true, Bool.false_or, Bool.or_false, Bool.true_and, Bool.and_true, Bool.false_and, Bool.and_false, Bool.not_true, Bool.not_false], rfl, rfl⟩)
      · have h3 : (decide ((nI s) = (nI t))) = true := decide_eq_true (cn_ne.mp h3)
        refine z_rcs hc hH 1 (pc' := 32) (lv' := [(0, .ref 0), (1, .int (nI s))]) (st' := [.int 0]) (μ' := μ) (by rfl) ?_
        exact hr 0 32 _ _ _ (some (.int 0)) (by decide +kernel) (by rfl) (Or.inl ⟨by simp only [clC, h1, h3, Bool.true_or, Bool.or_true, Bool.false_or, Bool.or_false, Bool.true_and, Bool.and_true, Bool.false_and, Bool.and_false, Bool.not_true, Bool.not_false], rfl, rfl⟩)
  · have h1 : (decide ((μ.1 0 7) = 2)) = false := decide_eq_false (cn_eq.mp h1)
    refine z_rcs hc hH 1 (pc' := 9) (lv' := [(0, .ref 0), (1, .int (nI s))]) (st' := [.ref 0]) (μ' := μ) (by rfl) ?_
    refine zq_gfi hc hH (by rfl) (ci := 5) (f := 7) (by rfl) (by decide +kernel) (by rfl) ?_
    refine z_rcs hc hH 1 (pc' := 13) (lv' := [(0, .ref 0), (1, .int (nI s))]) (st' := [.int 3, .int (μ.1 0 7)]) (μ' := μ) (by rfl) ?_
    refine zq_ic hc hH (by rfl) (tg := 31) (by rfl) (fun h9 => ?_) (fun h9 => ?_)
    · have h9 : (decide ((μ.1 0 7) = 3)) = false := decide_eq_false (cm_ne.mp h9)
      refine z_rcs hc hH 1 (pc' := 32) (lv' := [(0, .ref 0), (1, .int (nI s))]) (st' := [.int 0]) (μ' := μ) (by rfl) ?_
      exact hr 0 32 _ _ _ (some (.int 0)) (by decide +kernel) (by rfl) (Or.inl ⟨by simp only [clC, h1, h9, Bool.true_or, Bool.or_true, Bool.false_or, Bool.or_false, Bool.true_and, Bool.and_true, Bool.false_and, Bool.and_false, Bool.not_true, Bool.not_false], rfl, rfl⟩)
    · have h9 : (decide ((μ.1 0 7) = 3)) = true := decide_eq_true (cn_ne.mp h9)
      refine z_rcs hc hH 1 (pc' := 17) (lv' := [(0, .ref 0), (1, .int (nI s))]) (st' := [.int (nI s)]) (μ' := μ) (by rfl) ?_
      refine zq_call hc (by rfl) (gc_isSeat d' (by omega) μ (nI s)) (by decide +kernel) (fun r9 μ9 hq => ?_)
      obtain ⟨hμ9, rfl⟩ := hq
      rw [hμ9]
      clear hμ9 μ9
      show Z 0 20 [(0, .ref 0), (1, .int (nI s))] [.int (nB (sI (nI s)))] μ
      refine zq_if hc hH (by rfl) (tg := 31) (by rfl) (fun h10 => ?_) (fun h10 => ?_)
      · have h10 : (sI (nI s)) = false := nB_z.mp (cm_eq9.mp h10)
        exact absurd (Eq.trans (Eq.symm (sI_n hs4)) h10) (by decide)
      · have h10 : (sI (nI s)) = true := nB_n.mp (cn_eq.mp h10)
        refine z_rcs hc hH 2 (pc' := 25) (lv' := [(0, .ref 0), (1, .int (nI s))]) (st' := [.ref 0, .int (nI s)]) (μ' := μ) (by rfl) ?_
        refine zq_gfi hc hH (by rfl) (ci := 5) (f := 8) (by rfl) (by decide +kernel) (by rfl) ?_
        rw [ht]
        refine zq_ic hc hH (by rfl) (tg := 33) (by rfl) (fun h11 => ?_) (fun h11 => ?_)
        · have h11 : (decide ((nI s) = (nI t))) = false := decide_eq_false (cm_ne.mp h11)
          refine z_rcs hc hH 2 (pc' := 35) (lv' := [(0, .ref 0), (1, .int (nI s))]) (st' := [.int (nI s), .ref 0]) (μ' := μ) (by rfl) ?_
          refine zq_call hc (by rfl) (gc_at4 d' (by omega) μ s hs4) (by decide +kernel) (fun r9 μ9 hq => ?_)
          obtain ⟨hμ9, rfl⟩ := hq
          rw [hμ9]
          clear hμ9 μ9
          show Z 0 38 [(0, .ref 0), (1, .int (nI s))] [.ref (18 + 8 * s)] μ
          refine z_rcs hc hH 2 (pc' := 40) (lv' := [(2, .ref (18 + 8 * s)), (0, .ref 0), (1, .int (nI s))]) (st' := [.ref (18 + 8 * s)]) (μ' := μ) (by rfl) ?_
          refine zq_gfi hc hH (by rfl) (ci := 1) (f := 9) (by rfl) (sj (P := fun i => okf 79 1 9 (18 + 8 * i)) hs4 (by decide +kernel)) (by rfl) ?_
          refine zq_if hc hH (by rfl) (tg := 53) (by rfl) (fun h12 => ?_) (fun h12 => ?_)
          · have h12 : (decide ((μ.1 (18 + 8 * s) 9) = 0)) = false := decide_eq_false (cm_ne.mp h12)
            refine z_rcs hc hH 1 (pc' := 54) (lv' := [(2, .ref (18 + 8 * s)), (0, .ref 0), (1, .int (nI s))]) (st' := [.int 0]) (μ' := μ) (by rfl) ?_
            exact hr 0 54 _ _ _ (some (.int 0)) (by decide +kernel) (by rfl) (Or.inl ⟨by simp only [clC, h1, h9, h11, h12, Bool.true_or, Bool.or_true, Bool.false_or, Bool.or_false, Bool.true_and, Bool.and_true, Bool.false_and, Bool.and_false, Bool.not_true, Bool.not_false], rfl, rfl⟩)
          · have h12 : (decide ((μ.1 (18 + 8 * s) 9) = 0)) = true := decide_eq_true (cn_ne.mp h12)
            refine z_rcs hc hH 1 (pc' := 47) (lv' := [(2, .ref (18 + 8 * s)), (0, .ref 0), (1, .int (nI s))]) (st' := [.ref (18 + 8 * s)]) (μ' := μ) (by rfl) ?_
            refine zq_gfi hc hH (by rfl) (ci := 1) (f := 8) (by rfl) (sj (P := fun i => okf 79 1 8 (18 + 8 * i)) hs4 (by decide +kernel)) (by rfl) ?_
            refine zq_if hc hH (by rfl) (tg := 55) (by rfl) (fun h13 => ?_) (fun h13 => ?_)
            · have h13 : (decide ((μ.1 (18 + 8 * s) 8) = 0)) = true := decide_eq_true (cm_eq9.mp h13)
              refine z_rcs hc hH 1 (pc' := 56) (lv' := [(2, .ref (18 + 8 * s)), (0, .ref 0), (1, .int (nI s))]) (st' := [.ref (18 + 8 * s)]) (μ' := μ) (by rfl) ?_
              refine zq_gfr hc hH (by rfl) (ci := 1) (f := 0) (q := 19 + 8 * s) (by rfl) (sj (P := fun i => okf 79 1 0 (18 + 8 * i)) hs4 (by decide +kernel)) (by rfl) (sj (P := fun i => Nat.beq (z_gr (18 + 8 * i) 0) (19 + 8 * i)) hs4 (by decide +kernel)) ?_
              refine zq_call hc (z_clv (by rfl) (by rfl) (by rfl) (by rfl) (by rfl) (by rfl) (sj (P := fun i => okr 79 2 (19 + 8 * i)) hs4 (by decide +kernel)) (by rfl) (by rfl)) (hwt d' (by omega)) (by decide +kernel) (fun r9 μ9 hq => ?_)
              obtain ⟨hμ9, rfl⟩ := hq
              rw [hμ9]
              clear hμ9 μ9
              show Z 0 62 [(2, .ref (18 + 8 * s)), (0, .ref 0), (1, .int (nI s))] [.long wt] μ
              refine z_rcs hc hH 3 (pc' := 65) (lv' := [(3, .long wt), (2, .ref (18 + 8 * s)), (0, .ref 0), (1, .int (nI s))]) (st' := [.ref 0, .long wt]) (μ' := μ) (by rfl) ?_
              refine zq_gfi hc hH (by rfl) (ci := 5) (f := 15) (by rfl) (by decide +kernel) (by rfl) ?_
              rw [hc15]
              refine zq_call hc (by rfl) (fb_X6_holds d' (by omega) μ wt (nI c)) (by decide +kernel) (fun r9 μ9 hq => ?_)
              obtain ⟨hμ9, rfl⟩ := hq
              rw [hμ9]
              clear hμ9 μ9
              show Z 0 71 [(3, .long wt), (2, .ref (18 + 8 * s)), (0, .ref 0), (1, .int (nI s))] [.int (nB (xHd wt (nI c)))] μ
              refine zq_if hc hH (by rfl) (tg := 85) (by rfl) (fun h14 => ?_) (fun h14 => ?_)
              · have h14 : (xHd wt (nI c)) = false := nB_z.mp (cm_eq9.mp h14)
                refine z_rcs hc hH 1 (pc' := 86) (lv' := [(3, .long wt), (2, .ref (18 + 8 * s)), (0, .ref 0), (1, .int (nI s))]) (st' := [.int 0]) (μ' := μ) (by rfl) ?_
                exact hr 0 86 _ _ _ (some (.int 0)) (by decide +kernel) (by rfl) (Or.inl ⟨by simp only [clC, h1, h9, h11, h12, h13, h14, Bool.true_or, Bool.or_true, Bool.false_or, Bool.or_false, Bool.true_and, Bool.and_true, Bool.false_and, Bool.and_false, Bool.not_true, Bool.not_false], rfl, rfl⟩)
              · have h14 : (xHd wt (nI c)) = true := nB_n.mp (cn_eq.mp h14)
                refine z_rcs hc hH 2 (pc' := 76) (lv' := [(3, .long wt), (2, .ref (18 + 8 * s)), (0, .ref 0), (1, .int (nI s))]) (st' := [.ref (18 + 8 * s), .long wt]) (μ' := μ) (by rfl) ?_
                refine zq_gfl hc hH (by rfl) (ci := 1) (f := 3) (by rfl) (sj (P := fun i => okf 79 1 3 (18 + 8 * i)) hs4 (by decide +kernel)) (by rfl) ?_
                refine z_rcs hc hH 3 (pc' := 82) (lv' := [(3, .long wt), (2, .ref (18 + 8 * s)), (0, .ref 0), (1, .int (nI s))]) (st' := [.int (lg_cmp (wt &&& (μ.2.1 (18 + 8 * s) 3)) 0)]) (μ' := μ) (by rfl) ?_
                refine zq_if hc hH (by rfl) (tg := 87) (by rfl) (fun h15 => ?_) (fun h15 => ?_)
                · have h15 : (decide ((lg_cmp (wt &&& (μ.2.1 (18 + 8 * s) 3)) 0) = 0)) = true := decide_eq_true (cm_eq9.mp h15)
                  refine z_rcs hc hH 3 (pc' := 90) (lv' := [(3, .long wt), (2, .ref (18 + 8 * s)), (0, .ref 0), (1, .int (nI s))]) (st' := [.int 0, .int (nI s), .ref 0]) (μ' := μ) (by rfl) ?_
                  refine zq_call hc (by rfl) (hwg d' (by omega)) (by decide +kernel) (fun r9 μ9 hq => ?_)
                  obtain ⟨μj, hJ, rfl, rfl⟩ := hq
                  show Z 0 93 [(3, .long wt), (2, .ref (18 + 8 * s)), (0, .ref 0), (1, .int (nI s))] [.int (μj.1 4 0)] (pS μj s c (-1))
                  refine zq_if hc hH (by rfl) (tg := 98) (by rfl) (fun h16 => ?_) (fun h16 => ?_)
                  · have h16 : (decide ((μj.1 4 0) = 0)) = false := decide_eq_false (cm_ne.mp h16)
                    refine z_rcs hc hH 2 (pc' := 100) (lv' := [(3, .long wt), (2, .ref (18 + 8 * s)), (0, .ref 0), (1, .int (nI s))]) (st' := [.int 1, .ref (18 + 8 * s)]) (μ' := pS μj s c (-1)) (by rfl) ?_
                    refine zq_pfb hc hH (by rfl) (ci := 1) (f := 9) (by rfl) (sj (P := fun i => okf 79 1 9 (18 + 8 * i)) hs4 (by decide +kernel)) (by rfl) (by decide) ?_
                    show Z 0 103 [(3, .long wt), (2, .ref (18 + 8 * s)), (0, .ref 0), (1, .int (nI s))] [] (z_ui (pS μj s c (-1)) (18 + 8 * s) 9 1)
                    refine z_rcs hc hH 1 (pc' := 104) (lv' := [(3, .long wt), (2, .ref (18 + 8 * s)), (0, .ref 0), (1, .int (nI s))]) (st' := [.int 1]) (μ' := z_ui (pS μj s c (-1)) (18 + 8 * s) 9 1) (by rfl) ?_
                    exact hr 0 104 _ _ _ (some (.int 1)) (by decide +kernel) (by rfl) (Or.inr ⟨by simp only [clC, h1, h9, h11, h12, h13, h14, h15, Bool.true_or, Bool.or_true, Bool.false_or, Bool.or_false, Bool.true_and, Bool.and_true, Bool.false_and, Bool.and_false, Bool.not_true, Bool.not_false], μj, hJ, Or.inr ⟨h16, rfl, rfl⟩⟩)
                  · have h16 : (decide ((μj.1 4 0) = 0)) = true := decide_eq_true (cn_ne.mp h16)
                    refine z_rcs hc hH 1 (pc' := 97) (lv' := [(3, .long wt), (2, .ref (18 + 8 * s)), (0, .ref 0), (1, .int (nI s))]) (st' := [.int 0]) (μ' := pS μj s c (-1)) (by rfl) ?_
                    exact hr 0 97 _ _ _ (some (.int 0)) (by decide +kernel) (by rfl) (Or.inr ⟨by simp only [clC, h1, h9, h11, h12, h13, h14, h15, Bool.true_or, Bool.or_true, Bool.false_or, Bool.or_false, Bool.true_and, Bool.and_true, Bool.false_and, Bool.and_false, Bool.not_true, Bool.not_false], μj, hJ, Or.inl ⟨h16, rfl, rfl⟩⟩)
                · have h15 : (decide ((lg_cmp (wt &&& (μ.2.1 (18 + 8 * s) 3)) 0) = 0)) = false := decide_eq_false (cn_eq.mp h15)
                  refine z_rcs hc hH 1 (pc' := 86) (lv' := [(3, .long wt), (2, .ref (18 + 8 * s)), (0, .ref 0), (1, .int (nI s))]) (st' := [.int 0]) (μ' := μ) (by rfl) ?_
                  exact hr 0 86 _ _ _ (some (.int 0)) (by decide +kernel) (by rfl) (Or.inl ⟨by simp only [clC, h1, h9, h11, h12, h13, h14, h15, Bool.true_or, Bool.or_true, Bool.false_or, Bool.or_false, Bool.true_and, Bool.and_true, Bool.false_and, Bool.and_false, Bool.not_true, Bool.not_false], rfl, rfl⟩)
            · have h13 : (decide ((μ.1 (18 + 8 * s) 8) = 0)) = false := decide_eq_false (cn_eq.mp h13)
              refine z_rcs hc hH 1 (pc' := 54) (lv' := [(2, .ref (18 + 8 * s)), (0, .ref 0), (1, .int (nI s))]) (st' := [.int 0]) (μ' := μ) (by rfl) ?_
              exact hr 0 54 _ _ _ (some (.int 0)) (by decide +kernel) (by rfl) (Or.inl ⟨by simp only [clC, h1, h9, h11, h12, h13, Bool.true_or, Bool.or_true, Bool.false_or, Bool.or_false, Bool.true_and, Bool.and_true, Bool.false_and, Bool.and_false, Bool.not_true, Bool.not_false], rfl, rfl⟩)
        · have h11 : (decide ((nI s) = (nI t))) = true := decide_eq_true (cn_ne.mp h11)
          refine z_rcs hc hH 1 (pc' := 32) (lv' := [(0, .ref 0), (1, .int (nI s))]) (st' := [.int 0]) (μ' := μ) (by rfl) ?_
          exact hr 0 32 _ _ _ (some (.int 0)) (by decide +kernel) (by rfl) (Or.inl ⟨by simp only [clC, h1, h9, h11, Bool.true_or, Bool.or_true, Bool.false_or, Bool.or_false, Bool.true_and, Bool.and_true, Bool.false_and, Bool.and_false, Bool.not_true, Bool.not_false], rfl, rfl⟩)

/-! the game: questions of the class that a script asks -/
set_option maxRecDepth 8000
theorem zq_tsd {xs : Nat × (Nat → Int32)} {j : Nat} {C : Nat → List Value → zM → zQ → Prop} {Z : zK} {code : List (Nat × Instr)} {np oc nL : Nat} {b pc : Nat} {lv : zL} {μ : zM} (h : z_clo xs j C Z) (hH : zH j code np oc nL) {dflt lo hi : Int} {offs : Array Int} (hi1 : z_lk code pc = some (.tableswitch dflt lo hi offs)) {x : Int32} {t : List Value} {tg : Nat} (ht : z_to pc dflt = some tg) (hx : (decide (x.toInt < lo) || decide (hi < x.toInt)) = true) (k : Z b tg lv t μ) : Z b pc lv (.int x :: t) μ := by
  refine zq_st h hH hi1 ?_ k
  show (match z_jp (.tableswitch dflt lo hi offs) pc (.int x :: t) with | some (pc', st') => some (pc', lv, st', μ) | none => _) = _
  unfold z_jp
  simp only [hx, cond_true, ht, Option.map_some]
theorem inOf3 {x m : Int32} {n : Nat} (hm : m.toInt = (n : Int)) (h1 : decide (x < 0) = false) (h2 : decide (x < m) = true) : vp_in x n := in_of hm (of_decide_eq_false h1) (fun e => by have := of_decide_eq_true h2; rw [Int32.lt_iff_toInt_lt] at this; rw [Int32.le_iff_toInt_le] at e; omega)
theorem gq_hand (d : Nat) (hd : 4 ≤ d) (μ : zM) (s : Nat) (hs4 : s < 4) (x : Int32) : z_C d mi_X6_hand [.ref 0, .int (nI s), .int x] μ (fun r μ' => r = some (.int (fr μ (20 + 8 * s) x)) ∧ μ' = μ) := by
  refine z_C_in (by decide) (by omega) (fun d' Z ed hc hr => ?_)
  have hH : zH mi_X6_hand zc_X6_hand 79 6 3 := ⟨by rfl, by rfl, by rfl, by rfl⟩
  refine z_rcs hc hH 1 (pc' := 1) (lv' := [(0, .ref 0), (1, .int (nI s)), (2, .int x)]) (st' := [.int (nI s)]) (μ' := μ) (by rfl) ?_
  refine zq_call hc (by rfl) (gc_isSeat d' (by omega) μ (nI s)) (by decide +kernel) (fun r9 μ9 hq => ?_)
  obtain ⟨hμ9, rfl⟩ := hq
  rw [hμ9]
  clear hμ9 μ9
  show Z 0 4 [(0, .ref 0), (1, .int (nI s)), (2, .int x)] [.int (nB (sI (nI s)))] μ
  refine zq_if hc hH (by rfl) (tg := 22) (by rfl) (fun h1 => ?_) (fun h1 => ?_)
  · have h1 : (sI (nI s)) = false := nB_z.mp (cm_eq9.mp h1)
    exact absurd (Eq.trans (Eq.symm (sI_n hs4)) h1) (by decide)
  · have h1 : (sI (nI s)) = true := nB_n.mp (cn_eq.mp h1)
    refine z_rcs hc hH 2 (pc' := 9) (lv' := [(0, .ref 0), (1, .int (nI s)), (2, .int x)]) (st' := [.int (nI s), .ref 0]) (μ' := μ) (by rfl) ?_
    refine zq_call hc (by rfl) (gc_at4 d' (by omega) μ s hs4) (by decide +kernel) (fun r9 μ9 hq => ?_)
    obtain ⟨hμ9, rfl⟩ := hq
    rw [hμ9]
    clear hμ9 μ9
    show Z 0 12 [(0, .ref 0), (1, .int (nI s)), (2, .int x)] [.ref (18 + 8 * s)] μ
    refine zq_gfr hc hH (by rfl) (ci := 1) (f := 0) (q := 19 + 8 * s) (by rfl) (sj (P := fun i => okf 79 1 0 (18 + 8 * i)) hs4 (by decide +kernel)) (by rfl) (sj (P := fun i => Nat.beq (z_gr (18 + 8 * i) 0) (19 + 8 * i)) hs4 (by decide +kernel)) ?_
    refine z_rcs hc hH 1 (pc' := 16) (lv' := [(0, .ref 0), (1, .int (nI s)), (2, .int x)]) (st' := [.int x, .ref (19 + 8 * s)]) (μ' := μ) (by rfl) ?_
    refine zq_call hc (z_clv (by rfl) (by rfl) (by rfl) (by rfl) (by rfl) (by rfl) (sj (P := fun i => okr 79 2 (19 + 8 * i)) hs4 (by decide +kernel)) (by rfl) (by rfl)) (gc_free d' (by omega) μ s hs4 x) (by decide +kernel) (fun r9 μ9 hq => ?_)
    obtain ⟨hμ9, rfl⟩ := hq
    rw [hμ9]
    clear hμ9 μ9
    show Z 0 19 [(0, .ref 0), (1, .int (nI s)), (2, .int x)] [.int (fr μ (20 + 8 * s) x)] μ
    refine z_rcs hc hH 1 (pc' := 23) (lv' := [(0, .ref 0), (1, .int (nI s)), (2, .int x)]) (st' := [.int (fr μ (20 + 8 * s) x)]) (μ' := μ) (by rfl) ?_
    exact hr 0 23 _ _ _ (some (.int (fr μ (20 + 8 * s) x))) (by decide +kernel) (by rfl) (⟨rfl, rfl⟩)
theorem gq_hand0 (d : Nat) (hd : 4 ≤ d) (μ : zM) (x y : Int32) (hy : sI y = false) : z_C d mi_X6_hand [.ref 0, .int y, .int x] μ (fun r μ' => r = some (.int 0) ∧ μ' = μ) := by
  refine z_C_in (by decide) (by omega) (fun d' Z ed hc hr => ?_)
  have hH : zH mi_X6_hand zc_X6_hand 79 6 3 := ⟨by rfl, by rfl, by rfl, by rfl⟩
  refine z_rcs hc hH 1 (pc' := 1) (lv' := [(0, .ref 0), (1, .int y), (2, .int x)]) (st' := [.int y]) (μ' := μ) (by rfl) ?_
  refine zq_call hc (by rfl) (gc_isSeat d' (by omega) μ y) (by decide +kernel) (fun r9 μ9 hq => ?_)
  obtain ⟨hμ9, rfl⟩ := hq
  rw [hμ9]
  clear hμ9 μ9
  show Z 0 4 [(0, .ref 0), (1, .int y), (2, .int x)] [.int (nB (sI y))] μ
  refine zq_if hc hH (by rfl) (tg := 22) (by rfl) (fun h1 => ?_) (fun h1 => ?_)
  · have h1 : (sI y) = false := nB_z.mp (cm_eq9.mp h1)
    refine z_rcs hc hH 1 (pc' := 23) (lv' := [(0, .ref 0), (1, .int y), (2, .int x)]) (st' := [.int 0]) (μ' := μ) (by rfl) ?_
    exact hr 0 23 _ _ _ (some (.int 0)) (by decide +kernel) (by rfl) (⟨rfl, rfl⟩)
  · have h1 : (sI y) = true := nB_n.mp (cn_eq.mp h1)
    exact absurd (Eq.trans (Eq.symm (hy)) h1) (by decide)
theorem gq_laid (d : Nat) (hd : 4 ≤ d) (μ : zM) (s : Nat) (hs4 : s < 4) (x wh : Int32) : z_C d mi_X6_laid [.ref 0, .int (nI s), .int x, .int wh] μ (fun r μ' => r = some ((bif decide (x < 0) then .int (-1) else (bif decide ((μ.1 (19 + 8 * s) 4) ≤ x) then .int (-1) else (bif decide (x < 4) then (bif decide (wh = 0) then .int (μ.1 (22 + 8 * s) x.toNatClampNeg) else (bif decide (wh = 1) then .int (μ.1 (23 + 8 * s) x.toNatClampNeg) else .int (-1))) else .int (-1))))) ∧ μ' = μ) := by
  refine z_C_in (by decide) (by omega) (fun d' Z ed hc hr => ?_)
  have hH : zH mi_X6_laid zc_X6_laid 79 6 5 := ⟨by rfl, by rfl, by rfl, by rfl⟩
  refine z_rcs hc hH 1 (pc' := 1) (lv' := [(0, .ref 0), (1, .int (nI s)), (2, .int x), (3, .int wh)]) (st' := [.int (nI s)]) (μ' := μ) (by rfl) ?_
  refine zq_call hc (by rfl) (gc_isSeat d' (by omega) μ (nI s)) (by decide +kernel) (fun r9 μ9 hq => ?_)
  obtain ⟨hμ9, rfl⟩ := hq
  rw [hμ9]
  clear hμ9 μ9
  show Z 0 4 [(0, .ref 0), (1, .int (nI s)), (2, .int x), (3, .int wh)] [.int (nB (sI (nI s)))] μ
  refine zq_if hc hH (by rfl) (tg := 9) (by rfl) (fun h1 => ?_) (fun h1 => ?_)
  · have h1 : (sI (nI s)) = true := nB_n.mp (cm_ne.mp h1)
    refine z_rcs hc hH 2 (pc' := 11) (lv' := [(0, .ref 0), (1, .int (nI s)), (2, .int x), (3, .int wh)]) (st' := [.int (nI s), .ref 0]) (μ' := μ) (by rfl) ?_
    refine zq_call hc (by rfl) (gc_at4 d' (by omega) μ s hs4) (by decide +kernel) (fun r9 μ9 hq => ?_)
    obtain ⟨hμ9, rfl⟩ := hq
    rw [hμ9]
    clear hμ9 μ9
    show Z 0 14 [(0, .ref 0), (1, .int (nI s)), (2, .int x), (3, .int wh)] [.ref (18 + 8 * s)] μ
    refine zq_gfr hc hH (by rfl) (ci := 1) (f := 0) (q := 19 + 8 * s) (by rfl) (sj (P := fun i => okf 79 1 0 (18 + 8 * i)) hs4 (by decide +kernel)) (by rfl) (sj (P := fun i => Nat.beq (z_gr (18 + 8 * i) 0) (19 + 8 * i)) hs4 (by decide +kernel)) ?_
    refine z_rcs hc hH 2 (pc' := 20) (lv' := [(4, .ref (19 + 8 * s)), (0, .ref 0), (1, .int (nI s)), (2, .int x), (3, .int wh)]) (st' := [.int x]) (μ' := μ) (by rfl) ?_
    refine zq_if hc hH (by rfl) (tg := 37) (by rfl) (fun h2 => ?_) (fun h2 => ?_)
    · have h2 : (decide (x < 0)) = true := decide_eq_true (cm_lt.mp h2)
      refine z_rcs hc hH 1 (pc' := 38) (lv' := [(4, .ref (19 + 8 * s)), (0, .ref 0), (1, .int (nI s)), (2, .int x), (3, .int wh)]) (st' := [.int (-1)]) (μ' := μ) (by rfl) ?_
      exact hr 0 38 _ _ _ (some (.int (-1))) (by decide +kernel) (by rfl) (⟨(by first | rfl | simp only [h2, cond_true, cond_false]), (by simp only [h2, cond_true, cond_false])⟩)
    · have h2 : (decide (x < 0)) = false := decide_eq_false (cn_lt.mp h2)
      refine z_rcs hc hH 2 (pc' := 26) (lv' := [(4, .ref (19 + 8 * s)), (0, .ref 0), (1, .int (nI s)), (2, .int x), (3, .int wh)]) (st' := [.ref (19 + 8 * s), .int x]) (μ' := μ) (by rfl) ?_
      refine zq_gfi hc hH (by rfl) (ci := 2) (f := 4) (by rfl) (sj (P := fun i => okf 79 2 4 (19 + 8 * i)) hs4 (by decide +kernel)) (by rfl) ?_
      refine zq_ic hc hH (by rfl) (tg := 37) (by rfl) (fun h3 => ?_) (fun h3 => ?_)
      · have h3 : (decide ((μ.1 (19 + 8 * s) 4) ≤ x)) = true := decide_eq_true (cm_ge.mp h3)
        refine z_rcs hc hH 1 (pc' := 38) (lv' := [(4, .ref (19 + 8 * s)), (0, .ref 0), (1, .int (nI s)), (2, .int x), (3, .int wh)]) (st' := [.int (-1)]) (μ' := μ) (by rfl) ?_
        exact hr 0 38 _ _ _ (some (.int (-1))) (by decide +kernel) (by rfl) (⟨(by first | rfl | simp only [h2, h3, cond_true, cond_false]), (by simp only [h2, h3, cond_true, cond_false])⟩)
      · have h3 : (decide ((μ.1 (19 + 8 * s) 4) ≤ x)) = false := decide_eq_false (cn_ge.mp h3)
        refine z_rcs hc hH 2 (pc' := 34) (lv' := [(4, .ref (19 + 8 * s)), (0, .ref 0), (1, .int (nI s)), (2, .int x), (3, .int wh)]) (st' := [.int 4, .int x]) (μ' := μ) (by rfl) ?_
        refine zq_ic hc hH (by rfl) (tg := 39) (by rfl) (fun h4 => ?_) (fun h4 => ?_)
        · have h4 : (decide (x < 4)) = true := decide_eq_true (cm_lt.mp h4)
          refine z_rcs hc hH 1 (pc' := 40) (lv' := [(4, .ref (19 + 8 * s)), (0, .ref 0), (1, .int (nI s)), (2, .int x), (3, .int wh)]) (st' := [.int wh]) (μ' := μ) (by rfl) ?_
          refine zq_if hc hH (by rfl) (tg := 51) (by rfl) (fun h5 => ?_) (fun h5 => ?_)
          · have h5 : (decide (wh = 0)) = false := decide_eq_false (cm_ne.mp h5)
            refine z_rcs hc hH 2 (pc' := 53) (lv' := [(4, .ref (19 + 8 * s)), (0, .ref 0), (1, .int (nI s)), (2, .int x), (3, .int wh)]) (st' := [.int 1, .int wh]) (μ' := μ) (by rfl) ?_
            refine zq_ic hc hH (by rfl) (tg := 66) (by rfl) (fun h6 => ?_) (fun h6 => ?_)
            · have h6 : (decide (wh = 1)) = false := decide_eq_false (cm_ne.mp h6)
              refine z_rcs hc hH 1 (pc' := 67) (lv' := [(4, .ref (19 + 8 * s)), (0, .ref 0), (1, .int (nI s)), (2, .int x), (3, .int wh)]) (st' := [.int (-1)]) (μ' := μ) (by rfl) ?_
              exact hr 0 67 _ _ _ (some (.int (-1))) (by decide +kernel) (by rfl) (⟨(by first | rfl | simp only [h2, h3, h4, h5, h6, cond_true, cond_false]), (by simp only [h2, h3, h4, h5, h6, cond_true, cond_false])⟩)
            · have h6 : (decide (wh = 1)) = true := decide_eq_true (cn_ne.mp h6)
              refine z_rcs hc hH 1 (pc' := 58) (lv' := [(4, .ref (19 + 8 * s)), (0, .ref 0), (1, .int (nI s)), (2, .int x), (3, .int wh)]) (st' := [.ref (19 + 8 * s)]) (μ' := μ) (by rfl) ?_
              refine zq_gfr hc hH (by rfl) (ci := 2) (f := 3) (q := 23 + 8 * s) (by rfl) (sj (P := fun i => okf 79 2 3 (19 + 8 * i)) hs4 (by decide +kernel)) (by rfl) (sj (P := fun i => Nat.beq (z_gr (19 + 8 * i) 3) (23 + 8 * i)) hs4 (by decide +kernel)) ?_
              refine z_rcs hc hH 1 (pc' := 62) (lv' := [(4, .ref (19 + 8 * s)), (0, .ref 0), (1, .int (nI s)), (2, .int x), (3, .int wh)]) (st' := [.int x, .ref (23 + 8 * s)]) (μ' := μ) (by rfl) ?_
              refine zq_iald hc hH (by rfl) 4 (oka_i (sj (P := fun i => oka 79 1 4 (23 + 8 * i)) hs4 (by decide +kernel))) (inOf3 (n := 4) rfl h2 h4) ?_
              refine z_rcs hc hH 1 (pc' := 67) (lv' := [(4, .ref (19 + 8 * s)), (0, .ref 0), (1, .int (nI s)), (2, .int x), (3, .int wh)]) (st' := [.int (μ.1 (23 + 8 * s) x.toNatClampNeg)]) (μ' := μ) (by rfl) ?_
              exact hr 0 67 _ _ _ (some (.int (μ.1 (23 + 8 * s) x.toNatClampNeg))) (by decide +kernel) (by rfl) (⟨(by first | rfl | simp only [h2, h3, h4, h5, h6, cond_true, cond_false]), (by simp only [h2, h3, h4, h5, h6, cond_true, cond_false])⟩)
          · have h5 : (decide (wh = 0)) = true := decide_eq_true (cn_ne.mp h5)
            refine z_rcs hc hH 1 (pc' := 45) (lv' := [(4, .ref (19 + 8 * s)), (0, .ref 0), (1, .int (nI s)), (2, .int x), (3, .int wh)]) (st' := [.ref (19 + 8 * s)]) (μ' := μ) (by rfl) ?_
            refine zq_gfr hc hH (by rfl) (ci := 2) (f := 2) (q := 22 + 8 * s) (by rfl) (sj (P := fun i => okf 79 2 2 (19 + 8 * i)) hs4 (by decide +kernel)) (by rfl) (sj (P := fun i => Nat.beq (z_gr (19 + 8 * i) 2) (22 + 8 * i)) hs4 (by decide +kernel)) ?_
            refine z_rcs hc hH 1 (pc' := 49) (lv' := [(4, .ref (19 + 8 * s)), (0, .ref 0), (1, .int (nI s)), (2, .int x), (3, .int wh)]) (st' := [.int x, .ref (22 + 8 * s)]) (μ' := μ) (by rfl) ?_
            refine zq_iald hc hH (by rfl) 4 (oka_i (sj (P := fun i => oka 79 1 4 (22 + 8 * i)) hs4 (by decide +kernel))) (inOf3 (n := 4) rfl h2 h4) ?_
            exact hr 0 50 _ _ _ (some (.int (μ.1 (22 + 8 * s) x.toNatClampNeg))) (by decide +kernel) (by rfl) (⟨(by first | rfl | simp only [h2, h3, h4, h5, cond_true, cond_false]), (by simp only [h2, h3, h4, h5, cond_true, cond_false])⟩)
        · have h4 : (decide (x < 4)) = false := decide_eq_false (cn_lt.mp h4)
          refine z_rcs hc hH 1 (pc' := 38) (lv' := [(4, .ref (19 + 8 * s)), (0, .ref 0), (1, .int (nI s)), (2, .int x), (3, .int wh)]) (st' := [.int (-1)]) (μ' := μ) (by rfl) ?_
          exact hr 0 38 _ _ _ (some (.int (-1))) (by decide +kernel) (by rfl) (⟨(by first | rfl | simp only [h2, h3, h4, cond_true, cond_false]), (by simp only [h2, h3, h4, cond_true, cond_false])⟩)
  · have h1 : (sI (nI s)) = false := nB_z.mp (cn_ne.mp h1)
    exact absurd (Eq.trans (Eq.symm (sI_n hs4)) h1) (by decide)
theorem gq_laid0 (d : Nat) (hd : 4 ≤ d) (μ : zM) (y x wh : Int32) (hy : sI y = false) : z_C d mi_X6_laid [.ref 0, .int y, .int x, .int wh] μ (fun r μ' => r = some (.int (-1)) ∧ μ' = μ) := by
  refine z_C_in (by decide) (by omega) (fun d' Z ed hc hr => ?_)
  have hH : zH mi_X6_laid zc_X6_laid 79 6 5 := ⟨by rfl, by rfl, by rfl, by rfl⟩
  refine z_rcs hc hH 1 (pc' := 1) (lv' := [(0, .ref 0), (1, .int y), (2, .int x), (3, .int wh)]) (st' := [.int y]) (μ' := μ) (by rfl) ?_
  refine zq_call hc (by rfl) (gc_isSeat d' (by omega) μ y) (by decide +kernel) (fun r9 μ9 hq => ?_)
  obtain ⟨hμ9, rfl⟩ := hq
  rw [hμ9]
  clear hμ9 μ9
  show Z 0 4 [(0, .ref 0), (1, .int y), (2, .int x), (3, .int wh)] [.int (nB (sI y))] μ
  refine zq_if hc hH (by rfl) (tg := 9) (by rfl) (fun h1 => ?_) (fun h1 => ?_)
  · have h1 : (sI y) = true := nB_n.mp (cm_ne.mp h1)
    exact absurd (Eq.trans (Eq.symm (hy)) h1) (by decide)
  · have h1 : (sI y) = false := nB_z.mp (cn_ne.mp h1)
    refine z_rcs hc hH 1 (pc' := 8) (lv' := [(0, .ref 0), (1, .int y), (2, .int x), (3, .int wh)]) (st' := [.int (-1)]) (μ' := μ) (by rfl) ?_
    exact hr 0 8 _ _ _ (some (.int (-1))) (by decide +kernel) (by rfl) (⟨rfl, rfl⟩)
theorem gq_seat0 (d : Nat) (hd : 4 ≤ d) (μ : zM) (s : Nat) (hs4 : s < 4) : z_C d mi_X6_seat [.ref 0, .int (nI s), .int 0] μ (fun r μ' => r = some (.int (μ.1 (18 + 8 * s) 4)) ∧ μ' = μ) := by
  refine z_C_in (by decide) (by omega) (fun d' Z ed hc hr => ?_)
  have hH : zH mi_X6_seat zc_X6_seat 79 6 4 := ⟨by rfl, by rfl, by rfl, by rfl⟩
  refine z_rcs hc hH 1 (pc' := 1) (lv' := [(0, .ref 0), (1, .int (nI s)), (2, .int 0)]) (st' := [.int (nI s)]) (μ' := μ) (by rfl) ?_
  refine zq_call hc (by rfl) (gc_isSeat d' (by omega) μ (nI s)) (by decide +kernel) (fun r9 μ9 hq => ?_)
  obtain ⟨hμ9, rfl⟩ := hq
  rw [hμ9]
  clear hμ9 μ9
  show Z 0 4 [(0, .ref 0), (1, .int (nI s)), (2, .int 0)] [.int (nB (sI (nI s)))] μ
  refine zq_if hc hH (by rfl) (tg := 9) (by rfl) (fun h1 => ?_) (fun h1 => ?_)
  · have h1 : (sI (nI s)) = true := nB_n.mp (cm_ne.mp h1)
    refine z_rcs hc hH 2 (pc' := 11) (lv' := [(0, .ref 0), (1, .int (nI s)), (2, .int 0)]) (st' := [.int (nI s), .ref 0]) (μ' := μ) (by rfl) ?_
    refine zq_call hc (by rfl) (gc_at4 d' (by omega) μ s hs4) (by decide +kernel) (fun r9 μ9 hq => ?_)
    obtain ⟨hμ9, rfl⟩ := hq
    rw [hμ9]
    clear hμ9 μ9
    show Z 0 14 [(0, .ref 0), (1, .int (nI s)), (2, .int 0)] [.ref (18 + 8 * s)] μ
    refine z_rcs hc hH 4 (pc' := 65) (lv' := [(3, .ref (18 + 8 * s)), (0, .ref 0), (1, .int (nI s)), (2, .int 0)]) (st' := [.ref (18 + 8 * s)]) (μ' := μ) (by rfl) ?_
    refine zq_gfi hc hH (by rfl) (ci := 1) (f := 4) (by rfl) (sj (P := fun i => okf 79 1 4 (18 + 8 * i)) hs4 (by decide +kernel)) (by rfl) ?_
    exact hr 0 68 _ _ _ (some (.int (μ.1 (18 + 8 * s) 4))) (by decide +kernel) (by rfl) (⟨rfl, rfl⟩)
  · have h1 : (sI (nI s)) = false := nB_z.mp (cn_ne.mp h1)
    exact absurd (Eq.trans (Eq.symm (sI_n hs4)) h1) (by decide)
theorem gq_seat1 (d : Nat) (hd : 4 ≤ d) (μ : zM) (s : Nat) (hs4 : s < 4) : z_C d mi_X6_seat [.ref 0, .int (nI s), .int 1] μ (fun r μ' => r = some (.int (μ.1 (18 + 8 * s) 5)) ∧ μ' = μ) := by
  refine z_C_in (by decide) (by omega) (fun d' Z ed hc hr => ?_)
  have hH : zH mi_X6_seat zc_X6_seat 79 6 4 := ⟨by rfl, by rfl, by rfl, by rfl⟩
  refine z_rcs hc hH 1 (pc' := 1) (lv' := [(0, .ref 0), (1, .int (nI s)), (2, .int 1)]) (st' := [.int (nI s)]) (μ' := μ) (by rfl) ?_
  refine zq_call hc (by rfl) (gc_isSeat d' (by omega) μ (nI s)) (by decide +kernel) (fun r9 μ9 hq => ?_)
  obtain ⟨hμ9, rfl⟩ := hq
  rw [hμ9]
  clear hμ9 μ9
  show Z 0 4 [(0, .ref 0), (1, .int (nI s)), (2, .int 1)] [.int (nB (sI (nI s)))] μ
  refine zq_if hc hH (by rfl) (tg := 9) (by rfl) (fun h1 => ?_) (fun h1 => ?_)
  · have h1 : (sI (nI s)) = true := nB_n.mp (cm_ne.mp h1)
    refine z_rcs hc hH 2 (pc' := 11) (lv' := [(0, .ref 0), (1, .int (nI s)), (2, .int 1)]) (st' := [.int (nI s), .ref 0]) (μ' := μ) (by rfl) ?_
    refine zq_call hc (by rfl) (gc_at4 d' (by omega) μ s hs4) (by decide +kernel) (fun r9 μ9 hq => ?_)
    obtain ⟨hμ9, rfl⟩ := hq
    rw [hμ9]
    clear hμ9 μ9
    show Z 0 14 [(0, .ref 0), (1, .int (nI s)), (2, .int 1)] [.ref (18 + 8 * s)] μ
    refine z_rcs hc hH 4 (pc' := 70) (lv' := [(3, .ref (18 + 8 * s)), (0, .ref 0), (1, .int (nI s)), (2, .int 1)]) (st' := [.ref (18 + 8 * s)]) (μ' := μ) (by rfl) ?_
    refine zq_gfi hc hH (by rfl) (ci := 1) (f := 5) (by rfl) (sj (P := fun i => okf 79 1 5 (18 + 8 * i)) hs4 (by decide +kernel)) (by rfl) ?_
    exact hr 0 73 _ _ _ (some (.int (μ.1 (18 + 8 * s) 5))) (by decide +kernel) (by rfl) (⟨rfl, rfl⟩)
  · have h1 : (sI (nI s)) = false := nB_z.mp (cn_ne.mp h1)
    exact absurd (Eq.trans (Eq.symm (sI_n hs4)) h1) (by decide)
theorem gq_seat2 (d : Nat) (hd : 4 ≤ d) (μ : zM) (s : Nat) (hs4 : s < 4) : z_C d mi_X6_seat [.ref 0, .int (nI s), .int 2] μ (fun r μ' => r = some ((bif decide ((μ.1 (18 + 8 * s) 8) = 0) then .int 0 else .int 1)) ∧ μ' = μ) := by
  refine z_C_in (by decide) (by omega) (fun d' Z ed hc hr => ?_)
  have hH : zH mi_X6_seat zc_X6_seat 79 6 4 := ⟨by rfl, by rfl, by rfl, by rfl⟩
  refine z_rcs hc hH 1 (pc' := 1) (lv' := [(0, .ref 0), (1, .int (nI s)), (2, .int 2)]) (st' := [.int (nI s)]) (μ' := μ) (by rfl) ?_
  refine zq_call hc (by rfl) (gc_isSeat d' (by omega) μ (nI s)) (by decide +kernel) (fun r9 μ9 hq => ?_)
  obtain ⟨hμ9, rfl⟩ := hq
  rw [hμ9]
  clear hμ9 μ9
  show Z 0 4 [(0, .ref 0), (1, .int (nI s)), (2, .int 2)] [.int (nB (sI (nI s)))] μ
  refine zq_if hc hH (by rfl) (tg := 9) (by rfl) (fun h1 => ?_) (fun h1 => ?_)
  · have h1 : (sI (nI s)) = true := nB_n.mp (cm_ne.mp h1)
    refine z_rcs hc hH 2 (pc' := 11) (lv' := [(0, .ref 0), (1, .int (nI s)), (2, .int 2)]) (st' := [.int (nI s), .ref 0]) (μ' := μ) (by rfl) ?_
    refine zq_call hc (by rfl) (gc_at4 d' (by omega) μ s hs4) (by decide +kernel) (fun r9 μ9 hq => ?_)
    obtain ⟨hμ9, rfl⟩ := hq
    rw [hμ9]
    clear hμ9 μ9
    show Z 0 14 [(0, .ref 0), (1, .int (nI s)), (2, .int 2)] [.ref (18 + 8 * s)] μ
    refine z_rcs hc hH 4 (pc' := 75) (lv' := [(3, .ref (18 + 8 * s)), (0, .ref 0), (1, .int (nI s)), (2, .int 2)]) (st' := [.ref (18 + 8 * s)]) (μ' := μ) (by rfl) ?_
    refine zq_gfi hc hH (by rfl) (ci := 1) (f := 8) (by rfl) (sj (P := fun i => okf 79 1 8 (18 + 8 * i)) hs4 (by decide +kernel)) (by rfl) ?_
    refine zq_if hc hH (by rfl) (tg := 85) (by rfl) (fun h2 => ?_) (fun h2 => ?_)
    · have h2 : (decide ((μ.1 (18 + 8 * s) 8) = 0)) = true := decide_eq_true (cm_eq9.mp h2)
      refine z_rcs hc hH 1 (pc' := 86) (lv' := [(3, .ref (18 + 8 * s)), (0, .ref 0), (1, .int (nI s)), (2, .int 2)]) (st' := [.int 0]) (μ' := μ) (by rfl) ?_
      exact hr 0 86 _ _ _ (some (.int 0)) (by decide +kernel) (by rfl) (⟨(by first | rfl | simp only [h2, cond_true, cond_false]), (by simp only [h2, cond_true, cond_false])⟩)
    · have h2 : (decide ((μ.1 (18 + 8 * s) 8) = 0)) = false := decide_eq_false (cn_eq.mp h2)
      refine z_rcs hc hH 2 (pc' := 86) (lv' := [(3, .ref (18 + 8 * s)), (0, .ref 0), (1, .int (nI s)), (2, .int 2)]) (st' := [.int 1]) (μ' := μ) (by rfl) ?_
      exact hr 0 86 _ _ _ (some (.int 1)) (by decide +kernel) (by rfl) (⟨(by first | rfl | simp only [h2, cond_true, cond_false]), (by simp only [h2, cond_true, cond_false])⟩)
  · have h1 : (sI (nI s)) = false := nB_z.mp (cn_ne.mp h1)
    exact absurd (Eq.trans (Eq.symm (sI_n hs4)) h1) (by decide)
theorem gq_seat3 (d : Nat) (hd : 4 ≤ d) (μ : zM) (s : Nat) (hs4 : s < 4) : z_C d mi_X6_seat [.ref 0, .int (nI s), .int 3] μ (fun r μ' => r = some (.int (((nI s) - (μ.1 0 9)) &&& 3)) ∧ μ' = μ) := by
  refine z_C_in (by decide) (by omega) (fun d' Z ed hc hr => ?_)
  have hH : zH mi_X6_seat zc_X6_seat 79 6 4 := ⟨by rfl, by rfl, by rfl, by rfl⟩
  refine z_rcs hc hH 1 (pc' := 1) (lv' := [(0, .ref 0), (1, .int (nI s)), (2, .int 3)]) (st' := [.int (nI s)]) (μ' := μ) (by rfl) ?_
  refine zq_call hc (by rfl) (gc_isSeat d' (by omega) μ (nI s)) (by decide +kernel) (fun r9 μ9 hq => ?_)
  obtain ⟨hμ9, rfl⟩ := hq
  rw [hμ9]
  clear hμ9 μ9
  show Z 0 4 [(0, .ref 0), (1, .int (nI s)), (2, .int 3)] [.int (nB (sI (nI s)))] μ
  refine zq_if hc hH (by rfl) (tg := 9) (by rfl) (fun h1 => ?_) (fun h1 => ?_)
  · have h1 : (sI (nI s)) = true := nB_n.mp (cm_ne.mp h1)
    refine z_rcs hc hH 2 (pc' := 11) (lv' := [(0, .ref 0), (1, .int (nI s)), (2, .int 3)]) (st' := [.int (nI s), .ref 0]) (μ' := μ) (by rfl) ?_
    refine zq_call hc (by rfl) (gc_at4 d' (by omega) μ s hs4) (by decide +kernel) (fun r9 μ9 hq => ?_)
    obtain ⟨hμ9, rfl⟩ := hq
    rw [hμ9]
    clear hμ9 μ9
    show Z 0 14 [(0, .ref 0), (1, .int (nI s)), (2, .int 3)] [.ref (18 + 8 * s)] μ
    refine z_rcs hc hH 5 (pc' := 89) (lv' := [(3, .ref (18 + 8 * s)), (0, .ref 0), (1, .int (nI s)), (2, .int 3)]) (st' := [.int (nI s), .ref 0]) (μ' := μ) (by rfl) ?_
    refine zq_call hc (by rfl) (gc_windOf d' (by omega) μ (nI s)) (by decide +kernel) (fun r9 μ9 hq => ?_)
    obtain ⟨hμ9, rfl⟩ := hq
    rw [hμ9]
    clear hμ9 μ9
    show Z 0 92 [(3, .ref (18 + 8 * s)), (0, .ref 0), (1, .int (nI s)), (2, .int 3)] [.int (((nI s) - (μ.1 0 9)) &&& 3)] μ
    exact hr 0 92 _ _ _ (some (.int (((nI s) - (μ.1 0 9)) &&& 3))) (by decide +kernel) (by rfl) (⟨rfl, rfl⟩)
  · have h1 : (sI (nI s)) = false := nB_z.mp (cn_ne.mp h1)
    exact absurd (Eq.trans (Eq.symm (sI_n hs4)) h1) (by decide)
theorem gq_seat4 (d : Nat) (hd : 4 ≤ d) (μ : zM) (s : Nat) (hs4 : s < 4) : z_C d mi_X6_seat [.ref 0, .int (nI s), .int 4] μ (fun r μ' => r = some (.int (μ.1 (18 + 8 * s) 2)) ∧ μ' = μ) := by
  refine z_C_in (by decide) (by omega) (fun d' Z ed hc hr => ?_)
  have hH : zH mi_X6_seat zc_X6_seat 79 6 4 := ⟨by rfl, by rfl, by rfl, by rfl⟩
  refine z_rcs hc hH 1 (pc' := 1) (lv' := [(0, .ref 0), (1, .int (nI s)), (2, .int 4)]) (st' := [.int (nI s)]) (μ' := μ) (by rfl) ?_
  refine zq_call hc (by rfl) (gc_isSeat d' (by omega) μ (nI s)) (by decide +kernel) (fun r9 μ9 hq => ?_)
  obtain ⟨hμ9, rfl⟩ := hq
  rw [hμ9]
  clear hμ9 μ9
  show Z 0 4 [(0, .ref 0), (1, .int (nI s)), (2, .int 4)] [.int (nB (sI (nI s)))] μ
  refine zq_if hc hH (by rfl) (tg := 9) (by rfl) (fun h1 => ?_) (fun h1 => ?_)
  · have h1 : (sI (nI s)) = true := nB_n.mp (cm_ne.mp h1)
    refine z_rcs hc hH 2 (pc' := 11) (lv' := [(0, .ref 0), (1, .int (nI s)), (2, .int 4)]) (st' := [.int (nI s), .ref 0]) (μ' := μ) (by rfl) ?_
    refine zq_call hc (by rfl) (gc_at4 d' (by omega) μ s hs4) (by decide +kernel) (fun r9 μ9 hq => ?_)
    obtain ⟨hμ9, rfl⟩ := hq
    rw [hμ9]
    clear hμ9 μ9
    show Z 0 14 [(0, .ref 0), (1, .int (nI s)), (2, .int 4)] [.ref (18 + 8 * s)] μ
    refine z_rcs hc hH 4 (pc' := 94) (lv' := [(3, .ref (18 + 8 * s)), (0, .ref 0), (1, .int (nI s)), (2, .int 4)]) (st' := [.ref (18 + 8 * s)]) (μ' := μ) (by rfl) ?_
    refine zq_gfi hc hH (by rfl) (ci := 1) (f := 2) (by rfl) (sj (P := fun i => okf 79 1 2 (18 + 8 * i)) hs4 (by decide +kernel)) (by rfl) ?_
    exact hr 0 97 _ _ _ (some (.int (μ.1 (18 + 8 * s) 2))) (by decide +kernel) (by rfl) (⟨rfl, rfl⟩)
  · have h1 : (sI (nI s)) = false := nB_z.mp (cn_ne.mp h1)
    exact absurd (Eq.trans (Eq.symm (sI_n hs4)) h1) (by decide)
theorem gq_seat5 (d : Nat) (hd : 4 ≤ d) (μ : zM) (s : Nat) (hs4 : s < 4) : z_C d mi_X6_seat [.ref 0, .int (nI s), .int 5] μ (fun r μ' => r = some (.int (μ.1 (19 + 8 * s) 4)) ∧ μ' = μ) := by
  refine z_C_in (by decide) (by omega) (fun d' Z ed hc hr => ?_)
  have hH : zH mi_X6_seat zc_X6_seat 79 6 4 := ⟨by rfl, by rfl, by rfl, by rfl⟩
  refine z_rcs hc hH 1 (pc' := 1) (lv' := [(0, .ref 0), (1, .int (nI s)), (2, .int 5)]) (st' := [.int (nI s)]) (μ' := μ) (by rfl) ?_
  refine zq_call hc (by rfl) (gc_isSeat d' (by omega) μ (nI s)) (by decide +kernel) (fun r9 μ9 hq => ?_)
  obtain ⟨hμ9, rfl⟩ := hq
  rw [hμ9]
  clear hμ9 μ9
  show Z 0 4 [(0, .ref 0), (1, .int (nI s)), (2, .int 5)] [.int (nB (sI (nI s)))] μ
  refine zq_if hc hH (by rfl) (tg := 9) (by rfl) (fun h1 => ?_) (fun h1 => ?_)
  · have h1 : (sI (nI s)) = true := nB_n.mp (cm_ne.mp h1)
    refine z_rcs hc hH 2 (pc' := 11) (lv' := [(0, .ref 0), (1, .int (nI s)), (2, .int 5)]) (st' := [.int (nI s), .ref 0]) (μ' := μ) (by rfl) ?_
    refine zq_call hc (by rfl) (gc_at4 d' (by omega) μ s hs4) (by decide +kernel) (fun r9 μ9 hq => ?_)
    obtain ⟨hμ9, rfl⟩ := hq
    rw [hμ9]
    clear hμ9 μ9
    show Z 0 14 [(0, .ref 0), (1, .int (nI s)), (2, .int 5)] [.ref (18 + 8 * s)] μ
    refine z_rcs hc hH 4 (pc' := 99) (lv' := [(3, .ref (18 + 8 * s)), (0, .ref 0), (1, .int (nI s)), (2, .int 5)]) (st' := [.ref (18 + 8 * s)]) (μ' := μ) (by rfl) ?_
    refine zq_gfr hc hH (by rfl) (ci := 1) (f := 0) (q := 19 + 8 * s) (by rfl) (sj (P := fun i => okf 79 1 0 (18 + 8 * i)) hs4 (by decide +kernel)) (by rfl) (sj (P := fun i => Nat.beq (z_gr (18 + 8 * i) 0) (19 + 8 * i)) hs4 (by decide +kernel)) ?_
    refine zq_gfi hc hH (by rfl) (ci := 2) (f := 4) (by rfl) (sj (P := fun i => okf 79 2 4 (19 + 8 * i)) hs4 (by decide +kernel)) (by rfl) ?_
    exact hr 0 105 _ _ _ (some (.int (μ.1 (19 + 8 * s) 4))) (by decide +kernel) (by rfl) (⟨rfl, rfl⟩)
  · have h1 : (sI (nI s)) = false := nB_z.mp (cn_ne.mp h1)
    exact absurd (Eq.trans (Eq.symm (sI_n hs4)) h1) (by decide)
theorem gq_seat6 (d : Nat) (hd : 4 ≤ d) (μ : zM) (s : Nat) (hs4 : s < 4) (op : Bool) (hop : ∀ d, 1 ≤ d → z_C d mi_X3_isOpen [.ref (19 + 8 * s)] μ (zR μ (.int (nB op)))) : z_C d mi_X6_seat [.ref 0, .int (nI s), .int 6] μ (fun r μ' => r = some ((bif op then .int 1 else .int 0)) ∧ μ' = μ) := by
  refine z_C_in (by decide) (by omega) (fun d' Z ed hc hr => ?_)
  have hH : zH mi_X6_seat zc_X6_seat 79 6 4 := ⟨by rfl, by rfl, by rfl, by rfl⟩
  refine z_rcs hc hH 1 (pc' := 1) (lv' := [(0, .ref 0), (1, .int (nI s)), (2, .int 6)]) (st' := [.int (nI s)]) (μ' := μ) (by rfl) ?_
  refine zq_call hc (by rfl) (gc_isSeat d' (by omega) μ (nI s)) (by decide +kernel) (fun r9 μ9 hq => ?_)
  obtain ⟨hμ9, rfl⟩ := hq
  rw [hμ9]
  clear hμ9 μ9
  show Z 0 4 [(0, .ref 0), (1, .int (nI s)), (2, .int 6)] [.int (nB (sI (nI s)))] μ
  refine zq_if hc hH (by rfl) (tg := 9) (by rfl) (fun h1 => ?_) (fun h1 => ?_)
  · have h1 : (sI (nI s)) = true := nB_n.mp (cm_ne.mp h1)
    refine z_rcs hc hH 2 (pc' := 11) (lv' := [(0, .ref 0), (1, .int (nI s)), (2, .int 6)]) (st' := [.int (nI s), .ref 0]) (μ' := μ) (by rfl) ?_
    refine zq_call hc (by rfl) (gc_at4 d' (by omega) μ s hs4) (by decide +kernel) (fun r9 μ9 hq => ?_)
    obtain ⟨hμ9, rfl⟩ := hq
    rw [hμ9]
    clear hμ9 μ9
    show Z 0 14 [(0, .ref 0), (1, .int (nI s)), (2, .int 6)] [.ref (18 + 8 * s)] μ
    refine z_rcs hc hH 4 (pc' := 107) (lv' := [(3, .ref (18 + 8 * s)), (0, .ref 0), (1, .int (nI s)), (2, .int 6)]) (st' := [.ref (18 + 8 * s)]) (μ' := μ) (by rfl) ?_
    refine zq_gfr hc hH (by rfl) (ci := 1) (f := 0) (q := 19 + 8 * s) (by rfl) (sj (P := fun i => okf 79 1 0 (18 + 8 * i)) hs4 (by decide +kernel)) (by rfl) (sj (P := fun i => Nat.beq (z_gr (18 + 8 * i) 0) (19 + 8 * i)) hs4 (by decide +kernel)) ?_
    refine zq_call hc (z_clv (by rfl) (by rfl) (by rfl) (by rfl) (by rfl) (by rfl) (sj (P := fun i => okr 79 2 (19 + 8 * i)) hs4 (by decide +kernel)) (by rfl) (by rfl)) (hop d' (by omega)) (by decide +kernel) (fun r9 μ9 hq => ?_)
    obtain ⟨hμ9, rfl⟩ := hq
    rw [hμ9]
    clear hμ9 μ9
    show Z 0 113 [(3, .ref (18 + 8 * s)), (0, .ref 0), (1, .int (nI s)), (2, .int 6)] [.int (nB op)] μ
    refine zq_if hc hH (by rfl) (tg := 120) (by rfl) (fun h2 => ?_) (fun h2 => ?_)
    · have h2 : (op) = false := nB_z.mp (cm_eq9.mp h2)
      refine z_rcs hc hH 1 (pc' := 121) (lv' := [(3, .ref (18 + 8 * s)), (0, .ref 0), (1, .int (nI s)), (2, .int 6)]) (st' := [.int 0]) (μ' := μ) (by rfl) ?_
      exact hr 0 121 _ _ _ (some (.int 0)) (by decide +kernel) (by rfl) (⟨(by first | rfl | simp only [h2, cond_true, cond_false]), (by simp only [h2, cond_true, cond_false])⟩)
    · have h2 : (op) = true := nB_n.mp (cn_eq.mp h2)
      refine z_rcs hc hH 2 (pc' := 121) (lv' := [(3, .ref (18 + 8 * s)), (0, .ref 0), (1, .int (nI s)), (2, .int 6)]) (st' := [.int 1]) (μ' := μ) (by rfl) ?_
      exact hr 0 121 _ _ _ (some (.int 1)) (by decide +kernel) (by rfl) (⟨(by first | rfl | simp only [h2, cond_true, cond_false]), (by simp only [h2, cond_true, cond_false])⟩)
  · have h1 : (sI (nI s)) = false := nB_z.mp (cn_ne.mp h1)
    exact absurd (Eq.trans (Eq.symm (sI_n hs4)) h1) (by decide)
theorem gq_seat7 (d : Nat) (hd : 4 ≤ d) (μ : zM) (s : Nat) (hs4 : s < 4) : z_C d mi_X6_seat [.ref 0, .int (nI s), .int 7] μ (fun r μ' => r = some ((bif decide ((μ.1 (18 + 8 * s) 9) = 0) then .int 0 else .int 1)) ∧ μ' = μ) := by
  refine z_C_in (by decide) (by omega) (fun d' Z ed hc hr => ?_)
  have hH : zH mi_X6_seat zc_X6_seat 79 6 4 := ⟨by rfl, by rfl, by rfl, by rfl⟩
  refine z_rcs hc hH 1 (pc' := 1) (lv' := [(0, .ref 0), (1, .int (nI s)), (2, .int 7)]) (st' := [.int (nI s)]) (μ' := μ) (by rfl) ?_
  refine zq_call hc (by rfl) (gc_isSeat d' (by omega) μ (nI s)) (by decide +kernel) (fun r9 μ9 hq => ?_)
  obtain ⟨hμ9, rfl⟩ := hq
  rw [hμ9]
  clear hμ9 μ9
  show Z 0 4 [(0, .ref 0), (1, .int (nI s)), (2, .int 7)] [.int (nB (sI (nI s)))] μ
  refine zq_if hc hH (by rfl) (tg := 9) (by rfl) (fun h1 => ?_) (fun h1 => ?_)
  · have h1 : (sI (nI s)) = true := nB_n.mp (cm_ne.mp h1)
    refine z_rcs hc hH 2 (pc' := 11) (lv' := [(0, .ref 0), (1, .int (nI s)), (2, .int 7)]) (st' := [.int (nI s), .ref 0]) (μ' := μ) (by rfl) ?_
    refine zq_call hc (by rfl) (gc_at4 d' (by omega) μ s hs4) (by decide +kernel) (fun r9 μ9 hq => ?_)
    obtain ⟨hμ9, rfl⟩ := hq
    rw [hμ9]
    clear hμ9 μ9
    show Z 0 14 [(0, .ref 0), (1, .int (nI s)), (2, .int 7)] [.ref (18 + 8 * s)] μ
    refine z_rcs hc hH 4 (pc' := 123) (lv' := [(3, .ref (18 + 8 * s)), (0, .ref 0), (1, .int (nI s)), (2, .int 7)]) (st' := [.ref (18 + 8 * s)]) (μ' := μ) (by rfl) ?_
    refine zq_gfi hc hH (by rfl) (ci := 1) (f := 9) (by rfl) (sj (P := fun i => okf 79 1 9 (18 + 8 * i)) hs4 (by decide +kernel)) (by rfl) ?_
    refine zq_if hc hH (by rfl) (tg := 133) (by rfl) (fun h2 => ?_) (fun h2 => ?_)
    · have h2 : (decide ((μ.1 (18 + 8 * s) 9) = 0)) = true := decide_eq_true (cm_eq9.mp h2)
      refine z_rcs hc hH 1 (pc' := 134) (lv' := [(3, .ref (18 + 8 * s)), (0, .ref 0), (1, .int (nI s)), (2, .int 7)]) (st' := [.int 0]) (μ' := μ) (by rfl) ?_
      exact hr 0 134 _ _ _ (some (.int 0)) (by decide +kernel) (by rfl) (⟨(by first | rfl | simp only [h2, cond_true, cond_false]), (by simp only [h2, cond_true, cond_false])⟩)
    · have h2 : (decide ((μ.1 (18 + 8 * s) 9) = 0)) = false := decide_eq_false (cn_eq.mp h2)
      refine z_rcs hc hH 2 (pc' := 134) (lv' := [(3, .ref (18 + 8 * s)), (0, .ref 0), (1, .int (nI s)), (2, .int 7)]) (st' := [.int 1]) (μ' := μ) (by rfl) ?_
      exact hr 0 134 _ _ _ (some (.int 1)) (by decide +kernel) (by rfl) (⟨(by first | rfl | simp only [h2, cond_true, cond_false]), (by simp only [h2, cond_true, cond_false])⟩)
  · have h1 : (sI (nI s)) = false := nB_z.mp (cn_ne.mp h1)
    exact absurd (Eq.trans (Eq.symm (sI_n hs4)) h1) (by decide)
theorem gq_seatd (d : Nat) (hd : 4 ≤ d) (μ : zM) (s : Nat) (hs4 : s < 4) (x : Int32) (hx : (decide (x.toInt < 0) || decide (7 < x.toInt)) = true) : z_C d mi_X6_seat [.ref 0, .int (nI s), .int x] μ (fun r μ' => r = some (.int (-1)) ∧ μ' = μ) := by
  refine z_C_in (by decide) (by omega) (fun d' Z ed hc hr => ?_)
  have hH : zH mi_X6_seat zc_X6_seat 79 6 4 := ⟨by rfl, by rfl, by rfl, by rfl⟩
  refine z_rcs hc hH 1 (pc' := 1) (lv' := [(0, .ref 0), (1, .int (nI s)), (2, .int x)]) (st' := [.int (nI s)]) (μ' := μ) (by rfl) ?_
  refine zq_call hc (by rfl) (gc_isSeat d' (by omega) μ (nI s)) (by decide +kernel) (fun r9 μ9 hq => ?_)
  obtain ⟨hμ9, rfl⟩ := hq
  rw [hμ9]
  clear hμ9 μ9
  show Z 0 4 [(0, .ref 0), (1, .int (nI s)), (2, .int x)] [.int (nB (sI (nI s)))] μ
  refine zq_if hc hH (by rfl) (tg := 9) (by rfl) (fun h1 => ?_) (fun h1 => ?_)
  · have h1 : (sI (nI s)) = true := nB_n.mp (cm_ne.mp h1)
    refine z_rcs hc hH 2 (pc' := 11) (lv' := [(0, .ref 0), (1, .int (nI s)), (2, .int x)]) (st' := [.int (nI s), .ref 0]) (μ' := μ) (by rfl) ?_
    refine zq_call hc (by rfl) (gc_at4 d' (by omega) μ s hs4) (by decide +kernel) (fun r9 μ9 hq => ?_)
    obtain ⟨hμ9, rfl⟩ := hq
    rw [hμ9]
    clear hμ9 μ9
    show Z 0 14 [(0, .ref 0), (1, .int (nI s)), (2, .int x)] [.ref (18 + 8 * s)] μ
    refine z_rcs hc hH 2 (pc' := 16) (lv' := [(3, .ref (18 + 8 * s)), (0, .ref 0), (1, .int (nI s)), (2, .int x)]) (st' := [.int x]) (μ' := μ) (by rfl) ?_
    refine zq_tsd hc hH (by rfl) (tg := 135) (by rfl) hx ?_
    refine z_rcs hc hH 1 (pc' := 136) (lv' := [(3, .ref (18 + 8 * s)), (0, .ref 0), (1, .int (nI s)), (2, .int x)]) (st' := [.int (-1)]) (μ' := μ) (by rfl) ?_
    exact hr 0 136 _ _ _ (some (.int (-1))) (by decide +kernel) (by rfl) (⟨rfl, rfl⟩)
  · have h1 : (sI (nI s)) = false := nB_z.mp (cn_ne.mp h1)
    exact absurd (Eq.trans (Eq.symm (sI_n hs4)) h1) (by decide)
theorem gq_seat0y (d : Nat) (hd : 4 ≤ d) (μ : zM) (y x : Int32) (hy : sI y = false) : z_C d mi_X6_seat [.ref 0, .int y, .int x] μ (fun r μ' => r = some (.int (-1)) ∧ μ' = μ) := by
  refine z_C_in (by decide) (by omega) (fun d' Z ed hc hr => ?_)
  have hH : zH mi_X6_seat zc_X6_seat 79 6 4 := ⟨by rfl, by rfl, by rfl, by rfl⟩
  refine z_rcs hc hH 1 (pc' := 1) (lv' := [(0, .ref 0), (1, .int y), (2, .int x)]) (st' := [.int y]) (μ' := μ) (by rfl) ?_
  refine zq_call hc (by rfl) (gc_isSeat d' (by omega) μ y) (by decide +kernel) (fun r9 μ9 hq => ?_)
  obtain ⟨hμ9, rfl⟩ := hq
  rw [hμ9]
  clear hμ9 μ9
  show Z 0 4 [(0, .ref 0), (1, .int y), (2, .int x)] [.int (nB (sI y))] μ
  refine zq_if hc hH (by rfl) (tg := 9) (by rfl) (fun h1 => ?_) (fun h1 => ?_)
  · have h1 : (sI y) = true := nB_n.mp (cm_ne.mp h1)
    exact absurd (Eq.trans (Eq.symm (hy)) h1) (by decide)
  · have h1 : (sI y) = false := nB_z.mp (cn_ne.mp h1)
    refine z_rcs hc hH 1 (pc' := 8) (lv' := [(0, .ref 0), (1, .int y), (2, .int x)]) (st' := [.int (-1)]) (μ' := μ) (by rfl) ?_
    exact hr 0 8 _ _ _ (some (.int (-1))) (by decide +kernel) (by rfl) (⟨rfl, rfl⟩)
theorem gq_count0 (d : Nat) (hd : 4 ≤ d) (μ : zM) : z_C d mi_X6_count [.ref 0, .int 0] μ (fun r μ' => r = some (.int (μ.1 0 7)) ∧ μ' = μ) := by
  refine z_C_in (by decide) (by omega) (fun d' Z ed hc hr => ?_)
  have hH : zH mi_X6_count zc_X6_count 79 6 2 := ⟨by rfl, by rfl, by rfl, by rfl⟩
  refine z_rcs hc hH 3 (pc' := 69) (lv' := [(0, .ref 0), (1, .int 0)]) (st' := [.ref 0]) (μ' := μ) (by rfl) ?_
  refine zq_gfi hc hH (by rfl) (ci := 5) (f := 7) (by rfl) (by decide +kernel) (by rfl) ?_
  exact hr 0 72 _ _ _ (some (.int (μ.1 0 7))) (by decide +kernel) (by rfl) (⟨rfl, rfl⟩)
theorem gq_count1 (d : Nat) (hd : 4 ≤ d) (μ : zM) : z_C d mi_X6_count [.ref 0, .int 1] μ (fun r μ' => r = some ((bif decide ((μ.1 0 7) = 0) then .int (-1) else .int (μ.1 0 8))) ∧ μ' = μ) := by
  refine z_C_in (by decide) (by omega) (fun d' Z ed hc hr => ?_)
  have hH : zH mi_X6_count zc_X6_count 79 6 2 := ⟨by rfl, by rfl, by rfl, by rfl⟩
  refine z_rcs hc hH 3 (pc' := 74) (lv' := [(0, .ref 0), (1, .int 1)]) (st' := [.ref 0]) (μ' := μ) (by rfl) ?_
  refine zq_gfi hc hH (by rfl) (ci := 5) (f := 7) (by rfl) (by decide +kernel) (by rfl) ?_
  refine zq_if hc hH (by rfl) (tg := 84) (by rfl) (fun h1 => ?_) (fun h1 => ?_)
  · have h1 : (decide ((μ.1 0 7) = 0)) = false := decide_eq_false (cm_ne.mp h1)
    refine z_rcs hc hH 1 (pc' := 85) (lv' := [(0, .ref 0), (1, .int 1)]) (st' := [.ref 0]) (μ' := μ) (by rfl) ?_
    refine zq_gfi hc hH (by rfl) (ci := 5) (f := 8) (by rfl) (by decide +kernel) (by rfl) ?_
    exact hr 0 88 _ _ _ (some (.int (μ.1 0 8))) (by decide +kernel) (by rfl) (⟨(by first | rfl | simp only [h1, cond_true, cond_false]), (by simp only [h1, cond_true, cond_false])⟩)
  · have h1 : (decide ((μ.1 0 7) = 0)) = true := decide_eq_true (cn_ne.mp h1)
    refine z_rcs hc hH 2 (pc' := 88) (lv' := [(0, .ref 0), (1, .int 1)]) (st' := [.int (-1)]) (μ' := μ) (by rfl) ?_
    exact hr 0 88 _ _ _ (some (.int (-1))) (by decide +kernel) (by rfl) (⟨(by first | rfl | simp only [h1, cond_true, cond_false]), (by simp only [h1, cond_true, cond_false])⟩)
theorem gq_count2 (d : Nat) (hd : 4 ≤ d) (μ : zM) : z_C d mi_X6_count [.ref 0, .int 2] μ (fun r μ' => r = some (.int (μ.1 0 9)) ∧ μ' = μ) := by
  refine z_C_in (by decide) (by omega) (fun d' Z ed hc hr => ?_)
  have hH : zH mi_X6_count zc_X6_count 79 6 2 := ⟨by rfl, by rfl, by rfl, by rfl⟩
  refine z_rcs hc hH 3 (pc' := 90) (lv' := [(0, .ref 0), (1, .int 2)]) (st' := [.ref 0]) (μ' := μ) (by rfl) ?_
  refine zq_gfi hc hH (by rfl) (ci := 5) (f := 9) (by rfl) (by decide +kernel) (by rfl) ?_
  exact hr 0 93 _ _ _ (some (.int (μ.1 0 9))) (by decide +kernel) (by rfl) (⟨rfl, rfl⟩)
theorem gq_count3 (d : Nat) (hd : 4 ≤ d) (μ : zM) : z_C d mi_X6_count [.ref 0, .int 3] μ (fun r μ' => r = some (.int (μ.1 0 10)) ∧ μ' = μ) := by
  refine z_C_in (by decide) (by omega) (fun d' Z ed hc hr => ?_)
  have hH : zH mi_X6_count zc_X6_count 79 6 2 := ⟨by rfl, by rfl, by rfl, by rfl⟩
  refine z_rcs hc hH 3 (pc' := 95) (lv' := [(0, .ref 0), (1, .int 3)]) (st' := [.ref 0]) (μ' := μ) (by rfl) ?_
  refine zq_gfi hc hH (by rfl) (ci := 5) (f := 10) (by rfl) (by decide +kernel) (by rfl) ?_
  exact hr 0 98 _ _ _ (some (.int (μ.1 0 10))) (by decide +kernel) (by rfl) (⟨rfl, rfl⟩)
theorem gq_count4 (d : Nat) (hd : 4 ≤ d) (μ : zM) : z_C d mi_X6_count [.ref 0, .int 4] μ (fun r μ' => r = some (.int (μ.1 0 11)) ∧ μ' = μ) := by
  refine z_C_in (by decide) (by omega) (fun d' Z ed hc hr => ?_)
  have hH : zH mi_X6_count zc_X6_count 79 6 2 := ⟨by rfl, by rfl, by rfl, by rfl⟩
  refine z_rcs hc hH 3 (pc' := 100) (lv' := [(0, .ref 0), (1, .int 4)]) (st' := [.ref 0]) (μ' := μ) (by rfl) ?_
  refine zq_gfi hc hH (by rfl) (ci := 5) (f := 11) (by rfl) (by decide +kernel) (by rfl) ?_
  exact hr 0 103 _ _ _ (some (.int (μ.1 0 11))) (by decide +kernel) (by rfl) (⟨rfl, rfl⟩)
theorem gq_count5 (d : Nat) (hd : 4 ≤ d) (μ : zM) : z_C d mi_X6_count [.ref 0, .int 5] μ (fun r μ' => r = some (.int (μ.1 0 12)) ∧ μ' = μ) := by
  refine z_C_in (by decide) (by omega) (fun d' Z ed hc hr => ?_)
  have hH : zH mi_X6_count zc_X6_count 79 6 2 := ⟨by rfl, by rfl, by rfl, by rfl⟩
  refine z_rcs hc hH 3 (pc' := 105) (lv' := [(0, .ref 0), (1, .int 5)]) (st' := [.ref 0]) (μ' := μ) (by rfl) ?_
  refine zq_gfi hc hH (by rfl) (ci := 5) (f := 12) (by rfl) (by decide +kernel) (by rfl) ?_
  exact hr 0 108 _ _ _ (some (.int (μ.1 0 12))) (by decide +kernel) (by rfl) (⟨rfl, rfl⟩)
theorem gq_count6 (d : Nat) (hd : 4 ≤ d) (μ : zM) : z_C d mi_X6_count [.ref 0, .int 6] μ (fun r μ' => r = some (.int (xLf μ)) ∧ μ' = μ) := by
  refine z_C_in (by decide) (by omega) (fun d' Z ed hc hr => ?_)
  have hH : zH mi_X6_count zc_X6_count 79 6 2 := ⟨by rfl, by rfl, by rfl, by rfl⟩
  refine z_rcs hc hH 3 (pc' := 110) (lv' := [(0, .ref 0), (1, .int 6)]) (st' := [.ref 0]) (μ' := μ) (by rfl) ?_
  refine zq_gfr hc hH (by rfl) (ci := 5) (f := 1) (q := 2) (by rfl) (by decide +kernel) (by rfl) (by decide +kernel) ?_
  refine zq_call hc (by rfl) (gc_left d' (by omega) μ) (by decide +kernel) (fun r9 μ9 hq => ?_)
  obtain ⟨hμ9, rfl⟩ := hq
  rw [hμ9]
  clear hμ9 μ9
  show Z 0 116 [(0, .ref 0), (1, .int 6)] [.int (xLf μ)] μ
  exact hr 0 116 _ _ _ (some (.int (xLf μ))) (by decide +kernel) (by rfl) (⟨rfl, rfl⟩)
theorem gq_count7 (d : Nat) (hd : 4 ≤ d) (μ : zM) : z_C d mi_X6_count [.ref 0, .int 7] μ (fun r μ' => r = some (.int (μ.1 2 3)) ∧ μ' = μ) := by
  refine z_C_in (by decide) (by omega) (fun d' Z ed hc hr => ?_)
  have hH : zH mi_X6_count zc_X6_count 79 6 2 := ⟨by rfl, by rfl, by rfl, by rfl⟩
  refine z_rcs hc hH 3 (pc' := 118) (lv' := [(0, .ref 0), (1, .int 7)]) (st' := [.ref 0]) (μ' := μ) (by rfl) ?_
  refine zq_gfr hc hH (by rfl) (ci := 5) (f := 1) (q := 2) (by rfl) (by decide +kernel) (by rfl) (by decide +kernel) ?_
  refine zq_gfi hc hH (by rfl) (ci := 3) (f := 3) (by rfl) (by decide +kernel) (by rfl) ?_
  exact hr 0 124 _ _ _ (some (.int (μ.1 2 3))) (by decide +kernel) (by rfl) (⟨rfl, rfl⟩)
theorem gq_count8 (d : Nat) (hd : 4 ≤ d) (μ : zM) : z_C d mi_X6_count [.ref 0, .int 8] μ (fun r μ' => r = some (.int (xSg μ)) ∧ μ' = μ) := by
  refine z_C_in (by decide) (by omega) (fun d' Z ed hc hr => ?_)
  have hH : zH mi_X6_count zc_X6_count 79 6 2 := ⟨by rfl, by rfl, by rfl, by rfl⟩
  refine z_rcs hc hH 3 (pc' := 126) (lv' := [(0, .ref 0), (1, .int 8)]) (st' := [.ref 0]) (μ' := μ) (by rfl) ?_
  refine zq_gfr hc hH (by rfl) (ci := 5) (f := 1) (q := 2) (by rfl) (by decide +kernel) (by rfl) (by decide +kernel) ?_
  refine zq_call hc (by rfl) (gc_signs d' (by omega) μ) (by decide +kernel) (fun r9 μ9 hq => ?_)
  obtain ⟨hμ9, rfl⟩ := hq
  rw [hμ9]
  clear hμ9 μ9
  show Z 0 132 [(0, .ref 0), (1, .int 8)] [.int (xSg μ)] μ
  exact hr 0 132 _ _ _ (some (.int (xSg μ))) (by decide +kernel) (by rfl) (⟨rfl, rfl⟩)
theorem gq_count9 (d : Nat) (hd : 4 ≤ d) (μ : zM) : z_C d mi_X6_count [.ref 0, .int 9] μ (fun r μ' => r = some ((bif decide ((μ.1 0 13) = 0) then .int 0 else .int 1)) ∧ μ' = μ) := by
  refine z_C_in (by decide) (by omega) (fun d' Z ed hc hr => ?_)
  have hH : zH mi_X6_count zc_X6_count 79 6 2 := ⟨by rfl, by rfl, by rfl, by rfl⟩
  refine z_rcs hc hH 3 (pc' := 134) (lv' := [(0, .ref 0), (1, .int 9)]) (st' := [.ref 0]) (μ' := μ) (by rfl) ?_
  refine zq_gfi hc hH (by rfl) (ci := 5) (f := 13) (by rfl) (by decide +kernel) (by rfl) ?_
  refine zq_if hc hH (by rfl) (tg := 144) (by rfl) (fun h1 => ?_) (fun h1 => ?_)
  · have h1 : (decide ((μ.1 0 13) = 0)) = true := decide_eq_true (cm_eq9.mp h1)
    refine z_rcs hc hH 1 (pc' := 145) (lv' := [(0, .ref 0), (1, .int 9)]) (st' := [.int 0]) (μ' := μ) (by rfl) ?_
    exact hr 0 145 _ _ _ (some (.int 0)) (by decide +kernel) (by rfl) (⟨(by first | rfl | simp only [h1, cond_true, cond_false]), (by simp only [h1, cond_true, cond_false])⟩)
  · have h1 : (decide ((μ.1 0 13) = 0)) = false := decide_eq_false (cn_eq.mp h1)
    refine z_rcs hc hH 2 (pc' := 145) (lv' := [(0, .ref 0), (1, .int 9)]) (st' := [.int 1]) (μ' := μ) (by rfl) ?_
    exact hr 0 145 _ _ _ (some (.int 1)) (by decide +kernel) (by rfl) (⟨(by first | rfl | simp only [h1, cond_true, cond_false]), (by simp only [h1, cond_true, cond_false])⟩)
theorem gq_count10 (d : Nat) (hd : 4 ≤ d) (μ : zM) : z_C d mi_X6_count [.ref 0, .int 10] μ (fun r μ' => r = some (.int (μ.1 0 14)) ∧ μ' = μ) := by
  refine z_C_in (by decide) (by omega) (fun d' Z ed hc hr => ?_)
  have hH : zH mi_X6_count zc_X6_count 79 6 2 := ⟨by rfl, by rfl, by rfl, by rfl⟩
  refine z_rcs hc hH 3 (pc' := 147) (lv' := [(0, .ref 0), (1, .int 10)]) (st' := [.ref 0]) (μ' := μ) (by rfl) ?_
  refine zq_gfi hc hH (by rfl) (ci := 5) (f := 14) (by rfl) (by decide +kernel) (by rfl) ?_
  exact hr 0 150 _ _ _ (some (.int (μ.1 0 14))) (by decide +kernel) (by rfl) (⟨rfl, rfl⟩)
theorem gq_count11 (d : Nat) (hd : 4 ≤ d) (μ : zM) : z_C d mi_X6_count [.ref 0, .int 11] μ (fun r μ' => r = some (.int (μ.1 0 6)) ∧ μ' = μ) := by
  refine z_C_in (by decide) (by omega) (fun d' Z ed hc hr => ?_)
  have hH : zH mi_X6_count zc_X6_count 79 6 2 := ⟨by rfl, by rfl, by rfl, by rfl⟩
  refine z_rcs hc hH 3 (pc' := 152) (lv' := [(0, .ref 0), (1, .int 11)]) (st' := [.ref 0]) (μ' := μ) (by rfl) ?_
  refine zq_gfi hc hH (by rfl) (ci := 5) (f := 6) (by rfl) (by decide +kernel) (by rfl) ?_
  exact hr 0 155 _ _ _ (some (.int (μ.1 0 6))) (by decide +kernel) (by rfl) (⟨rfl, rfl⟩)
theorem gq_count12 (d : Nat) (hd : 4 ≤ d) (μ : zM) : z_C d mi_X6_count [.ref 0, .int 12] μ (fun r μ' => r = some ((bif decide ((μ.1 0 7) = 0) then .int (-1) else .int (μ.1 0 15))) ∧ μ' = μ) := by
  refine z_C_in (by decide) (by omega) (fun d' Z ed hc hr => ?_)
  have hH : zH mi_X6_count zc_X6_count 79 6 2 := ⟨by rfl, by rfl, by rfl, by rfl⟩
  refine z_rcs hc hH 3 (pc' := 157) (lv' := [(0, .ref 0), (1, .int 12)]) (st' := [.ref 0]) (μ' := μ) (by rfl) ?_
  refine zq_gfi hc hH (by rfl) (ci := 5) (f := 7) (by rfl) (by decide +kernel) (by rfl) ?_
  refine zq_if hc hH (by rfl) (tg := 167) (by rfl) (fun h1 => ?_) (fun h1 => ?_)
  · have h1 : (decide ((μ.1 0 7) = 0)) = false := decide_eq_false (cm_ne.mp h1)
    refine z_rcs hc hH 1 (pc' := 168) (lv' := [(0, .ref 0), (1, .int 12)]) (st' := [.ref 0]) (μ' := μ) (by rfl) ?_
    refine zq_gfi hc hH (by rfl) (ci := 5) (f := 15) (by rfl) (by decide +kernel) (by rfl) ?_
    exact hr 0 171 _ _ _ (some (.int (μ.1 0 15))) (by decide +kernel) (by rfl) (⟨(by first | rfl | simp only [h1, cond_true, cond_false]), (by simp only [h1, cond_true, cond_false])⟩)
  · have h1 : (decide ((μ.1 0 7) = 0)) = true := decide_eq_true (cn_ne.mp h1)
    refine z_rcs hc hH 2 (pc' := 171) (lv' := [(0, .ref 0), (1, .int 12)]) (st' := [.int (-1)]) (μ' := μ) (by rfl) ?_
    exact hr 0 171 _ _ _ (some (.int (-1))) (by decide +kernel) (by rfl) (⟨(by first | rfl | simp only [h1, cond_true, cond_false]), (by simp only [h1, cond_true, cond_false])⟩)
theorem gq_countd (d : Nat) (hd : 4 ≤ d) (μ : zM) (x : Int32) (hx : (decide (x.toInt < 0) || decide (12 < x.toInt)) = true) : z_C d mi_X6_count [.ref 0, .int x] μ (fun r μ' => r = some (.int (-1)) ∧ μ' = μ) := by
  refine z_C_in (by decide) (by omega) (fun d' Z ed hc hr => ?_)
  have hH : zH mi_X6_count zc_X6_count 79 6 2 := ⟨by rfl, by rfl, by rfl, by rfl⟩
  refine z_rcs hc hH 1 (pc' := 1) (lv' := [(0, .ref 0), (1, .int x)]) (st' := [.int x]) (μ' := μ) (by rfl) ?_
  refine zq_tsd hc hH (by rfl) (tg := 172) (by rfl) hx ?_
  refine z_rcs hc hH 1 (pc' := 173) (lv' := [(0, .ref 0), (1, .int x)]) (st' := [.int (-1)]) (μ' := μ) (by rfl) ?_
  exact hr 0 173 _ _ _ (some (.int (-1))) (by decide +kernel) (by rfl) (⟨rfl, rfl⟩)
theorem gq_part0 (d : Nat) (hd : 1 ≤ d) (μ : zM) (s : Nat) (hs4 : s < 4) : z_C d mi_X5_part [.ref (25 + 8 * s), .int 0] μ (fun r μ' => r = some (.int (μ.1 (25 + 8 * s) 0)) ∧ μ' = μ) := by
  refine z_C_in (by decide) (by omega) (fun d' Z ed hc hr => ?_)
  have hH : zH mi_X5_part zc_X5_part 79 5 2 := ⟨by rfl, by rfl, by rfl, by rfl⟩
  refine z_rcs hc hH 3 (pc' := 45) (lv' := [(0, .ref (25 + 8 * s)), (1, .int 0)]) (st' := [.ref (25 + 8 * s)]) (μ' := μ) (by rfl) ?_
  refine zq_gfi hc hH (by rfl) (ci := 4) (f := 0) (by rfl) (sj (P := fun i => okf 79 4 0 (25 + 8 * i)) hs4 (by decide +kernel)) (by rfl) ?_
  exact hr 0 48 _ _ _ (some (.int (μ.1 (25 + 8 * s) 0))) (by decide +kernel) (by rfl) (⟨rfl, rfl⟩)
theorem gq_part1 (d : Nat) (hd : 1 ≤ d) (μ : zM) (s : Nat) (hs4 : s < 4) : z_C d mi_X5_part [.ref (25 + 8 * s), .int 1] μ (fun r μ' => r = some (.int (μ.1 (25 + 8 * s) 1)) ∧ μ' = μ) := by
  refine z_C_in (by decide) (by omega) (fun d' Z ed hc hr => ?_)
  have hH : zH mi_X5_part zc_X5_part 79 5 2 := ⟨by rfl, by rfl, by rfl, by rfl⟩
  refine z_rcs hc hH 3 (pc' := 50) (lv' := [(0, .ref (25 + 8 * s)), (1, .int 1)]) (st' := [.ref (25 + 8 * s)]) (μ' := μ) (by rfl) ?_
  refine zq_gfi hc hH (by rfl) (ci := 4) (f := 1) (by rfl) (sj (P := fun i => okf 79 4 1 (25 + 8 * i)) hs4 (by decide +kernel)) (by rfl) ?_
  exact hr 0 53 _ _ _ (some (.int (μ.1 (25 + 8 * s) 1))) (by decide +kernel) (by rfl) (⟨rfl, rfl⟩)
theorem gq_part2 (d : Nat) (hd : 1 ≤ d) (μ : zM) (s : Nat) (hs4 : s < 4) : z_C d mi_X5_part [.ref (25 + 8 * s), .int 2] μ (fun r μ' => r = some (.int (μ.1 (25 + 8 * s) 2)) ∧ μ' = μ) := by
  refine z_C_in (by decide) (by omega) (fun d' Z ed hc hr => ?_)
  have hH : zH mi_X5_part zc_X5_part 79 5 2 := ⟨by rfl, by rfl, by rfl, by rfl⟩
  refine z_rcs hc hH 3 (pc' := 55) (lv' := [(0, .ref (25 + 8 * s)), (1, .int 2)]) (st' := [.ref (25 + 8 * s)]) (μ' := μ) (by rfl) ?_
  refine zq_gfi hc hH (by rfl) (ci := 4) (f := 2) (by rfl) (sj (P := fun i => okf 79 4 2 (25 + 8 * i)) hs4 (by decide +kernel)) (by rfl) ?_
  exact hr 0 58 _ _ _ (some (.int (μ.1 (25 + 8 * s) 2))) (by decide +kernel) (by rfl) (⟨rfl, rfl⟩)
theorem gq_part3 (d : Nat) (hd : 1 ≤ d) (μ : zM) (s : Nat) (hs4 : s < 4) : z_C d mi_X5_part [.ref (25 + 8 * s), .int 3] μ (fun r μ' => r = some (.int (μ.1 (25 + 8 * s) 3)) ∧ μ' = μ) := by
  refine z_C_in (by decide) (by omega) (fun d' Z ed hc hr => ?_)
  have hH : zH mi_X5_part zc_X5_part 79 5 2 := ⟨by rfl, by rfl, by rfl, by rfl⟩
  refine z_rcs hc hH 3 (pc' := 60) (lv' := [(0, .ref (25 + 8 * s)), (1, .int 3)]) (st' := [.ref (25 + 8 * s)]) (μ' := μ) (by rfl) ?_
  refine zq_gfi hc hH (by rfl) (ci := 4) (f := 3) (by rfl) (sj (P := fun i => okf 79 4 3 (25 + 8 * i)) hs4 (by decide +kernel)) (by rfl) ?_
  exact hr 0 63 _ _ _ (some (.int (μ.1 (25 + 8 * s) 3))) (by decide +kernel) (by rfl) (⟨rfl, rfl⟩)
theorem gq_part4 (d : Nat) (hd : 1 ≤ d) (μ : zM) (s : Nat) (hs4 : s < 4) : z_C d mi_X5_part [.ref (25 + 8 * s), .int 4] μ (fun r μ' => r = some (.int (μ.1 (25 + 8 * s) 4)) ∧ μ' = μ) := by
  refine z_C_in (by decide) (by omega) (fun d' Z ed hc hr => ?_)
  have hH : zH mi_X5_part zc_X5_part 79 5 2 := ⟨by rfl, by rfl, by rfl, by rfl⟩
  refine z_rcs hc hH 3 (pc' := 65) (lv' := [(0, .ref (25 + 8 * s)), (1, .int 4)]) (st' := [.ref (25 + 8 * s)]) (μ' := μ) (by rfl) ?_
  refine zq_gfi hc hH (by rfl) (ci := 4) (f := 4) (by rfl) (sj (P := fun i => okf 79 4 4 (25 + 8 * i)) hs4 (by decide +kernel)) (by rfl) ?_
  exact hr 0 68 _ _ _ (some (.int (μ.1 (25 + 8 * s) 4))) (by decide +kernel) (by rfl) (⟨rfl, rfl⟩)
theorem gq_part5 (d : Nat) (hd : 1 ≤ d) (μ : zM) (s : Nat) (hs4 : s < 4) : z_C d mi_X5_part [.ref (25 + 8 * s), .int 5] μ (fun r μ' => r = some (.int (μ.1 (25 + 8 * s) 5)) ∧ μ' = μ) := by
  refine z_C_in (by decide) (by omega) (fun d' Z ed hc hr => ?_)
  have hH : zH mi_X5_part zc_X5_part 79 5 2 := ⟨by rfl, by rfl, by rfl, by rfl⟩
  refine z_rcs hc hH 3 (pc' := 70) (lv' := [(0, .ref (25 + 8 * s)), (1, .int 5)]) (st' := [.ref (25 + 8 * s)]) (μ' := μ) (by rfl) ?_
  refine zq_gfi hc hH (by rfl) (ci := 4) (f := 5) (by rfl) (sj (P := fun i => okf 79 4 5 (25 + 8 * i)) hs4 (by decide +kernel)) (by rfl) ?_
  exact hr 0 73 _ _ _ (some (.int (μ.1 (25 + 8 * s) 5))) (by decide +kernel) (by rfl) (⟨rfl, rfl⟩)
theorem gq_part6 (d : Nat) (hd : 1 ≤ d) (μ : zM) (s : Nat) (hs4 : s < 4) : z_C d mi_X5_part [.ref (25 + 8 * s), .int 6] μ (fun r μ' => r = some (.int (μ.1 (25 + 8 * s) 6)) ∧ μ' = μ) := by
  refine z_C_in (by decide) (by omega) (fun d' Z ed hc hr => ?_)
  have hH : zH mi_X5_part zc_X5_part 79 5 2 := ⟨by rfl, by rfl, by rfl, by rfl⟩
  refine z_rcs hc hH 3 (pc' := 75) (lv' := [(0, .ref (25 + 8 * s)), (1, .int 6)]) (st' := [.ref (25 + 8 * s)]) (μ' := μ) (by rfl) ?_
  refine zq_gfi hc hH (by rfl) (ci := 4) (f := 6) (by rfl) (sj (P := fun i => okf 79 4 6 (25 + 8 * i)) hs4 (by decide +kernel)) (by rfl) ?_
  exact hr 0 78 _ _ _ (some (.int (μ.1 (25 + 8 * s) 6))) (by decide +kernel) (by rfl) (⟨rfl, rfl⟩)
theorem gq_partd (d : Nat) (hd : 1 ≤ d) (μ : zM) (s : Nat) (hs4 : s < 4) (x : Int32) (hx : (decide (x.toInt < 0) || decide (6 < x.toInt)) = true) : z_C d mi_X5_part [.ref (25 + 8 * s), .int x] μ (fun r μ' => r = some (.int (-1)) ∧ μ' = μ) := by
  refine z_C_in (by decide) (by omega) (fun d' Z ed hc hr => ?_)
  have hH : zH mi_X5_part zc_X5_part 79 5 2 := ⟨by rfl, by rfl, by rfl, by rfl⟩
  refine z_rcs hc hH 1 (pc' := 1) (lv' := [(0, .ref (25 + 8 * s)), (1, .int x)]) (st' := [.int x]) (μ' := μ) (by rfl) ?_
  refine zq_tsd hc hH (by rfl) (tg := 79) (by rfl) hx ?_
  refine z_rcs hc hH 1 (pc' := 80) (lv' := [(0, .ref (25 + 8 * s)), (1, .int x)]) (st' := [.int (-1)]) (μ' := μ) (by rfl) ?_
  exact hr 0 80 _ _ _ (some (.int (-1))) (by decide +kernel) (by rfl) (⟨rfl, rfl⟩)

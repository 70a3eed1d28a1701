/-! the game: dear tiles, records, the end of a hand -/
set_option maxRecDepth 8000
theorem gc_all (d : Nat) (hd : 2 ≤ d) (μ : zM) (j : Nat) (hj : j < 4) (k : Int32) : z_C d mi_X3_all [.ref (19 + 8 * j), .int k] μ (zR μ (.int (fr μ (21 + 8 * j) k))) := by
  refine z_C_mono (sM_pure hj μ (by decide) (sg9 hj rfl) (fc_X3_all d hd (sMm j μ) k)) (fun r μ' z => ⟨z.1, ?_⟩)
  rcases z.2 with ⟨h1, h2⟩ | ⟨h1, h2⟩
  · rw [sM11 hj] at h2
    rw [map_int h2]; unfold fr; rw [z_in_iff.mpr h1]; rfl
  · rw [map_int h2]; unfold fr
    have e : z_in k 34 = false := by cases e : z_in k 34 with | false => rfl | true => exact absurd (z_in_iff.mp e) h1
    rw [e]; rfl
noncomputable abbrev bhd (x : Int32) : Int32 := bif decide (27 ≤ x) then bif decide (x = 30) then (27 : Int32) else bif decide (x = 33) then (31 : Int32) else x + 1 else bif decide ((x - x / 9 * 9) = 8) then x - 8 else x + 1
theorem gc_signsN (d : Nat) (hd : 1 ≤ d) (μ : zM) (f : Nat) (h1 : μ.1 2 1 = 1) (hf : μ.1 2 3 = nI f) : z_C d mi_X4_signs [.ref 2] μ (zR μ (.int (nI (1 + f)))) := by
  have z := gc_signs d hd μ
  rw [h1, hf, show decide ((1 : Int32) = 0) = false from by decide, cond_false, show (1 : Int32) + nI f = nI (1 + f) from by rw [show (1 : Int32) = nI 1 from rfl, nI_add]] at z
  exact z
theorem kn_gt {n m : Nat} {M : Int32} (hM : M.toInt = (m : Int)) (h : n < 2147483648) (hm : m < n) : decide (nI n ≤ M) = false := decide_eq_false (by rw [Int32.le_iff_toInt_le, nI_toInt h, hM]; omega)
theorem kn_ge {n m : Nat} {M : Int32} (hM : M.toInt = (m : Int)) (h : n < 2147483648) (hm : n ≤ m) : decide (nI n ≤ M) = true := decide_eq_true (by rw [Int32.le_iff_toInt_le, nI_toInt h, hM]; omega)
theorem gc_dearTiles (d : Nat) (hd : 3 ≤ d) (μ : zM) (j : Nat) (hj : j < 4) (hd9 : Bool) (f : Nat) (hf4 : f ≤ 4) (hS1 : μ.1 2 1 = 1) (hf : μ.1 2 3 = nI f) : z_C d mi_X4_dearTiles [.ref 2, .ref (19 + 8 * j), .int (nB hd9)] μ (zR μ (.int (bif decide ((nI (1 + f)) ≤ (1 : Int32)) then (0 + (fr μ (21 + 8 * j) (bhd (μ.1 3 126)))) + (bif hd9 then fr μ (21 + 8 * j) (bhd (μ.1 3 127)) else (0 : Int32)) else bif decide ((nI (1 + f)) ≤ (2 : Int32)) then (((0 + (fr μ (21 + 8 * j) (bhd (μ.1 3 126)))) + (bif hd9 then fr μ (21 + 8 * j) (bhd (μ.1 3 127)) else (0 : Int32))) + (fr μ (21 + 8 * j) (bhd (μ.1 3 128)))) + (bif hd9 then fr μ (21 + 8 * j) (bhd (μ.1 3 129)) else (0 : Int32)) else bif decide ((nI (1 + f)) ≤ (3 : Int32)) then (((((0 + (fr μ (21 + 8 * j) (bhd (μ.1 3 126)))) + (bif hd9 then fr μ (21 + 8 * j) (bhd (μ.1 3 127)) else (0 : Int32))) + (fr μ (21 + 8 * j) (bhd (μ.1 3 128)))) + (bif hd9 then fr μ (21 + 8 * j) (bhd (μ.1 3 129)) else (0 : Int32))) + (fr μ (21 + 8 * j) (bhd (μ.1 3 130)))) + (bif hd9 then fr μ (21 + 8 * j) (bhd (μ.1 3 131)) else (0 : Int32)) else bif decide ((nI (1 + f)) ≤ (4 : Int32)) then (((((((0 + (fr μ (21 + 8 * j) (bhd (μ.1 3 126)))) + (bif hd9 then fr μ (21 + 8 * j) (bhd (μ.1 3 127)) else (0 : Int32))) + (fr μ (21 + 8 * j) (bhd (μ.1 3 128)))) + (bif hd9 then fr μ (21 + 8 * j) (bhd (μ.1 3 129)) else (0 : Int32))) + (fr μ (21 + 8 * j) (bhd (μ.1 3 130)))) + (bif hd9 then fr μ (21 + 8 * j) (bhd (μ.1 3 131)) else (0 : Int32))) + (fr μ (21 + 8 * j) (bhd (μ.1 3 132)))) + (bif hd9 then fr μ (21 + 8 * j) (bhd (μ.1 3 133)) else (0 : Int32)) else (((((((((0 + (fr μ (21 + 8 * j) (bhd (μ.1 3 126)))) + (bif hd9 then fr μ (21 + 8 * j) (bhd (μ.1 3 127)) else (0 : Int32))) + (fr μ (21 + 8 * j) (bhd (μ.1 3 128)))) + (bif hd9 then fr μ (21 + 8 * j) (bhd (μ.1 3 129)) else (0 : Int32))) + (fr μ (21 + 8 * j) (bhd (μ.1 3 130)))) + (bif hd9 then fr μ (21 + 8 * j) (bhd (μ.1 3 131)) else (0 : Int32))) + (fr μ (21 + 8 * j) (bhd (μ.1 3 132)))) + (bif hd9 then fr μ (21 + 8 * j) (bhd (μ.1 3 133)) else (0 : Int32))) + (fr μ (21 + 8 * j) (bhd (μ.1 3 134)))) + (bif hd9 then fr μ (21 + 8 * j) (bhd (μ.1 3 135)) else (0 : Int32))))) := by
  refine z_C_in (by decide) (by omega) (fun d' Z ed hc hr => ?_)
  have hH : zH mi_X4_dearTiles zt_X4_dearTiles 79 4 6 := hh_X4_dearTiles
  refine z_rcs hc hH 6 (pc' := 8) (lv' := [(4, .int 0), (3, .int 0), (0, .ref 2), (1, .ref (19 + 8 * j)), (2, .int (nB hd9))]) (st' := [.ref 2, .int 0]) (μ' := μ) (by rfl) ?_
  refine zq_call hc (z_cx_ok hH (by rfl)) (gc_signsN d' (by omega) μ f hS1 hf) (by decide +kernel) (fun r9 μ9 hq => ?_)
  obtain ⟨hμ9, rfl⟩ := hq
  rw [hμ9]
  clear hμ9 μ9
  show Z 0 11 [(4, .int 0), (3, .int 0), (0, .ref 2), (1, .ref (19 + 8 * j)), (2, .int (nB hd9))] [.int (nI (1 + f)), .int 0] μ
  refine zq_ic hc hH (by rfl) (tg := 67) (by rfl) (fun h1 => ?_) (fun h1 => ?_)
  · have h1 : (decide ((nI (1 + f)) ≤ (0 : Int32))) = true := decide_eq_true (cm_ge.mp h1)
    exact absurd (Eq.trans (Eq.symm (kn_gt (m := 0) rfl (by omega) (by omega))) h1) (by decide)
  · have h1 : (decide ((nI (1 + f)) ≤ (0 : Int32))) = false := decide_eq_false (cn_ge.mp h1)
    refine z_rcs hc hH 10 (pc' := 28) (lv' := [(5, .int 126), (4, .int 0), (3, .int 0), (0, .ref 2), (1, .ref (19 + 8 * j)), (2, .int (nB hd9))]) (st' := [.int 126, .ref 2, .ref (19 + 8 * j), .int 0]) (μ' := μ) (by rfl) ?_
    refine zq_call hc (z_cx_ok hH (by rfl)) (gc_kindAtN d' (by omega) μ 126 (by decide) hS1) (by decide +kernel) (fun r9 μ9 hq => ?_)
    obtain ⟨hμ9, rfl⟩ := hq
    rw [hμ9]
    clear hμ9 μ9
    show Z 0 31 [(5, .int 126), (4, .int 0), (3, .int 0), (0, .ref 2), (1, .ref (19 + 8 * j)), (2, .int (nB hd9))] [.int (μ.1 3 126), .ref (19 + 8 * j), .int 0] μ
    refine zq_call hc (z_cx_ok hH (by rfl)) (gc_behind d' (by omega) μ (μ.1 3 126)) (by decide +kernel) (fun r9 μ9 hq => ?_)
    obtain ⟨hμ9, rfl⟩ := hq
    rw [hμ9]
    clear hμ9 μ9
    show Z 0 34 [(5, .int 126), (4, .int 0), (3, .int 0), (0, .ref 2), (1, .ref (19 + 8 * j)), (2, .int (nB hd9))] [.int (bhd (μ.1 3 126)), .ref (19 + 8 * j), .int 0] μ
    refine zq_call hc (z_clv9 hH (by rfl) (by rfl) (by rfl) (by rfl) (sj (P := fun i => okr 79 2 (19 + 8 * i)) hj (by decide +kernel)) (by rfl) (by rfl)) (gc_all d' (by omega) μ j hj (bhd (μ.1 3 126))) (by decide +kernel) (fun r9 μ9 hq => ?_)
    obtain ⟨hμ9, rfl⟩ := hq
    rw [hμ9]
    clear hμ9 μ9
    show Z 0 37 [(5, .int 126), (4, .int 0), (3, .int 0), (0, .ref 2), (1, .ref (19 + 8 * j)), (2, .int (nB hd9))] [.int (fr μ (21 + 8 * j) (bhd (μ.1 3 126))), .int 0] μ
    refine z_rcs hc hH 3 (pc' := 40) (lv' := [(3, .int (0 + (fr μ (21 + 8 * j) (bhd (μ.1 3 126))))), (5, .int 126), (4, .int 0), (0, .ref 2), (1, .ref (19 + 8 * j)), (2, .int (nB hd9))]) (st' := [.int (nB hd9)]) (μ' := μ) (by rfl) ?_
    have hJ2 : Z 0 61 [(3, .int ((0 + (fr μ (21 + 8 * j) (bhd (μ.1 3 126)))) + (bif hd9 then fr μ (21 + 8 * j) (bhd (μ.1 3 127)) else (0 : Int32)))), (5, .int 126), (4, .int 0), (0, .ref 2), (1, .ref (19 + 8 * j)), (2, .int (nB hd9))] [] μ := by
      generalize hyy3 : ((0 + (fr μ (21 + 8 * j) (bhd (μ.1 3 126)))) + (bif hd9 then fr μ (21 + 8 * j) (bhd (μ.1 3 127)) else (0 : Int32)) : Int32) = yy3
      refine z_rcs hc hH 4 (pc' := 8) (lv' := [(4, .int 1), (3, .int yy3), (5, .int 126), (0, .ref 2), (1, .ref (19 + 8 * j)), (2, .int (nB hd9))]) (st' := [.ref 2, .int 1]) (μ' := μ) (by rfl) ?_
      refine zq_call hc (z_cx_ok hH (by rfl)) (gc_signsN d' (by omega) μ f hS1 hf) (by decide +kernel) (fun r9 μ9 hq => ?_)
      obtain ⟨hμ9, rfl⟩ := hq
      rw [hμ9]
      clear hμ9 μ9
      show Z 0 11 [(4, .int 1), (3, .int yy3), (5, .int 126), (0, .ref 2), (1, .ref (19 + 8 * j)), (2, .int (nB hd9))] [.int (nI (1 + f)), .int 1] μ
      have hJ4 : Z 0 67 [(4, .int (bif decide ((nI (1 + f)) ≤ (1 : Int32)) then (1 : Int32) else bif decide ((nI (1 + f)) ≤ (2 : Int32)) then (2 : Int32) else bif decide ((nI (1 + f)) ≤ (3 : Int32)) then (3 : Int32) else bif decide ((nI (1 + f)) ≤ (4 : Int32)) then (4 : Int32) else 5)), (3, .int (bif decide ((nI (1 + f)) ≤ (1 : Int32)) then yy3 else bif decide ((nI (1 + f)) ≤ (2 : Int32)) then (yy3 + (fr μ (21 + 8 * j) (bhd (μ.1 3 128)))) + (bif hd9 then fr μ (21 + 8 * j) (bhd (μ.1 3 129)) else (0 : Int32)) else bif decide ((nI (1 + f)) ≤ (3 : Int32)) then (((yy3 + (fr μ (21 + 8 * j) (bhd (μ.1 3 128)))) + (bif hd9 then fr μ (21 + 8 * j) (bhd (μ.1 3 129)) else (0 : Int32))) + (fr μ (21 + 8 * j) (bhd (μ.1 3 130)))) + (bif hd9 then fr μ (21 + 8 * j) (bhd (μ.1 3 131)) else (0 : Int32)) else bif decide ((nI (1 + f)) ≤ (4 : Int32)) then (((((yy3 + (fr μ (21 + 8 * j) (bhd (μ.1 3 128)))) + (bif hd9 then fr μ (21 + 8 * j) (bhd (μ.1 3 129)) else (0 : Int32))) + (fr μ (21 + 8 * j) (bhd (μ.1 3 130)))) + (bif hd9 then fr μ (21 + 8 * j) (bhd (μ.1 3 131)) else (0 : Int32))) + (fr μ (21 + 8 * j) (bhd (μ.1 3 132)))) + (bif hd9 then fr μ (21 + 8 * j) (bhd (μ.1 3 133)) else (0 : Int32)) else (((((((yy3 + (fr μ (21 + 8 * j) (bhd (μ.1 3 128)))) + (bif hd9 then fr μ (21 + 8 * j) (bhd (μ.1 3 129)) else (0 : Int32))) + (fr μ (21 + 8 * j) (bhd (μ.1 3 130)))) + (bif hd9 then fr μ (21 + 8 * j) (bhd (μ.1 3 131)) else (0 : Int32))) + (fr μ (21 + 8 * j) (bhd (μ.1 3 132)))) + (bif hd9 then fr μ (21 + 8 * j) (bhd (μ.1 3 133)) else (0 : Int32))) + (fr μ (21 + 8 * j) (bhd (μ.1 3 134)))) + (bif hd9 then fr μ (21 + 8 * j) (bhd (μ.1 3 135)) else (0 : Int32)))), (5, .int (bif decide ((nI (1 + f)) ≤ (1 : Int32)) then (126 : Int32) else bif decide ((nI (1 + f)) ≤ (2 : Int32)) then (128 : Int32) else bif decide ((nI (1 + f)) ≤ (3 : Int32)) then (130 : Int32) else bif decide ((nI (1 + f)) ≤ (4 : Int32)) then (132 : Int32) else 134)), (0, .ref 2), (1, .ref (19 + 8 * j)), (2, .int (nB hd9))] [] μ := by
        generalize hyy5 : (bif decide ((nI (1 + f)) ≤ (1 : Int32)) then (1 : Int32) else bif decide ((nI (1 + f)) ≤ (2 : Int32)) then (2 : Int32) else bif decide ((nI (1 + f)) ≤ (3 : Int32)) then (3 : Int32) else bif decide ((nI (1 + f)) ≤ (4 : Int32)) then (4 : Int32) else 5 : Int32) = yy5
        generalize hyy6 : (bif decide ((nI (1 + f)) ≤ (1 : Int32)) then yy3 else bif decide ((nI (1 + f)) ≤ (2 : Int32)) then (yy3 + (fr μ (21 + 8 * j) (bhd (μ.1 3 128)))) + (bif hd9 then fr μ (21 + 8 * j) (bhd (μ.1 3 129)) else (0 : Int32)) else bif decide ((nI (1 + f)) ≤ (3 : Int32)) then (((yy3 + (fr μ (21 + 8 * j) (bhd (μ.1 3 128)))) + (bif hd9 then fr μ (21 + 8 * j) (bhd (μ.1 3 129)) else (0 : Int32))) + (fr μ (21 + 8 * j) (bhd (μ.1 3 130)))) + (bif hd9 then fr μ (21 + 8 * j) (bhd (μ.1 3 131)) else (0 : Int32)) else bif decide ((nI (1 + f)) ≤ (4 : Int32)) then (((((yy3 + (fr μ (21 + 8 * j) (bhd (μ.1 3 128)))) + (bif hd9 then fr μ (21 + 8 * j) (bhd (μ.1 3 129)) else (0 : Int32))) + (fr μ (21 + 8 * j) (bhd (μ.1 3 130)))) + (bif hd9 then fr μ (21 + 8 * j) (bhd (μ.1 3 131)) else (0 : Int32))) + (fr μ (21 + 8 * j) (bhd (μ.1 3 132)))) + (bif hd9 then fr μ (21 + 8 * j) (bhd (μ.1 3 133)) else (0 : Int32)) else (((((((yy3 + (fr μ (21 + 8 * j) (bhd (μ.1 3 128)))) + (bif hd9 then fr μ (21 + 8 * j) (bhd (μ.1 3 129)) else (0 : Int32))) + (fr μ (21 + 8 * j) (bhd (μ.1 3 130)))) + (bif hd9 then fr μ (21 + 8 * j) (bhd (μ.1 3 131)) else (0 : Int32))) + (fr μ (21 + 8 * j) (bhd (μ.1 3 132)))) + (bif hd9 then fr μ (21 + 8 * j) (bhd (μ.1 3 133)) else (0 : Int32))) + (fr μ (21 + 8 * j) (bhd (μ.1 3 134)))) + (bif hd9 then fr μ (21 + 8 * j) (bhd (μ.1 3 135)) else (0 : Int32)) : Int32) = yy6
        generalize hyy7 : (bif decide ((nI (1 + f)) ≤ (1 : Int32)) then (126 : Int32) else bif decide ((nI (1 + f)) ≤ (2 : Int32)) then (128 : Int32) else bif decide ((nI (1 + f)) ≤ (3 : Int32)) then (130 : Int32) else bif decide ((nI (1 + f)) ≤ (4 : Int32)) then (132 : Int32) else 134 : Int32) = yy7
        refine z_rcs hc hH 1 (pc' := 68) (lv' := [(4, .int yy5), (3, .int yy6), (5, .int yy7), (0, .ref 2), (1, .ref (19 + 8 * j)), (2, .int (nB hd9))]) (st' := [.int yy6]) (μ' := μ) (by rfl) ?_
        exact hr 0 68 _ _ _ (some (.int yy6)) (by decide +kernel) (z_rx_ok hH (by rfl)) (⟨rfl, (by subst hyy7; subst hyy6; subst hyy5; subst hyy3; rfl)⟩)
      refine zq_ic hc hH (by rfl) (tg := 67) (by rfl) (fun h8 => ?_) (fun h8 => ?_)
      · have h8 : (decide ((nI (1 + f)) ≤ (1 : Int32))) = true := decide_eq_true (cm_ge.mp h8)
        exact zJ hJ4 (by first | with_reducible rfl | (simp only [h8, lb_f, Int64.or_zero, Int32.add_zero, nB_t, nB_f, Bool.not_true, Bool.not_false, Bool.and_true, Bool.true_and, Bool.false_and, Bool.and_false, Bool.or_true, Bool.true_or, Bool.false_or, Bool.or_false, cond_true, cond_false]; done) | rfl) rfl rfl
      · have h8 : (decide ((nI (1 + f)) ≤ (1 : Int32))) = false := decide_eq_false (cn_ge.mp h8)
        refine z_rcs hc hH 10 (pc' := 28) (lv' := [(5, .int 128), (4, .int 1), (3, .int yy3), (0, .ref 2), (1, .ref (19 + 8 * j)), (2, .int (nB hd9))]) (st' := [.int 128, .ref 2, .ref (19 + 8 * j), .int yy3]) (μ' := μ) (by rfl) ?_
        refine zq_call hc (z_cx_ok hH (by rfl)) (gc_kindAtN d' (by omega) μ 128 (by decide) hS1) (by decide +kernel) (fun r9 μ9 hq => ?_)
        obtain ⟨hμ9, rfl⟩ := hq
        rw [hμ9]
        clear hμ9 μ9
        show Z 0 31 [(5, .int 128), (4, .int 1), (3, .int yy3), (0, .ref 2), (1, .ref (19 + 8 * j)), (2, .int (nB hd9))] [.int (μ.1 3 128), .ref (19 + 8 * j), .int yy3] μ
        refine zq_call hc (z_cx_ok hH (by rfl)) (gc_behind d' (by omega) μ (μ.1 3 128)) (by decide +kernel) (fun r9 μ9 hq => ?_)
        obtain ⟨hμ9, rfl⟩ := hq
        rw [hμ9]
        clear hμ9 μ9
        show Z 0 34 [(5, .int 128), (4, .int 1), (3, .int yy3), (0, .ref 2), (1, .ref (19 + 8 * j)), (2, .int (nB hd9))] [.int (bhd (μ.1 3 128)), .ref (19 + 8 * j), .int yy3] μ
        refine zq_call hc (z_clv9 hH (by rfl) (by rfl) (by rfl) (by rfl) (sj (P := fun i => okr 79 2 (19 + 8 * i)) hj (by decide +kernel)) (by rfl) (by rfl)) (gc_all d' (by omega) μ j hj (bhd (μ.1 3 128))) (by decide +kernel) (fun r9 μ9 hq => ?_)
        obtain ⟨hμ9, rfl⟩ := hq
        rw [hμ9]
        clear hμ9 μ9
        show Z 0 37 [(5, .int 128), (4, .int 1), (3, .int yy3), (0, .ref 2), (1, .ref (19 + 8 * j)), (2, .int (nB hd9))] [.int (fr μ (21 + 8 * j) (bhd (μ.1 3 128))), .int yy3] μ
        refine z_rcs hc hH 3 (pc' := 40) (lv' := [(3, .int (yy3 + (fr μ (21 + 8 * j) (bhd (μ.1 3 128))))), (5, .int 128), (4, .int 1), (0, .ref 2), (1, .ref (19 + 8 * j)), (2, .int (nB hd9))]) (st' := [.int (nB hd9)]) (μ' := μ) (by rfl) ?_
        have hJ9 : Z 0 61 [(3, .int ((yy3 + (fr μ (21 + 8 * j) (bhd (μ.1 3 128)))) + (bif hd9 then fr μ (21 + 8 * j) (bhd (μ.1 3 129)) else (0 : Int32)))), (5, .int 128), (4, .int 1), (0, .ref 2), (1, .ref (19 + 8 * j)), (2, .int (nB hd9))] [] μ := by
          generalize hyy10 : ((yy3 + (fr μ (21 + 8 * j) (bhd (μ.1 3 128)))) + (bif hd9 then fr μ (21 + 8 * j) (bhd (μ.1 3 129)) else (0 : Int32)) : Int32) = yy10
          refine z_rcs hc hH 4 (pc' := 8) (lv' := [(4, .int 2), (3, .int yy10), (5, .int 128), (0, .ref 2), (1, .ref (19 + 8 * j)), (2, .int (nB hd9))]) (st' := [.ref 2, .int 2]) (μ' := μ) (by rfl) ?_
          refine zq_call hc (z_cx_ok hH (by rfl)) (gc_signsN d' (by omega) μ f hS1 hf) (by decide +kernel) (fun r9 μ9 hq => ?_)
          obtain ⟨hμ9, rfl⟩ := hq
          rw [hμ9]
          clear hμ9 μ9
          show Z 0 11 [(4, .int 2), (3, .int yy10), (5, .int 128), (0, .ref 2), (1, .ref (19 + 8 * j)), (2, .int (nB hd9))] [.int (nI (1 + f)), .int 2] μ
          refine zq_ic hc hH (by rfl) (tg := 67) (by rfl) (fun h11 => ?_) (fun h11 => ?_)
          · have h11 : (decide ((nI (1 + f)) ≤ (2 : Int32))) = true := decide_eq_true (cm_ge.mp h11)
            subst hyy10
            exact zJ hJ4 (by first | with_reducible rfl | (simp only [h8, h11, lb_f, Int64.or_zero, Int32.add_zero, nB_t, nB_f, Bool.not_true, Bool.not_false, Bool.and_true, Bool.true_and, Bool.false_and, Bool.and_false, Bool.or_true, Bool.true_or, Bool.false_or, Bool.or_false, cond_true, cond_false]; done) | rfl) rfl rfl
          · have h11 : (decide ((nI (1 + f)) ≤ (2 : Int32))) = false := decide_eq_false (cn_ge.mp h11)
            refine z_rcs hc hH 10 (pc' := 28) (lv' := [(5, .int 130), (4, .int 2), (3, .int yy10), (0, .ref 2), (1, .ref (19 + 8 * j)), (2, .int (nB hd9))]) (st' := [.int 130, .ref 2, .ref (19 + 8 * j), .int yy10]) (μ' := μ) (by rfl) ?_
            refine zq_call hc (z_cx_ok hH (by rfl)) (gc_kindAtN d' (by omega) μ 130 (by decide) hS1) (by decide +kernel) (fun r9 μ9 hq => ?_)
            obtain ⟨hμ9, rfl⟩ := hq
            rw [hμ9]
            clear hμ9 μ9
            show Z 0 31 [(5, .int 130), (4, .int 2), (3, .int yy10), (0, .ref 2), (1, .ref (19 + 8 * j)), (2, .int (nB hd9))] [.int (μ.1 3 130), .ref (19 + 8 * j), .int yy10] μ
            refine zq_call hc (z_cx_ok hH (by rfl)) (gc_behind d' (by omega) μ (μ.1 3 130)) (by decide +kernel) (fun r9 μ9 hq => ?_)
            obtain ⟨hμ9, rfl⟩ := hq
            rw [hμ9]
            clear hμ9 μ9
            show Z 0 34 [(5, .int 130), (4, .int 2), (3, .int yy10), (0, .ref 2), (1, .ref (19 + 8 * j)), (2, .int (nB hd9))] [.int (bhd (μ.1 3 130)), .ref (19 + 8 * j), .int yy10] μ
            refine zq_call hc (z_clv9 hH (by rfl) (by rfl) (by rfl) (by rfl) (sj (P := fun i => okr 79 2 (19 + 8 * i)) hj (by decide +kernel)) (by rfl) (by rfl)) (gc_all d' (by omega) μ j hj (bhd (μ.1 3 130))) (by decide +kernel) (fun r9 μ9 hq => ?_)
            obtain ⟨hμ9, rfl⟩ := hq
            rw [hμ9]
            clear hμ9 μ9
            show Z 0 37 [(5, .int 130), (4, .int 2), (3, .int yy10), (0, .ref 2), (1, .ref (19 + 8 * j)), (2, .int (nB hd9))] [.int (fr μ (21 + 8 * j) (bhd (μ.1 3 130))), .int yy10] μ
            refine z_rcs hc hH 3 (pc' := 40) (lv' := [(3, .int (yy10 + (fr μ (21 + 8 * j) (bhd (μ.1 3 130))))), (5, .int 130), (4, .int 2), (0, .ref 2), (1, .ref (19 + 8 * j)), (2, .int (nB hd9))]) (st' := [.int (nB hd9)]) (μ' := μ) (by rfl) ?_
            have hJ12 : Z 0 61 [(3, .int ((yy10 + (fr μ (21 + 8 * j) (bhd (μ.1 3 130)))) + (bif hd9 then fr μ (21 + 8 * j) (bhd (μ.1 3 131)) else (0 : Int32)))), (5, .int 130), (4, .int 2), (0, .ref 2), (1, .ref (19 + 8 * j)), (2, .int (nB hd9))] [] μ := by
              generalize hyy13 : ((yy10 + (fr μ (21 + 8 * j) (bhd (μ.1 3 130)))) + (bif hd9 then fr μ (21 + 8 * j) (bhd (μ.1 3 131)) else (0 : Int32)) : Int32) = yy13
              refine z_rcs hc hH 4 (pc' := 8) (lv' := [(4, .int 3), (3, .int yy13), (5, .int 130), (0, .ref 2), (1, .ref (19 + 8 * j)), (2, .int (nB hd9))]) (st' := [.ref 2, .int 3]) (μ' := μ) (by rfl) ?_
              refine zq_call hc (z_cx_ok hH (by rfl)) (gc_signsN d' (by omega) μ f hS1 hf) (by decide +kernel) (fun r9 μ9 hq => ?_)
              obtain ⟨hμ9, rfl⟩ := hq
              rw [hμ9]
              clear hμ9 μ9
              show Z 0 11 [(4, .int 3), (3, .int yy13), (5, .int 130), (0, .ref 2), (1, .ref (19 + 8 * j)), (2, .int (nB hd9))] [.int (nI (1 + f)), .int 3] μ
              refine zq_ic hc hH (by rfl) (tg := 67) (by rfl) (fun h14 => ?_) (fun h14 => ?_)
              · have h14 : (decide ((nI (1 + f)) ≤ (3 : Int32))) = true := decide_eq_true (cm_ge.mp h14)
                subst hyy13
                subst hyy10
                exact zJ hJ4 (by first | with_reducible rfl | (simp only [h8, h11, h14, lb_f, Int64.or_zero, Int32.add_zero, nB_t, nB_f, Bool.not_true, Bool.not_false, Bool.and_true, Bool.true_and, Bool.false_and, Bool.and_false, Bool.or_true, Bool.true_or, Bool.false_or, Bool.or_false, cond_true, cond_false]; done) | rfl) rfl rfl
              · have h14 : (decide ((nI (1 + f)) ≤ (3 : Int32))) = false := decide_eq_false (cn_ge.mp h14)
                refine z_rcs hc hH 10 (pc' := 28) (lv' := [(5, .int 132), (4, .int 3), (3, .int yy13), (0, .ref 2), (1, .ref (19 + 8 * j)), (2, .int (nB hd9))]) (st' := [.int 132, .ref 2, .ref (19 + 8 * j), .int yy13]) (μ' := μ) (by rfl) ?_
                refine zq_call hc (z_cx_ok hH (by rfl)) (gc_kindAtN d' (by omega) μ 132 (by decide) hS1) (by decide +kernel) (fun r9 μ9 hq => ?_)
                obtain ⟨hμ9, rfl⟩ := hq
                rw [hμ9]
                clear hμ9 μ9
                show Z 0 31 [(5, .int 132), (4, .int 3), (3, .int yy13), (0, .ref 2), (1, .ref (19 + 8 * j)), (2, .int (nB hd9))] [.int (μ.1 3 132), .ref (19 + 8 * j), .int yy13] μ
                refine zq_call hc (z_cx_ok hH (by rfl)) (gc_behind d' (by omega) μ (μ.1 3 132)) (by decide +kernel) (fun r9 μ9 hq => ?_)
                obtain ⟨hμ9, rfl⟩ := hq
                rw [hμ9]
                clear hμ9 μ9
                show Z 0 34 [(5, .int 132), (4, .int 3), (3, .int yy13), (0, .ref 2), (1, .ref (19 + 8 * j)), (2, .int (nB hd9))] [.int (bhd (μ.1 3 132)), .ref (19 + 8 * j), .int yy13] μ
                refine zq_call hc (z_clv9 hH (by rfl) (by rfl) (by rfl) (by rfl) (sj (P := fun i => okr 79 2 (19 + 8 * i)) hj (by decide +kernel)) (by rfl) (by rfl)) (gc_all d' (by omega) μ j hj (bhd (μ.1 3 132))) (by decide +kernel) (fun r9 μ9 hq => ?_)
                obtain ⟨hμ9, rfl⟩ := hq
                rw [hμ9]
                clear hμ9 μ9
                show Z 0 37 [(5, .int 132), (4, .int 3), (3, .int yy13), (0, .ref 2), (1, .ref (19 + 8 * j)), (2, .int (nB hd9))] [.int (fr μ (21 + 8 * j) (bhd (μ.1 3 132))), .int yy13] μ
                refine z_rcs hc hH 3 (pc' := 40) (lv' := [(3, .int (yy13 + (fr μ (21 + 8 * j) (bhd (μ.1 3 132))))), (5, .int 132), (4, .int 3), (0, .ref 2), (1, .ref (19 + 8 * j)), (2, .int (nB hd9))]) (st' := [.int (nB hd9)]) (μ' := μ) (by rfl) ?_
                have hJ15 : Z 0 61 [(3, .int ((yy13 + (fr μ (21 + 8 * j) (bhd (μ.1 3 132)))) + (bif hd9 then fr μ (21 + 8 * j) (bhd (μ.1 3 133)) else (0 : Int32)))), (5, .int 132), (4, .int 3), (0, .ref 2), (1, .ref (19 + 8 * j)), (2, .int (nB hd9))] [] μ := by
                  generalize hyy16 : ((yy13 + (fr μ (21 + 8 * j) (bhd (μ.1 3 132)))) + (bif hd9 then fr μ (21 + 8 * j) (bhd (μ.1 3 133)) else (0 : Int32)) : Int32) = yy16
                  refine z_rcs hc hH 4 (pc' := 8) (lv' := [(4, .int 4), (3, .int yy16), (5, .int 132), (0, .ref 2), (1, .ref (19 + 8 * j)), (2, .int (nB hd9))]) (st' := [.ref 2, .int 4]) (μ' := μ) (by rfl) ?_
                  refine zq_call hc (z_cx_ok hH (by rfl)) (gc_signsN d' (by omega) μ f hS1 hf) (by decide +kernel) (fun r9 μ9 hq => ?_)
                  obtain ⟨hμ9, rfl⟩ := hq
                  rw [hμ9]
                  clear hμ9 μ9
                  show Z 0 11 [(4, .int 4), (3, .int yy16), (5, .int 132), (0, .ref 2), (1, .ref (19 + 8 * j)), (2, .int (nB hd9))] [.int (nI (1 + f)), .int 4] μ
                  refine zq_ic hc hH (by rfl) (tg := 67) (by rfl) (fun h17 => ?_) (fun h17 => ?_)
                  · have h17 : (decide ((nI (1 + f)) ≤ (4 : Int32))) = true := decide_eq_true (cm_ge.mp h17)
                    subst hyy16
                    subst hyy13
                    subst hyy10
                    exact zJ hJ4 (by first | with_reducible rfl | (simp only [h8, h11, h14, h17, lb_f, Int64.or_zero, Int32.add_zero, nB_t, nB_f, Bool.not_true, Bool.not_false, Bool.and_true, Bool.true_and, Bool.false_and, Bool.and_false, Bool.or_true, Bool.true_or, Bool.false_or, Bool.or_false, cond_true, cond_false]; done) | rfl) rfl rfl
                  · have h17 : (decide ((nI (1 + f)) ≤ (4 : Int32))) = false := decide_eq_false (cn_ge.mp h17)
                    refine z_rcs hc hH 10 (pc' := 28) (lv' := [(5, .int 134), (4, .int 4), (3, .int yy16), (0, .ref 2), (1, .ref (19 + 8 * j)), (2, .int (nB hd9))]) (st' := [.int 134, .ref 2, .ref (19 + 8 * j), .int yy16]) (μ' := μ) (by rfl) ?_
                    refine zq_call hc (z_cx_ok hH (by rfl)) (gc_kindAtN d' (by omega) μ 134 (by decide) hS1) (by decide +kernel) (fun r9 μ9 hq => ?_)
                    obtain ⟨hμ9, rfl⟩ := hq
                    rw [hμ9]
                    clear hμ9 μ9
                    show Z 0 31 [(5, .int 134), (4, .int 4), (3, .int yy16), (0, .ref 2), (1, .ref (19 + 8 * j)), (2, .int (nB hd9))] [.int (μ.1 3 134), .ref (19 + 8 * j), .int yy16] μ
                    refine zq_call hc (z_cx_ok hH (by rfl)) (gc_behind d' (by omega) μ (μ.1 3 134)) (by decide +kernel) (fun r9 μ9 hq => ?_)
                    obtain ⟨hμ9, rfl⟩ := hq
                    rw [hμ9]
                    clear hμ9 μ9
                    show Z 0 34 [(5, .int 134), (4, .int 4), (3, .int yy16), (0, .ref 2), (1, .ref (19 + 8 * j)), (2, .int (nB hd9))] [.int (bhd (μ.1 3 134)), .ref (19 + 8 * j), .int yy16] μ
                    refine zq_call hc (z_clv9 hH (by rfl) (by rfl) (by rfl) (by rfl) (sj (P := fun i => okr 79 2 (19 + 8 * i)) hj (by decide +kernel)) (by rfl) (by rfl)) (gc_all d' (by omega) μ j hj (bhd (μ.1 3 134))) (by decide +kernel) (fun r9 μ9 hq => ?_)
                    obtain ⟨hμ9, rfl⟩ := hq
                    rw [hμ9]
                    clear hμ9 μ9
                    show Z 0 37 [(5, .int 134), (4, .int 4), (3, .int yy16), (0, .ref 2), (1, .ref (19 + 8 * j)), (2, .int (nB hd9))] [.int (fr μ (21 + 8 * j) (bhd (μ.1 3 134))), .int yy16] μ
                    refine z_rcs hc hH 3 (pc' := 40) (lv' := [(3, .int (yy16 + (fr μ (21 + 8 * j) (bhd (μ.1 3 134))))), (5, .int 134), (4, .int 4), (0, .ref 2), (1, .ref (19 + 8 * j)), (2, .int (nB hd9))]) (st' := [.int (nB hd9)]) (μ' := μ) (by rfl) ?_
                    have hJ18 : Z 0 61 [(3, .int ((yy16 + (fr μ (21 + 8 * j) (bhd (μ.1 3 134)))) + (bif hd9 then fr μ (21 + 8 * j) (bhd (μ.1 3 135)) else (0 : Int32)))), (5, .int 134), (4, .int 4), (0, .ref 2), (1, .ref (19 + 8 * j)), (2, .int (nB hd9))] [] μ := by
                      generalize hyy19 : ((yy16 + (fr μ (21 + 8 * j) (bhd (μ.1 3 134)))) + (bif hd9 then fr μ (21 + 8 * j) (bhd (μ.1 3 135)) else (0 : Int32)) : Int32) = yy19
                      refine z_rcs hc hH 4 (pc' := 8) (lv' := [(4, .int 5), (3, .int yy19), (5, .int 134), (0, .ref 2), (1, .ref (19 + 8 * j)), (2, .int (nB hd9))]) (st' := [.ref 2, .int 5]) (μ' := μ) (by rfl) ?_
                      refine zq_call hc (z_cx_ok hH (by rfl)) (gc_signsN d' (by omega) μ f hS1 hf) (by decide +kernel) (fun r9 μ9 hq => ?_)
                      obtain ⟨hμ9, rfl⟩ := hq
                      rw [hμ9]
                      clear hμ9 μ9
                      show Z 0 11 [(4, .int 5), (3, .int yy19), (5, .int 134), (0, .ref 2), (1, .ref (19 + 8 * j)), (2, .int (nB hd9))] [.int (nI (1 + f)), .int 5] μ
                      refine zq_ic hc hH (by rfl) (tg := 67) (by rfl) (fun h20 => ?_) (fun h20 => ?_)
                      · have h20 : (decide ((nI (1 + f)) ≤ (5 : Int32))) = true := decide_eq_true (cm_ge.mp h20)
                        subst hyy19
                        subst hyy16
                        subst hyy13
                        subst hyy10
                        exact zJ hJ4 (by first | with_reducible rfl | (simp only [h8, h11, h14, h17, lb_f, Int64.or_zero, Int32.add_zero, nB_t, nB_f, Bool.not_true, Bool.not_false, Bool.and_true, Bool.true_and, Bool.false_and, Bool.and_false, Bool.or_true, Bool.true_or, Bool.false_or, Bool.or_false, cond_true, cond_false]; done) | rfl) rfl rfl
                      · have h20 : (decide ((nI (1 + f)) ≤ (5 : Int32))) = false := decide_eq_false (cn_ge.mp h20)
                        exact absurd (Eq.trans (Eq.symm (kn_ge (m := 5) rfl (by omega) (by omega))) h20) (by decide)
                    refine zq_if hc hH (by rfl) (tg := 61) (by rfl) (fun h21 => ?_) (fun h21 => ?_)
                    · have h21 : (hd9) = false := nB_z.mp (cm_eq9.mp h21)
                      exact zJ hJ18 (by first | with_reducible rfl | (simp only [h21, lb_f, Int64.or_zero, Int32.add_zero, nB_t, nB_f, Bool.not_true, Bool.not_false, Bool.and_true, Bool.true_and, Bool.false_and, Bool.and_false, Bool.or_true, Bool.true_or, Bool.false_or, Bool.or_false, cond_true, cond_false]; done) | rfl) rfl rfl
                    · have h21 : (hd9) = true := nB_n.mp (cn_eq.mp h21)
                      refine z_rcs hc hH 6 (pc' := 50) (lv' := [(3, .int (yy16 + (fr μ (21 + 8 * j) (bhd (μ.1 3 134))))), (5, .int 134), (4, .int 4), (0, .ref 2), (1, .ref (19 + 8 * j)), (2, .int (nB hd9))]) (st' := [.int 135, .ref 2, .ref (19 + 8 * j), .int (yy16 + (fr μ (21 + 8 * j) (bhd (μ.1 3 134))))]) (μ' := μ) (by rfl) ?_
                      refine zq_call hc (z_cx_ok hH (by rfl)) (gc_kindAtN d' (by omega) μ 135 (by decide) hS1) (by decide +kernel) (fun r9 μ9 hq => ?_)
                      obtain ⟨hμ9, rfl⟩ := hq
                      rw [hμ9]
                      clear hμ9 μ9
                      show Z 0 53 [(3, .int (yy16 + (fr μ (21 + 8 * j) (bhd (μ.1 3 134))))), (5, .int 134), (4, .int 4), (0, .ref 2), (1, .ref (19 + 8 * j)), (2, .int (nB hd9))] [.int (μ.1 3 135), .ref (19 + 8 * j), .int (yy16 + (fr μ (21 + 8 * j) (bhd (μ.1 3 134))))] μ
                      refine zq_call hc (z_cx_ok hH (by rfl)) (gc_behind d' (by omega) μ (μ.1 3 135)) (by decide +kernel) (fun r9 μ9 hq => ?_)
                      obtain ⟨hμ9, rfl⟩ := hq
                      rw [hμ9]
                      clear hμ9 μ9
                      show Z 0 56 [(3, .int (yy16 + (fr μ (21 + 8 * j) (bhd (μ.1 3 134))))), (5, .int 134), (4, .int 4), (0, .ref 2), (1, .ref (19 + 8 * j)), (2, .int (nB hd9))] [.int (bhd (μ.1 3 135)), .ref (19 + 8 * j), .int (yy16 + (fr μ (21 + 8 * j) (bhd (μ.1 3 134))))] μ
                      refine zq_call hc (z_clv9 hH (by rfl) (by rfl) (by rfl) (by rfl) (sj (P := fun i => okr 79 2 (19 + 8 * i)) hj (by decide +kernel)) (by rfl) (by rfl)) (gc_all d' (by omega) μ j hj (bhd (μ.1 3 135))) (by decide +kernel) (fun r9 μ9 hq => ?_)
                      obtain ⟨hμ9, rfl⟩ := hq
                      rw [hμ9]
                      clear hμ9 μ9
                      show Z 0 59 [(3, .int (yy16 + (fr μ (21 + 8 * j) (bhd (μ.1 3 134))))), (5, .int 134), (4, .int 4), (0, .ref 2), (1, .ref (19 + 8 * j)), (2, .int (nB hd9))] [.int (fr μ (21 + 8 * j) (bhd (μ.1 3 135))), .int (yy16 + (fr μ (21 + 8 * j) (bhd (μ.1 3 134))))] μ
                      refine z_rcs hc hH 2 (pc' := 61) (lv' := [(3, .int ((yy16 + (fr μ (21 + 8 * j) (bhd (μ.1 3 134)))) + (fr μ (21 + 8 * j) (bhd (μ.1 3 135))))), (5, .int 134), (4, .int 4), (0, .ref 2), (1, .ref (19 + 8 * j)), (2, .int (nB hd9))]) (st' := []) (μ' := μ) (by rfl) ?_
                      exact zJ hJ18 (by first | with_reducible rfl | (simp only [h21, lb_f, Int64.or_zero, Int32.add_zero, nB_t, nB_f, Bool.not_true, Bool.not_false, Bool.and_true, Bool.true_and, Bool.false_and, Bool.and_false, Bool.or_true, Bool.true_or, Bool.false_or, Bool.or_false, cond_true, cond_false]; done) | rfl) rfl rfl
                refine zq_if hc hH (by rfl) (tg := 61) (by rfl) (fun h22 => ?_) (fun h22 => ?_)
                · have h22 : (hd9) = false := nB_z.mp (cm_eq9.mp h22)
                  exact zJ hJ15 (by first | with_reducible rfl | (simp only [h22, lb_f, Int64.or_zero, Int32.add_zero, nB_t, nB_f, Bool.not_true, Bool.not_false, Bool.and_true, Bool.true_and, Bool.false_and, Bool.and_false, Bool.or_true, Bool.true_or, Bool.false_or, Bool.or_false, cond_true, cond_false]; done) | rfl) rfl rfl
                · have h22 : (hd9) = true := nB_n.mp (cn_eq.mp h22)
                  refine z_rcs hc hH 6 (pc' := 50) (lv' := [(3, .int (yy13 + (fr μ (21 + 8 * j) (bhd (μ.1 3 132))))), (5, .int 132), (4, .int 3), (0, .ref 2), (1, .ref (19 + 8 * j)), (2, .int (nB hd9))]) (st' := [.int 133, .ref 2, .ref (19 + 8 * j), .int (yy13 + (fr μ (21 + 8 * j) (bhd (μ.1 3 132))))]) (μ' := μ) (by rfl) ?_
                  refine zq_call hc (z_cx_ok hH (by rfl)) (gc_kindAtN d' (by omega) μ 133 (by decide) hS1) (by decide +kernel) (fun r9 μ9 hq => ?_)
                  obtain ⟨hμ9, rfl⟩ := hq
                  rw [hμ9]
                  clear hμ9 μ9
                  show Z 0 53 [(3, .int (yy13 + (fr μ (21 + 8 * j) (bhd (μ.1 3 132))))), (5, .int 132), (4, .int 3), (0, .ref 2), (1, .ref (19 + 8 * j)), (2, .int (nB hd9))] [.int (μ.1 3 133), .ref (19 + 8 * j), .int (yy13 + (fr μ (21 + 8 * j) (bhd (μ.1 3 132))))] μ
                  refine zq_call hc (z_cx_ok hH (by rfl)) (gc_behind d' (by omega) μ (μ.1 3 133)) (by decide +kernel) (fun r9 μ9 hq => ?_)
                  obtain ⟨hμ9, rfl⟩ := hq
                  rw [hμ9]
                  clear hμ9 μ9
                  show Z 0 56 [(3, .int (yy13 + (fr μ (21 + 8 * j) (bhd (μ.1 3 132))))), (5, .int 132), (4, .int 3), (0, .ref 2), (1, .ref (19 + 8 * j)), (2, .int (nB hd9))] [.int (bhd (μ.1 3 133)), .ref (19 + 8 * j), .int (yy13 + (fr μ (21 + 8 * j) (bhd (μ.1 3 132))))] μ
                  refine zq_call hc (z_clv9 hH (by rfl) (by rfl) (by rfl) (by rfl) (sj (P := fun i => okr 79 2 (19 + 8 * i)) hj (by decide +kernel)) (by rfl) (by rfl)) (gc_all d' (by omega) μ j hj (bhd (μ.1 3 133))) (by decide +kernel) (fun r9 μ9 hq => ?_)
                  obtain ⟨hμ9, rfl⟩ := hq
                  rw [hμ9]
                  clear hμ9 μ9
                  show Z 0 59 [(3, .int (yy13 + (fr μ (21 + 8 * j) (bhd (μ.1 3 132))))), (5, .int 132), (4, .int 3), (0, .ref 2), (1, .ref (19 + 8 * j)), (2, .int (nB hd9))] [.int (fr μ (21 + 8 * j) (bhd (μ.1 3 133))), .int (yy13 + (fr μ (21 + 8 * j) (bhd (μ.1 3 132))))] μ
                  refine z_rcs hc hH 2 (pc' := 61) (lv' := [(3, .int ((yy13 + (fr μ (21 + 8 * j) (bhd (μ.1 3 132)))) + (fr μ (21 + 8 * j) (bhd (μ.1 3 133))))), (5, .int 132), (4, .int 3), (0, .ref 2), (1, .ref (19 + 8 * j)), (2, .int (nB hd9))]) (st' := []) (μ' := μ) (by rfl) ?_
                  exact zJ hJ15 (by first | with_reducible rfl | (simp only [h22, lb_f, Int64.or_zero, Int32.add_zero, nB_t, nB_f, Bool.not_true, Bool.not_false, Bool.and_true, Bool.true_and, Bool.false_and, Bool.and_false, Bool.or_true, Bool.true_or, Bool.false_or, Bool.or_false, cond_true, cond_false]; done) | rfl) rfl rfl
            refine zq_if hc hH (by rfl) (tg := 61) (by rfl) (fun h23 => ?_) (fun h23 => ?_)
            · have h23 : (hd9) = false := nB_z.mp (cm_eq9.mp h23)
              exact zJ hJ12 (by first | with_reducible rfl | (simp only [h23, lb_f, Int64.or_zero, Int32.add_zero, nB_t, nB_f, Bool.not_true, Bool.not_false, Bool.and_true, Bool.true_and, Bool.false_and, Bool.and_false, Bool.or_true, Bool.true_or, Bool.false_or, Bool.or_false, cond_true, cond_false]; done) | rfl) rfl rfl
            · have h23 : (hd9) = true := nB_n.mp (cn_eq.mp h23)
              refine z_rcs hc hH 6 (pc' := 50) (lv' := [(3, .int (yy10 + (fr μ (21 + 8 * j) (bhd (μ.1 3 130))))), (5, .int 130), (4, .int 2), (0, .ref 2), (1, .ref (19 + 8 * j)), (2, .int (nB hd9))]) (st' := [.int 131, .ref 2, .ref (19 + 8 * j), .int (yy10 + (fr μ (21 + 8 * j) (bhd (μ.1 3 130))))]) (μ' := μ) (by rfl) ?_
              refine zq_call hc (z_cx_ok hH (by rfl)) (gc_kindAtN d' (by omega) μ 131 (by decide) hS1) (by decide +kernel) (fun r9 μ9 hq => ?_)
              obtain ⟨hμ9, rfl⟩ := hq
              rw [hμ9]
              clear hμ9 μ9
              show Z 0 53 [(3, .int (yy10 + (fr μ (21 + 8 * j) (bhd (μ.1 3 130))))), (5, .int 130), (4, .int 2), (0, .ref 2), (1, .ref (19 + 8 * j)), (2, .int (nB hd9))] [.int (μ.1 3 131), .ref (19 + 8 * j), .int (yy10 + (fr μ (21 + 8 * j) (bhd (μ.1 3 130))))] μ
              refine zq_call hc (z_cx_ok hH (by rfl)) (gc_behind d' (by omega) μ (μ.1 3 131)) (by decide +kernel) (fun r9 μ9 hq => ?_)
              obtain ⟨hμ9, rfl⟩ := hq
              rw [hμ9]
              clear hμ9 μ9
              show Z 0 56 [(3, .int (yy10 + (fr μ (21 + 8 * j) (bhd (μ.1 3 130))))), (5, .int 130), (4, .int 2), (0, .ref 2), (1, .ref (19 + 8 * j)), (2, .int (nB hd9))] [.int (bhd (μ.1 3 131)), .ref (19 + 8 * j), .int (yy10 + (fr μ (21 + 8 * j) (bhd (μ.1 3 130))))] μ
              refine zq_call hc (z_clv9 hH (by rfl) (by rfl) (by rfl) (by rfl) (sj (P := fun i => okr 79 2 (19 + 8 * i)) hj (by decide +kernel)) (by rfl) (by rfl)) (gc_all d' (by omega) μ j hj (bhd (μ.1 3 131))) (by decide +kernel) (fun r9 μ9 hq => ?_)
              obtain ⟨hμ9, rfl⟩ := hq
              rw [hμ9]
              clear hμ9 μ9
              show Z 0 59 [(3, .int (yy10 + (fr μ (21 + 8 * j) (bhd (μ.1 3 130))))), (5, .int 130), (4, .int 2), (0, .ref 2), (1, .ref (19 + 8 * j)), (2, .int (nB hd9))] [.int (fr μ (21 + 8 * j) (bhd (μ.1 3 131))), .int (yy10 + (fr μ (21 + 8 * j) (bhd (μ.1 3 130))))] μ
              refine z_rcs hc hH 2 (pc' := 61) (lv' := [(3, .int ((yy10 + (fr μ (21 + 8 * j) (bhd (μ.1 3 130)))) + (fr μ (21 + 8 * j) (bhd (μ.1 3 131))))), (5, .int 130), (4, .int 2), (0, .ref 2), (1, .ref (19 + 8 * j)), (2, .int (nB hd9))]) (st' := []) (μ' := μ) (by rfl) ?_
              exact zJ hJ12 (by first | with_reducible rfl | (simp only [h23, lb_f, Int64.or_zero, Int32.add_zero, nB_t, nB_f, Bool.not_true, Bool.not_false, Bool.and_true, Bool.true_and, Bool.false_and, Bool.and_false, Bool.or_true, Bool.true_or, Bool.false_or, Bool.or_false, cond_true, cond_false]; done) | rfl) rfl rfl
        refine zq_if hc hH (by rfl) (tg := 61) (by rfl) (fun h24 => ?_) (fun h24 => ?_)
        · have h24 : (hd9) = false := nB_z.mp (cm_eq9.mp h24)
          exact zJ hJ9 (by first | with_reducible rfl | (simp only [h24, lb_f, Int64.or_zero, Int32.add_zero, nB_t, nB_f, Bool.not_true, Bool.not_false, Bool.and_true, Bool.true_and, Bool.false_and, Bool.and_false, Bool.or_true, Bool.true_or, Bool.false_or, Bool.or_false, cond_true, cond_false]; done) | rfl) rfl rfl
        · have h24 : (hd9) = true := nB_n.mp (cn_eq.mp h24)
          refine z_rcs hc hH 6 (pc' := 50) (lv' := [(3, .int (yy3 + (fr μ (21 + 8 * j) (bhd (μ.1 3 128))))), (5, .int 128), (4, .int 1), (0, .ref 2), (1, .ref (19 + 8 * j)), (2, .int (nB hd9))]) (st' := [.int 129, .ref 2, .ref (19 + 8 * j), .int (yy3 + (fr μ (21 + 8 * j) (bhd (μ.1 3 128))))]) (μ' := μ) (by rfl) ?_
          refine zq_call hc (z_cx_ok hH (by rfl)) (gc_kindAtN d' (by omega) μ 129 (by decide) hS1) (by decide +kernel) (fun r9 μ9 hq => ?_)
          obtain ⟨hμ9, rfl⟩ := hq
          rw [hμ9]
          clear hμ9 μ9
          show Z 0 53 [(3, .int (yy3 + (fr μ (21 + 8 * j) (bhd (μ.1 3 128))))), (5, .int 128), (4, .int 1), (0, .ref 2), (1, .ref (19 + 8 * j)), (2, .int (nB hd9))] [.int (μ.1 3 129), .ref (19 + 8 * j), .int (yy3 + (fr μ (21 + 8 * j) (bhd (μ.1 3 128))))] μ
          refine zq_call hc (z_cx_ok hH (by rfl)) (gc_behind d' (by omega) μ (μ.1 3 129)) (by decide +kernel) (fun r9 μ9 hq => ?_)
          obtain ⟨hμ9, rfl⟩ := hq
          rw [hμ9]
          clear hμ9 μ9
          show Z 0 56 [(3, .int (yy3 + (fr μ (21 + 8 * j) (bhd (μ.1 3 128))))), (5, .int 128), (4, .int 1), (0, .ref 2), (1, .ref (19 + 8 * j)), (2, .int (nB hd9))] [.int (bhd (μ.1 3 129)), .ref (19 + 8 * j), .int (yy3 + (fr μ (21 + 8 * j) (bhd (μ.1 3 128))))] μ
          refine zq_call hc (z_clv9 hH (by rfl) (by rfl) (by rfl) (by rfl) (sj (P := fun i => okr 79 2 (19 + 8 * i)) hj (by decide +kernel)) (by rfl) (by rfl)) (gc_all d' (by omega) μ j hj (bhd (μ.1 3 129))) (by decide +kernel) (fun r9 μ9 hq => ?_)
          obtain ⟨hμ9, rfl⟩ := hq
          rw [hμ9]
          clear hμ9 μ9
          show Z 0 59 [(3, .int (yy3 + (fr μ (21 + 8 * j) (bhd (μ.1 3 128))))), (5, .int 128), (4, .int 1), (0, .ref 2), (1, .ref (19 + 8 * j)), (2, .int (nB hd9))] [.int (fr μ (21 + 8 * j) (bhd (μ.1 3 129))), .int (yy3 + (fr μ (21 + 8 * j) (bhd (μ.1 3 128))))] μ
          refine z_rcs hc hH 2 (pc' := 61) (lv' := [(3, .int ((yy3 + (fr μ (21 + 8 * j) (bhd (μ.1 3 128)))) + (fr μ (21 + 8 * j) (bhd (μ.1 3 129))))), (5, .int 128), (4, .int 1), (0, .ref 2), (1, .ref (19 + 8 * j)), (2, .int (nB hd9))]) (st' := []) (μ' := μ) (by rfl) ?_
          exact zJ hJ9 (by first | with_reducible rfl | (simp only [h24, lb_f, Int64.or_zero, Int32.add_zero, nB_t, nB_f, Bool.not_true, Bool.not_false, Bool.and_true, Bool.true_and, Bool.false_and, Bool.and_false, Bool.or_true, Bool.true_or, Bool.false_or, Bool.or_false, cond_true, cond_false]; done) | rfl) rfl rfl
    refine zq_if hc hH (by rfl) (tg := 61) (by rfl) (fun h25 => ?_) (fun h25 => ?_)
    · have h25 : (hd9) = false := nB_z.mp (cm_eq9.mp h25)
      exact zJ hJ2 (by first | with_reducible rfl | (simp only [h25, lb_f, Int64.or_zero, Int32.add_zero, nB_t, nB_f, Bool.not_true, Bool.not_false, Bool.and_true, Bool.true_and, Bool.false_and, Bool.and_false, Bool.or_true, Bool.true_or, Bool.false_or, Bool.or_false, cond_true, cond_false]; done) | rfl) rfl rfl
    · have h25 : (hd9) = true := nB_n.mp (cn_eq.mp h25)
      refine z_rcs hc hH 6 (pc' := 50) (lv' := [(3, .int (0 + (fr μ (21 + 8 * j) (bhd (μ.1 3 126))))), (5, .int 126), (4, .int 0), (0, .ref 2), (1, .ref (19 + 8 * j)), (2, .int (nB hd9))]) (st' := [.int 127, .ref 2, .ref (19 + 8 * j), .int (0 + (fr μ (21 + 8 * j) (bhd (μ.1 3 126))))]) (μ' := μ) (by rfl) ?_
      refine zq_call hc (z_cx_ok hH (by rfl)) (gc_kindAtN d' (by omega) μ 127 (by decide) hS1) (by decide +kernel) (fun r9 μ9 hq => ?_)
      obtain ⟨hμ9, rfl⟩ := hq
      rw [hμ9]
      clear hμ9 μ9
      show Z 0 53 [(3, .int (0 + (fr μ (21 + 8 * j) (bhd (μ.1 3 126))))), (5, .int 126), (4, .int 0), (0, .ref 2), (1, .ref (19 + 8 * j)), (2, .int (nB hd9))] [.int (μ.1 3 127), .ref (19 + 8 * j), .int (0 + (fr μ (21 + 8 * j) (bhd (μ.1 3 126))))] μ
      refine zq_call hc (z_cx_ok hH (by rfl)) (gc_behind d' (by omega) μ (μ.1 3 127)) (by decide +kernel) (fun r9 μ9 hq => ?_)
      obtain ⟨hμ9, rfl⟩ := hq
      rw [hμ9]
      clear hμ9 μ9
      show Z 0 56 [(3, .int (0 + (fr μ (21 + 8 * j) (bhd (μ.1 3 126))))), (5, .int 126), (4, .int 0), (0, .ref 2), (1, .ref (19 + 8 * j)), (2, .int (nB hd9))] [.int (bhd (μ.1 3 127)), .ref (19 + 8 * j), .int (0 + (fr μ (21 + 8 * j) (bhd (μ.1 3 126))))] μ
      refine zq_call hc (z_clv9 hH (by rfl) (by rfl) (by rfl) (by rfl) (sj (P := fun i => okr 79 2 (19 + 8 * i)) hj (by decide +kernel)) (by rfl) (by rfl)) (gc_all d' (by omega) μ j hj (bhd (μ.1 3 127))) (by decide +kernel) (fun r9 μ9 hq => ?_)
      obtain ⟨hμ9, rfl⟩ := hq
      rw [hμ9]
      clear hμ9 μ9
      show Z 0 59 [(3, .int (0 + (fr μ (21 + 8 * j) (bhd (μ.1 3 126))))), (5, .int 126), (4, .int 0), (0, .ref 2), (1, .ref (19 + 8 * j)), (2, .int (nB hd9))] [.int (fr μ (21 + 8 * j) (bhd (μ.1 3 127))), .int (0 + (fr μ (21 + 8 * j) (bhd (μ.1 3 126))))] μ
      refine z_rcs hc hH 2 (pc' := 61) (lv' := [(3, .int ((0 + (fr μ (21 + 8 * j) (bhd (μ.1 3 126)))) + (fr μ (21 + 8 * j) (bhd (μ.1 3 127))))), (5, .int 126), (4, .int 0), (0, .ref 2), (1, .ref (19 + 8 * j)), (2, .int (nB hd9))]) (st' := []) (μ' := μ) (by rfl) ?_
      exact zJ hJ2 (by first | with_reducible rfl | (simp only [h25, lb_f, Int64.or_zero, Int32.add_zero, nB_t, nB_f, Bool.not_true, Bool.not_false, Bool.and_true, Bool.true_and, Bool.false_and, Bool.and_false, Bool.or_true, Bool.true_or, Bool.false_or, Bool.or_false, cond_true, cond_false]; done) | rfl) rfl rfl
noncomputable def rcW (μ : zM) (wc : Nat) (s pa go : Int32) : zM := z_ui (z_ui (z_uj (z_ui (z_ui (z_ui (z_ui (z_ui (z_ui μ 0 6 (nI (wc + 1))) (25 + 8 * wc) 0 s) (25 + 8 * wc) 1 pa) (25 + 8 * wc) 2 (μ.1 4 0)) (25 + 8 * wc) 3 (μ.1 4 1)) (25 + 8 * wc) 4 (μ.1 4 2)) (25 + 8 * wc) 7 (μ.2.1 4 3)) (25 + 8 * wc) 5 go) (25 + 8 * wc) 6 (μ.1 0 15)
theorem gc_recordWin (d : Nat) (hd : 1 ≤ d) (μ : zM) (wc : Nat) (hwc4 : wc < 4) (hwc : μ.1 0 6 = nI wc) (s pa go : Int32) : z_C d mi_X6_recordWin [.ref 0, .int s, .int pa, .int go] μ (fun r μ' => r = none ∧ μ' = rcW μ wc s pa go) := by
  refine z_C_in (by decide) (by omega) (fun d' Z ed hc hr => ?_)
  have hH : zH mi_X6_recordWin zt_X6_recordWin 79 6 5 := hh_X6_recordWin
  refine z_rcs hc hH 1 (pc' := 1) (lv' := [(0, .ref 0), (1, .int s), (2, .int pa), (3, .int go)]) (st' := [.ref 0]) (μ' := μ) (by rfl) ?_
  refine zq_gfi hc hH (by rfl) (ci := 5) (f := 6) (by rfl) (by decide +kernel) (by rfl) ?_
  rw [hwc]
  refine zq_if hc hH (by rfl) (tg := 15) (by rfl) (fun h1 => ?_) (fun h1 => ?_)
  · have h1 : (decide ((nI wc) < 0)) = true := decide_eq_true (cm_lt.mp h1)
    exact absurd (Eq.trans (Eq.symm (kn_l0 (by omega))) h1) (by decide)
  · have h1 : (decide ((nI wc) < 0)) = false := decide_eq_false (cn_lt.mp h1)
    refine z_rcs hc hH 1 (pc' := 8) (lv' := [(0, .ref 0), (1, .int s), (2, .int pa), (3, .int go)]) (st' := [.ref 0]) (μ' := μ) (by rfl) ?_
    refine zq_gfi hc hH (by rfl) (ci := 5) (f := 6) (by rfl) (by decide +kernel) (by rfl) ?_
    rw [hwc]
    refine z_rcs hc hH 1 (pc' := 12) (lv' := [(0, .ref 0), (1, .int s), (2, .int pa), (3, .int go)]) (st' := [.int 4, .int (nI wc)]) (μ' := μ) (by rfl) ?_
    refine zq_ic hc hH (by rfl) (tg := 16) (by rfl) (fun h2 => ?_) (fun h2 => ?_)
    · have h2 : (decide ((nI wc) < 4)) = true := decide_eq_true (cm_lt.mp h2)
      refine z_rcs hc hH 1 (pc' := 17) (lv' := [(0, .ref 0), (1, .int s), (2, .int pa), (3, .int go)]) (st' := [.ref 0]) (μ' := μ) (by rfl) ?_
      refine zq_gfr hc hH (by rfl) (ci := 5) (f := 3) (q := 8) (by rfl) (by decide +kernel) (by rfl) (by decide +kernel) ?_
      refine z_rcs hc hH 1 (pc' := 21) (lv' := [(0, .ref 0), (1, .int s), (2, .int pa), (3, .int go)]) (st' := [.ref 0, .ref 8]) (μ' := μ) (by rfl) ?_
      refine zq_gfi hc hH (by rfl) (ci := 5) (f := 6) (by rfl) (by decide +kernel) (by rfl) ?_
      rw [hwc]
      refine zq_aald hc hH (by rfl) (i := wc) (q := 25 + 8 * wc) hwc4 (by decide +kernel) (sj (P := fun i => Nat.beq (z_gr 8 i) (25 + 8 * i)) hwc4 (by decide +kernel)) ?_
      refine z_rcs hc hH 3 (pc' := 29) (lv' := [(4, .ref (25 + 8 * wc)), (0, .ref 0), (1, .int s), (2, .int pa), (3, .int go)]) (st' := [.ref 0, .ref 0]) (μ' := μ) (by rfl) ?_
      refine zq_gfi hc hH (by rfl) (ci := 5) (f := 6) (by rfl) (by decide +kernel) (by rfl) ?_
      rw [hwc]
      refine z_rcs hc hH 2 (pc' := 34) (lv' := [(4, .ref (25 + 8 * wc)), (0, .ref 0), (1, .int s), (2, .int pa), (3, .int go)]) (st' := [.int ((nI wc) + 1), .ref 0]) (μ' := μ) (by rfl) ?_
      rw [nI_s1]
      refine zq_pfi hc hH (by rfl) (ci := 5) (f := 6) (by rfl) (by decide +kernel) (by rfl) ?_
      show Z 0 37 [(4, .ref (25 + 8 * wc)), (0, .ref 0), (1, .int s), (2, .int pa), (3, .int go)] [] (z_ui μ 0 6 (nI (wc + 1)))
      refine z_rcs0 hc hH 2 (pc' := 40) (lv' := [(4, .ref (25 + 8 * wc)), (0, .ref 0), (1, .int s), (2, .int pa), (3, .int go)]) (st' := [.int s, .ref (25 + 8 * wc)]) (by rfl) ?_
      refine zq_pfi hc hH (by rfl) (ci := 4) (f := 0) (by rfl) (sj (P := fun i => okf 79 4 0 (25 + 8 * i)) hwc4 (by decide +kernel)) (by rfl) ?_
      show Z 0 43 [(4, .ref (25 + 8 * wc)), (0, .ref 0), (1, .int s), (2, .int pa), (3, .int go)] [] (z_ui (z_ui μ 0 6 (nI (wc + 1))) (25 + 8 * wc) 0 s)
      refine z_rcs0 hc hH 2 (pc' := 46) (lv' := [(4, .ref (25 + 8 * wc)), (0, .ref 0), (1, .int s), (2, .int pa), (3, .int go)]) (st' := [.int pa, .ref (25 + 8 * wc)]) (by rfl) ?_
      refine zq_pfi hc hH (by rfl) (ci := 4) (f := 1) (by rfl) (sj (P := fun i => okf 79 4 1 (25 + 8 * i)) hwc4 (by decide +kernel)) (by rfl) ?_
      show Z 0 49 [(4, .ref (25 + 8 * wc)), (0, .ref 0), (1, .int s), (2, .int pa), (3, .int go)] [] (z_ui (z_ui (z_ui μ 0 6 (nI (wc + 1))) (25 + 8 * wc) 0 s) (25 + 8 * wc) 1 pa)
      refine z_rcs0 hc hH 2 (pc' := 52) (lv' := [(4, .ref (25 + 8 * wc)), (0, .ref 0), (1, .int s), (2, .int pa), (3, .int go)]) (st' := [.ref 0, .ref (25 + 8 * wc)]) (by rfl) ?_
      refine zq_gfr hc hH (by rfl) (ci := 5) (f := 2) (q := 4) (by rfl) (by decide +kernel) (by rfl) (by decide +kernel) ?_
      refine zq_gfi hc hH (by rfl) (ci := 0) (f := 0) (by rfl) (by decide +kernel) (by rfl) ?_
      refine zV1 (Z := Z) (Eq.trans (ui_o (by first | decide | omega)) (Eq.trans (ui_o (by first | decide | omega)) (ui_o (by first | decide | omega)))) ?_
      refine zq_pfi hc hH (by rfl) (ci := 4) (f := 2) (by rfl) (sj (P := fun i => okf 79 4 2 (25 + 8 * i)) hwc4 (by decide +kernel)) (by rfl) ?_
      show Z 0 61 [(4, .ref (25 + 8 * wc)), (0, .ref 0), (1, .int s), (2, .int pa), (3, .int go)] [] (z_ui (z_ui (z_ui (z_ui μ 0 6 (nI (wc + 1))) (25 + 8 * wc) 0 s) (25 + 8 * wc) 1 pa) (25 + 8 * wc) 2 (μ.1 4 0))
      refine z_rcs0 hc hH 2 (pc' := 64) (lv' := [(4, .ref (25 + 8 * wc)), (0, .ref 0), (1, .int s), (2, .int pa), (3, .int go)]) (st' := [.ref 0, .ref (25 + 8 * wc)]) (by rfl) ?_
      refine zq_gfr hc hH (by rfl) (ci := 5) (f := 2) (q := 4) (by rfl) (by decide +kernel) (by rfl) (by decide +kernel) ?_
      refine zq_gfi hc hH (by rfl) (ci := 0) (f := 1) (by rfl) (by decide +kernel) (by rfl) ?_
      refine zV1 (Z := Z) (Eq.trans (ui_o (by first | decide | omega)) (Eq.trans (ui_o (by first | decide | omega)) (Eq.trans (ui_o (by first | decide | omega)) (ui_o (by first | decide | omega))))) ?_
      refine zq_pfi hc hH (by rfl) (ci := 4) (f := 3) (by rfl) (sj (P := fun i => okf 79 4 3 (25 + 8 * i)) hwc4 (by decide +kernel)) (by rfl) ?_
      show Z 0 73 [(4, .ref (25 + 8 * wc)), (0, .ref 0), (1, .int s), (2, .int pa), (3, .int go)] [] (z_ui (z_ui (z_ui (z_ui (z_ui μ 0 6 (nI (wc + 1))) (25 + 8 * wc) 0 s) (25 + 8 * wc) 1 pa) (25 + 8 * wc) 2 (μ.1 4 0)) (25 + 8 * wc) 3 (μ.1 4 1))
      refine z_rcs0 hc hH 2 (pc' := 76) (lv' := [(4, .ref (25 + 8 * wc)), (0, .ref 0), (1, .int s), (2, .int pa), (3, .int go)]) (st' := [.ref 0, .ref (25 + 8 * wc)]) (by rfl) ?_
      refine zq_gfr hc hH (by rfl) (ci := 5) (f := 2) (q := 4) (by rfl) (by decide +kernel) (by rfl) (by decide +kernel) ?_
      refine zq_gfi hc hH (by rfl) (ci := 0) (f := 2) (by rfl) (by decide +kernel) (by rfl) ?_
      refine zV1 (Z := Z) (Eq.trans (ui_o (by first | decide | omega)) (Eq.trans (ui_o (by first | decide | omega)) (Eq.trans (ui_o (by first | decide | omega)) (Eq.trans (ui_o (by first | decide | omega)) (ui_o (by first | decide | omega)))))) ?_
      refine zq_pfi hc hH (by rfl) (ci := 4) (f := 4) (by rfl) (sj (P := fun i => okf 79 4 4 (25 + 8 * i)) hwc4 (by decide +kernel)) (by rfl) ?_
      show Z 0 85 [(4, .ref (25 + 8 * wc)), (0, .ref 0), (1, .int s), (2, .int pa), (3, .int go)] [] (z_ui (z_ui (z_ui (z_ui (z_ui (z_ui μ 0 6 (nI (wc + 1))) (25 + 8 * wc) 0 s) (25 + 8 * wc) 1 pa) (25 + 8 * wc) 2 (μ.1 4 0)) (25 + 8 * wc) 3 (μ.1 4 1)) (25 + 8 * wc) 4 (μ.1 4 2))
      refine z_rcs0 hc hH 2 (pc' := 88) (lv' := [(4, .ref (25 + 8 * wc)), (0, .ref 0), (1, .int s), (2, .int pa), (3, .int go)]) (st' := [.ref 0, .ref (25 + 8 * wc)]) (by rfl) ?_
      refine zq_gfr hc hH (by rfl) (ci := 5) (f := 2) (q := 4) (by rfl) (by decide +kernel) (by rfl) (by decide +kernel) ?_
      refine zq_gfl hc hH (by rfl) (ci := 0) (f := 3) (by rfl) (by decide +kernel) (by rfl) ?_
      rw [ui_j, ui_j, ui_j, ui_j, ui_j, ui_j]
      refine zq_pfl hc hH (by rfl) (ci := 4) (f := 7) (by rfl) (sj (P := fun i => okf 79 4 7 (25 + 8 * i)) hwc4 (by decide +kernel)) (by rfl) ?_
      show Z 0 97 [(4, .ref (25 + 8 * wc)), (0, .ref 0), (1, .int s), (2, .int pa), (3, .int go)] [] (z_uj (z_ui (z_ui (z_ui (z_ui (z_ui (z_ui μ 0 6 (nI (wc + 1))) (25 + 8 * wc) 0 s) (25 + 8 * wc) 1 pa) (25 + 8 * wc) 2 (μ.1 4 0)) (25 + 8 * wc) 3 (μ.1 4 1)) (25 + 8 * wc) 4 (μ.1 4 2)) (25 + 8 * wc) 7 (μ.2.1 4 3))
      refine z_rcs0 hc hH 2 (pc' := 100) (lv' := [(4, .ref (25 + 8 * wc)), (0, .ref 0), (1, .int s), (2, .int pa), (3, .int go)]) (st' := [.int go, .ref (25 + 8 * wc)]) (by rfl) ?_
      refine zq_pfi hc hH (by rfl) (ci := 4) (f := 5) (by rfl) (sj (P := fun i => okf 79 4 5 (25 + 8 * i)) hwc4 (by decide +kernel)) (by rfl) ?_
      show Z 0 103 [(4, .ref (25 + 8 * wc)), (0, .ref 0), (1, .int s), (2, .int pa), (3, .int go)] [] (z_ui (z_uj (z_ui (z_ui (z_ui (z_ui (z_ui (z_ui μ 0 6 (nI (wc + 1))) (25 + 8 * wc) 0 s) (25 + 8 * wc) 1 pa) (25 + 8 * wc) 2 (μ.1 4 0)) (25 + 8 * wc) 3 (μ.1 4 1)) (25 + 8 * wc) 4 (μ.1 4 2)) (25 + 8 * wc) 7 (μ.2.1 4 3)) (25 + 8 * wc) 5 go)
      refine z_rcs0 hc hH 2 (pc' := 106) (lv' := [(4, .ref (25 + 8 * wc)), (0, .ref 0), (1, .int s), (2, .int pa), (3, .int go)]) (st' := [.ref 0, .ref (25 + 8 * wc)]) (by rfl) ?_
      refine zq_gfi hc hH (by rfl) (ci := 5) (f := 15) (by rfl) (by decide +kernel) (by rfl) ?_
      refine zV1 (Z := Z) (Eq.trans (ui_o (by first | decide | omega)) (Eq.trans uj_i (Eq.trans (ui_o (by first | decide | omega)) (Eq.trans (ui_o (by first | decide | omega)) (Eq.trans (ui_o (by first | decide | omega)) (Eq.trans (ui_o (by first | decide | omega)) (Eq.trans (ui_o (by first | decide | omega)) (ui_k (by first | decide | omega))))))))) ?_
      refine zq_pfi hc hH (by rfl) (ci := 4) (f := 6) (by rfl) (sj (P := fun i => okf 79 4 6 (25 + 8 * i)) hwc4 (by decide +kernel)) (by rfl) ?_
      show Z 0 112 [(4, .ref (25 + 8 * wc)), (0, .ref 0), (1, .int s), (2, .int pa), (3, .int go)] [] (z_ui (z_ui (z_uj (z_ui (z_ui (z_ui (z_ui (z_ui (z_ui μ 0 6 (nI (wc + 1))) (25 + 8 * wc) 0 s) (25 + 8 * wc) 1 pa) (25 + 8 * wc) 2 (μ.1 4 0)) (25 + 8 * wc) 3 (μ.1 4 1)) (25 + 8 * wc) 4 (μ.1 4 2)) (25 + 8 * wc) 7 (μ.2.1 4 3)) (25 + 8 * wc) 5 go) (25 + 8 * wc) 6 (μ.1 0 15))
      exact hr 0 112 _ _ _ none (by decide +kernel) (by rfl) (⟨rfl, rfl⟩)
    · have h2 : (decide ((nI wc) < 4)) = false := decide_eq_false (cn_lt.mp h2)
      exact absurd (Eq.trans (Eq.symm (kn_lt (m := 4) rfl (by omega) (by omega))) h2) (by decide)
theorem gc_someoneIsBroke (d : Nat) (hd : 2 ≤ d) (μ : zM) : z_C d mi_X6_someoneIsBroke [.ref 0] μ (zR μ (.int (nB (!(decide (0 ≤ (μ.1 18 4))) || (!(decide (0 ≤ (μ.1 26 4))) || (!(decide (0 ≤ (μ.1 34 4))) || (!(decide (0 ≤ (μ.1 42 4)))))))))) := by
  refine z_C_in (by decide) (by omega) (fun d' Z ed hc hr => ?_)
  have hH : zH mi_X6_someoneIsBroke zt_X6_someoneIsBroke 79 6 2 := hh_X6_someoneIsBroke
  refine z_rcs hc hH 7 (pc' := 9) (lv' := [(1, .int 0), (0, .ref 0)]) (st' := [.int 0, .ref 0]) (μ' := μ) (by rfl) ?_
  refine zq_call hc (z_cx_ok hH (by rfl)) (gc_at d' (by omega) μ 0 (by decide)) (by decide +kernel) (fun r9 μ9 hq => ?_)
  obtain ⟨hμ9, rfl⟩ := hq
  rw [hμ9]
  clear hμ9 μ9
  show Z 0 12 [(1, .int 0), (0, .ref 0)] [.ref 18] μ
  refine zq_gfi hc hH (by rfl) (ci := 1) (f := 4) (by rfl) (by decide +kernel) (by rfl) ?_
  refine zq_if hc hH (by rfl) (tg := 20) (by rfl) (fun h1 => ?_) (fun h1 => ?_)
  · have h1 : (decide (0 ≤ (μ.1 18 4))) = true := decide_eq_true (cm_ge.mp h1)
    refine z_rcs hc hH 7 (pc' := 9) (lv' := [(1, .int 1), (0, .ref 0)]) (st' := [.int 1, .ref 0]) (μ' := μ) (by rfl) ?_
    refine zq_call hc (z_cx_ok hH (by rfl)) (gc_at d' (by omega) μ 1 (by decide)) (by decide +kernel) (fun r9 μ9 hq => ?_)
    obtain ⟨hμ9, rfl⟩ := hq
    rw [hμ9]
    clear hμ9 μ9
    show Z 0 12 [(1, .int 1), (0, .ref 0)] [.ref 26] μ
    refine zq_gfi hc hH (by rfl) (ci := 1) (f := 4) (by rfl) (by decide +kernel) (by rfl) ?_
    refine zq_if hc hH (by rfl) (tg := 20) (by rfl) (fun h2 => ?_) (fun h2 => ?_)
    · have h2 : (decide (0 ≤ (μ.1 26 4))) = true := decide_eq_true (cm_ge.mp h2)
      refine z_rcs hc hH 7 (pc' := 9) (lv' := [(1, .int 2), (0, .ref 0)]) (st' := [.int 2, .ref 0]) (μ' := μ) (by rfl) ?_
      refine zq_call hc (z_cx_ok hH (by rfl)) (gc_at d' (by omega) μ 2 (by decide)) (by decide +kernel) (fun r9 μ9 hq => ?_)
      obtain ⟨hμ9, rfl⟩ := hq
      rw [hμ9]
      clear hμ9 μ9
      show Z 0 12 [(1, .int 2), (0, .ref 0)] [.ref 34] μ
      refine zq_gfi hc hH (by rfl) (ci := 1) (f := 4) (by rfl) (by decide +kernel) (by rfl) ?_
      refine zq_if hc hH (by rfl) (tg := 20) (by rfl) (fun h3 => ?_) (fun h3 => ?_)
      · have h3 : (decide (0 ≤ (μ.1 34 4))) = true := decide_eq_true (cm_ge.mp h3)
        refine z_rcs hc hH 7 (pc' := 9) (lv' := [(1, .int 3), (0, .ref 0)]) (st' := [.int 3, .ref 0]) (μ' := μ) (by rfl) ?_
        refine zq_call hc (z_cx_ok hH (by rfl)) (gc_at d' (by omega) μ 3 (by decide)) (by decide +kernel) (fun r9 μ9 hq => ?_)
        obtain ⟨hμ9, rfl⟩ := hq
        rw [hμ9]
        clear hμ9 μ9
        show Z 0 12 [(1, .int 3), (0, .ref 0)] [.ref 42] μ
        refine zq_gfi hc hH (by rfl) (ci := 1) (f := 4) (by rfl) (by decide +kernel) (by rfl) ?_
        refine zq_if hc hH (by rfl) (tg := 20) (by rfl) (fun h4 => ?_) (fun h4 => ?_)
        · have h4 : (decide (0 ≤ (μ.1 42 4))) = true := decide_eq_true (cm_ge.mp h4)
          refine z_rcs hc hH 6 (pc' := 27) (lv' := [(1, .int 4), (0, .ref 0)]) (st' := [.int 0]) (μ' := μ) (by rfl) ?_
          exact hr 0 27 _ _ _ (some (.int 0)) (by decide +kernel) (z_rx_ok hH (by rfl)) (⟨rfl, (by simp only [h1, h2, h3, h4, lb_f, Int64.or_zero, Int32.add_zero, nB_t, nB_f, Bool.not_true, Bool.not_false, Bool.and_true, Bool.true_and, Bool.false_and, Bool.and_false, Bool.or_true, Bool.true_or, Bool.false_or, Bool.or_false, cond_true, cond_false])⟩)
        · have h4 : (decide (0 ≤ (μ.1 42 4))) = false := decide_eq_false (cn_ge.mp h4)
          refine z_rcs hc hH 1 (pc' := 19) (lv' := [(1, .int 3), (0, .ref 0)]) (st' := [.int 1]) (μ' := μ) (by rfl) ?_
          exact hr 0 19 _ _ _ (some (.int 1)) (by decide +kernel) (z_rx_ok hH (by rfl)) (⟨rfl, (by simp only [h1, h2, h3, h4, lb_f, Int64.or_zero, Int32.add_zero, nB_t, nB_f, Bool.not_true, Bool.not_false, Bool.and_true, Bool.true_and, Bool.false_and, Bool.and_false, Bool.or_true, Bool.true_or, Bool.false_or, Bool.or_false, cond_true, cond_false])⟩)
      · have h3 : (decide (0 ≤ (μ.1 34 4))) = false := decide_eq_false (cn_ge.mp h3)
        refine z_rcs hc hH 1 (pc' := 19) (lv' := [(1, .int 2), (0, .ref 0)]) (st' := [.int 1]) (μ' := μ) (by rfl) ?_
        exact hr 0 19 _ _ _ (some (.int 1)) (by decide +kernel) (z_rx_ok hH (by rfl)) (⟨rfl, (by simp only [h1, h2, h3, lb_f, Int64.or_zero, Int32.add_zero, nB_t, nB_f, Bool.not_true, Bool.not_false, Bool.and_true, Bool.true_and, Bool.false_and, Bool.and_false, Bool.or_true, Bool.true_or, Bool.false_or, Bool.or_false, cond_true, cond_false])⟩)
    · have h2 : (decide (0 ≤ (μ.1 26 4))) = false := decide_eq_false (cn_ge.mp h2)
      refine z_rcs hc hH 1 (pc' := 19) (lv' := [(1, .int 1), (0, .ref 0)]) (st' := [.int 1]) (μ' := μ) (by rfl) ?_
      exact hr 0 19 _ _ _ (some (.int 1)) (by decide +kernel) (z_rx_ok hH (by rfl)) (⟨rfl, (by simp only [h1, h2, lb_f, Int64.or_zero, Int32.add_zero, nB_t, nB_f, Bool.not_true, Bool.not_false, Bool.and_true, Bool.true_and, Bool.false_and, Bool.and_false, Bool.or_true, Bool.true_or, Bool.false_or, Bool.or_false, cond_true, cond_false])⟩)
  · have h1 : (decide (0 ≤ (μ.1 18 4))) = false := decide_eq_false (cn_ge.mp h1)
    refine z_rcs hc hH 1 (pc' := 19) (lv' := [(1, .int 0), (0, .ref 0)]) (st' := [.int 1]) (μ' := μ) (by rfl) ?_
    exact hr 0 19 _ _ _ (some (.int 1)) (by decide +kernel) (z_rx_ok hH (by rfl)) (⟨rfl, (by simp only [h1, lb_f, Int64.or_zero, Int32.add_zero, nB_t, nB_f, Bool.not_true, Bool.not_false, Bool.and_true, Bool.true_and, Bool.false_and, Bool.and_false, Bool.or_true, Bool.true_or, Bool.false_or, Bool.or_false, cond_true, cond_false])⟩)
theorem gc_richest (d : Nat) (hd : 2 ≤ d) (μ : zM) : z_C d mi_X6_richest [.ref 0] μ (fun r μ' => r = some ((bif decide ((μ.1 26 4) ≤ (μ.1 18 4)) then (bif decide ((μ.1 34 4) ≤ (μ.1 18 4)) then (bif decide ((μ.1 42 4) ≤ (μ.1 18 4)) then .int 0 else .int 3) else (bif decide ((μ.1 42 4) ≤ (μ.1 34 4)) then .int 2 else .int 3)) else (bif decide ((μ.1 34 4) ≤ (μ.1 26 4)) then (bif decide ((μ.1 42 4) ≤ (μ.1 26 4)) then .int 1 else .int 3) else (bif decide ((μ.1 42 4) ≤ (μ.1 34 4)) then .int 2 else .int 3)))) ∧ μ' = μ) := by
  refine z_C_in (by decide) (by omega) (fun d' Z ed hc hr => ?_)
  have hH : zH mi_X6_richest zt_X6_richest 79 6 3 := hh_X6_richest
  refine z_rcs hc hH 9 (pc' := 11) (lv' := [(2, .int 1), (1, .int 0), (0, .ref 0)]) (st' := [.int 1, .ref 0]) (μ' := μ) (by rfl) ?_
  refine zq_call hc (z_cx_ok hH (by rfl)) (gc_at d' (by omega) μ 1 (by decide)) (by decide +kernel) (fun r9 μ9 hq => ?_)
  obtain ⟨hμ9, rfl⟩ := hq
  rw [hμ9]
  clear hμ9 μ9
  show Z 0 14 [(2, .int 1), (1, .int 0), (0, .ref 0)] [.ref 26] μ
  refine zq_gfi hc hH (by rfl) (ci := 1) (f := 4) (by rfl) (by decide +kernel) (by rfl) ?_
  refine z_rcs hc hH 2 (pc' := 19) (lv' := [(2, .int 1), (1, .int 0), (0, .ref 0)]) (st' := [.int 0, .ref 0, .int (μ.1 26 4)]) (μ' := μ) (by rfl) ?_
  refine zq_call hc (z_cx_ok hH (by rfl)) (gc_at d' (by omega) μ 0 (by decide)) (by decide +kernel) (fun r9 μ9 hq => ?_)
  obtain ⟨hμ9, rfl⟩ := hq
  rw [hμ9]
  clear hμ9 μ9
  show Z 0 22 [(2, .int 1), (1, .int 0), (0, .ref 0)] [.ref 18, .int (μ.1 26 4)] μ
  refine zq_gfi hc hH (by rfl) (ci := 1) (f := 4) (by rfl) (by decide +kernel) (by rfl) ?_
  refine zq_ic hc hH (by rfl) (tg := 30) (by rfl) (fun h1 => ?_) (fun h1 => ?_)
  · have h1 : (decide ((μ.1 26 4) ≤ (μ.1 18 4))) = true := decide_eq_true (cm_le.mp h1)
    refine z_rcs hc hH 7 (pc' := 11) (lv' := [(2, .int 2), (1, .int 0), (0, .ref 0)]) (st' := [.int 2, .ref 0]) (μ' := μ) (by rfl) ?_
    refine zq_call hc (z_cx_ok hH (by rfl)) (gc_at d' (by omega) μ 2 (by decide)) (by decide +kernel) (fun r9 μ9 hq => ?_)
    obtain ⟨hμ9, rfl⟩ := hq
    rw [hμ9]
    clear hμ9 μ9
    show Z 0 14 [(2, .int 2), (1, .int 0), (0, .ref 0)] [.ref 34] μ
    refine zq_gfi hc hH (by rfl) (ci := 1) (f := 4) (by rfl) (by decide +kernel) (by rfl) ?_
    refine z_rcs hc hH 2 (pc' := 19) (lv' := [(2, .int 2), (1, .int 0), (0, .ref 0)]) (st' := [.int 0, .ref 0, .int (μ.1 34 4)]) (μ' := μ) (by rfl) ?_
    refine zq_call hc (z_cx_ok hH (by rfl)) (gc_at d' (by omega) μ 0 (by decide)) (by decide +kernel) (fun r9 μ9 hq => ?_)
    obtain ⟨hμ9, rfl⟩ := hq
    rw [hμ9]
    clear hμ9 μ9
    show Z 0 22 [(2, .int 2), (1, .int 0), (0, .ref 0)] [.ref 18, .int (μ.1 34 4)] μ
    refine zq_gfi hc hH (by rfl) (ci := 1) (f := 4) (by rfl) (by decide +kernel) (by rfl) ?_
    refine zq_ic hc hH (by rfl) (tg := 30) (by rfl) (fun h2 => ?_) (fun h2 => ?_)
    · have h2 : (decide ((μ.1 34 4) ≤ (μ.1 18 4))) = true := decide_eq_true (cm_le.mp h2)
      refine z_rcs hc hH 7 (pc' := 11) (lv' := [(2, .int 3), (1, .int 0), (0, .ref 0)]) (st' := [.int 3, .ref 0]) (μ' := μ) (by rfl) ?_
      refine zq_call hc (z_cx_ok hH (by rfl)) (gc_at d' (by omega) μ 3 (by decide)) (by decide +kernel) (fun r9 μ9 hq => ?_)
      obtain ⟨hμ9, rfl⟩ := hq
      rw [hμ9]
      clear hμ9 μ9
      show Z 0 14 [(2, .int 3), (1, .int 0), (0, .ref 0)] [.ref 42] μ
      refine zq_gfi hc hH (by rfl) (ci := 1) (f := 4) (by rfl) (by decide +kernel) (by rfl) ?_
      refine z_rcs hc hH 2 (pc' := 19) (lv' := [(2, .int 3), (1, .int 0), (0, .ref 0)]) (st' := [.int 0, .ref 0, .int (μ.1 42 4)]) (μ' := μ) (by rfl) ?_
      refine zq_call hc (z_cx_ok hH (by rfl)) (gc_at d' (by omega) μ 0 (by decide)) (by decide +kernel) (fun r9 μ9 hq => ?_)
      obtain ⟨hμ9, rfl⟩ := hq
      rw [hμ9]
      clear hμ9 μ9
      show Z 0 22 [(2, .int 3), (1, .int 0), (0, .ref 0)] [.ref 18, .int (μ.1 42 4)] μ
      refine zq_gfi hc hH (by rfl) (ci := 1) (f := 4) (by rfl) (by decide +kernel) (by rfl) ?_
      refine zq_ic hc hH (by rfl) (tg := 30) (by rfl) (fun h3 => ?_) (fun h3 => ?_)
      · have h3 : (decide ((μ.1 42 4) ≤ (μ.1 18 4))) = true := decide_eq_true (cm_le.mp h3)
        refine z_rcs hc hH 6 (pc' := 37) (lv' := [(2, .int 4), (1, .int 0), (0, .ref 0)]) (st' := [.int 0]) (μ' := μ) (by rfl) ?_
        exact hr 0 37 _ _ _ (some (.int 0)) (by decide +kernel) (z_rx_ok hH (by rfl)) (⟨(by first | with_reducible rfl | (simp only [h1, h2, h3, cond_true, cond_false]; done) | rfl), (by simp only [h1, h2, h3, cond_true, cond_false])⟩)
      · have h3 : (decide ((μ.1 42 4) ≤ (μ.1 18 4))) = false := decide_eq_false (cn_le.mp h3)
        refine z_rcs hc hH 8 (pc' := 37) (lv' := [(2, .int 4), (1, .int 3), (0, .ref 0)]) (st' := [.int 3]) (μ' := μ) (by rfl) ?_
        exact hr 0 37 _ _ _ (some (.int 3)) (by decide +kernel) (z_rx_ok hH (by rfl)) (⟨(by first | with_reducible rfl | (simp only [h1, h2, h3, cond_true, cond_false]; done) | rfl), (by simp only [h1, h2, h3, cond_true, cond_false])⟩)
    · have h2 : (decide ((μ.1 34 4) ≤ (μ.1 18 4))) = false := decide_eq_false (cn_le.mp h2)
      refine z_rcs hc hH 9 (pc' := 11) (lv' := [(2, .int 3), (1, .int 2), (0, .ref 0)]) (st' := [.int 3, .ref 0]) (μ' := μ) (by rfl) ?_
      refine zq_call hc (z_cx_ok hH (by rfl)) (gc_at d' (by omega) μ 3 (by decide)) (by decide +kernel) (fun r9 μ9 hq => ?_)
      obtain ⟨hμ9, rfl⟩ := hq
      rw [hμ9]
      clear hμ9 μ9
      show Z 0 14 [(2, .int 3), (1, .int 2), (0, .ref 0)] [.ref 42] μ
      refine zq_gfi hc hH (by rfl) (ci := 1) (f := 4) (by rfl) (by decide +kernel) (by rfl) ?_
      refine z_rcs hc hH 2 (pc' := 19) (lv' := [(2, .int 3), (1, .int 2), (0, .ref 0)]) (st' := [.int 2, .ref 0, .int (μ.1 42 4)]) (μ' := μ) (by rfl) ?_
      refine zq_call hc (z_cx_ok hH (by rfl)) (gc_at d' (by omega) μ 2 (by decide)) (by decide +kernel) (fun r9 μ9 hq => ?_)
      obtain ⟨hμ9, rfl⟩ := hq
      rw [hμ9]
      clear hμ9 μ9
      show Z 0 22 [(2, .int 3), (1, .int 2), (0, .ref 0)] [.ref 34, .int (μ.1 42 4)] μ
      refine zq_gfi hc hH (by rfl) (ci := 1) (f := 4) (by rfl) (by decide +kernel) (by rfl) ?_
      refine zq_ic hc hH (by rfl) (tg := 30) (by rfl) (fun h4 => ?_) (fun h4 => ?_)
      · have h4 : (decide ((μ.1 42 4) ≤ (μ.1 34 4))) = true := decide_eq_true (cm_le.mp h4)
        refine z_rcs hc hH 6 (pc' := 37) (lv' := [(2, .int 4), (1, .int 2), (0, .ref 0)]) (st' := [.int 2]) (μ' := μ) (by rfl) ?_
        exact hr 0 37 _ _ _ (some (.int 2)) (by decide +kernel) (z_rx_ok hH (by rfl)) (⟨(by first | with_reducible rfl | (simp only [h1, h2, h4, cond_true, cond_false]; done) | rfl), (by simp only [h1, h2, h4, cond_true, cond_false])⟩)
      · have h4 : (decide ((μ.1 42 4) ≤ (μ.1 34 4))) = false := decide_eq_false (cn_le.mp h4)
        refine z_rcs hc hH 8 (pc' := 37) (lv' := [(2, .int 4), (1, .int 3), (0, .ref 0)]) (st' := [.int 3]) (μ' := μ) (by rfl) ?_
        exact hr 0 37 _ _ _ (some (.int 3)) (by decide +kernel) (z_rx_ok hH (by rfl)) (⟨(by first | with_reducible rfl | (simp only [h1, h2, h4, cond_true, cond_false]; done) | rfl), (by simp only [h1, h2, h4, cond_true, cond_false])⟩)
  · have h1 : (decide ((μ.1 26 4) ≤ (μ.1 18 4))) = false := decide_eq_false (cn_le.mp h1)
    refine z_rcs hc hH 9 (pc' := 11) (lv' := [(2, .int 2), (1, .int 1), (0, .ref 0)]) (st' := [.int 2, .ref 0]) (μ' := μ) (by rfl) ?_
    refine zq_call hc (z_cx_ok hH (by rfl)) (gc_at d' (by omega) μ 2 (by decide)) (by decide +kernel) (fun r9 μ9 hq => ?_)
    obtain ⟨hμ9, rfl⟩ := hq
    rw [hμ9]
    clear hμ9 μ9
    show Z 0 14 [(2, .int 2), (1, .int 1), (0, .ref 0)] [.ref 34] μ
    refine zq_gfi hc hH (by rfl) (ci := 1) (f := 4) (by rfl) (by decide +kernel) (by rfl) ?_
    refine z_rcs hc hH 2 (pc' := 19) (lv' := [(2, .int 2), (1, .int 1), (0, .ref 0)]) (st' := [.int 1, .ref 0, .int (μ.1 34 4)]) (μ' := μ) (by rfl) ?_
    refine zq_call hc (z_cx_ok hH (by rfl)) (gc_at d' (by omega) μ 1 (by decide)) (by decide +kernel) (fun r9 μ9 hq => ?_)
    obtain ⟨hμ9, rfl⟩ := hq
    rw [hμ9]
    clear hμ9 μ9
    show Z 0 22 [(2, .int 2), (1, .int 1), (0, .ref 0)] [.ref 26, .int (μ.1 34 4)] μ
    refine zq_gfi hc hH (by rfl) (ci := 1) (f := 4) (by rfl) (by decide +kernel) (by rfl) ?_
    refine zq_ic hc hH (by rfl) (tg := 30) (by rfl) (fun h5 => ?_) (fun h5 => ?_)
    · have h5 : (decide ((μ.1 34 4) ≤ (μ.1 26 4))) = true := decide_eq_true (cm_le.mp h5)
      refine z_rcs hc hH 7 (pc' := 11) (lv' := [(2, .int 3), (1, .int 1), (0, .ref 0)]) (st' := [.int 3, .ref 0]) (μ' := μ) (by rfl) ?_
      refine zq_call hc (z_cx_ok hH (by rfl)) (gc_at d' (by omega) μ 3 (by decide)) (by decide +kernel) (fun r9 μ9 hq => ?_)
      obtain ⟨hμ9, rfl⟩ := hq
      rw [hμ9]
      clear hμ9 μ9
      show Z 0 14 [(2, .int 3), (1, .int 1), (0, .ref 0)] [.ref 42] μ
      refine zq_gfi hc hH (by rfl) (ci := 1) (f := 4) (by rfl) (by decide +kernel) (by rfl) ?_
      refine z_rcs hc hH 2 (pc' := 19) (lv' := [(2, .int 3), (1, .int 1), (0, .ref 0)]) (st' := [.int 1, .ref 0, .int (μ.1 42 4)]) (μ' := μ) (by rfl) ?_
      refine zq_call hc (z_cx_ok hH (by rfl)) (gc_at d' (by omega) μ 1 (by decide)) (by decide +kernel) (fun r9 μ9 hq => ?_)
      obtain ⟨hμ9, rfl⟩ := hq
      rw [hμ9]
      clear hμ9 μ9
      show Z 0 22 [(2, .int 3), (1, .int 1), (0, .ref 0)] [.ref 26, .int (μ.1 42 4)] μ
      refine zq_gfi hc hH (by rfl) (ci := 1) (f := 4) (by rfl) (by decide +kernel) (by rfl) ?_
      refine zq_ic hc hH (by rfl) (tg := 30) (by rfl) (fun h6 => ?_) (fun h6 => ?_)
      · have h6 : (decide ((μ.1 42 4) ≤ (μ.1 26 4))) = true := decide_eq_true (cm_le.mp h6)
        refine z_rcs hc hH 6 (pc' := 37) (lv' := [(2, .int 4), (1, .int 1), (0, .ref 0)]) (st' := [.int 1]) (μ' := μ) (by rfl) ?_
        exact hr 0 37 _ _ _ (some (.int 1)) (by decide +kernel) (z_rx_ok hH (by rfl)) (⟨(by first | with_reducible rfl | (simp only [h1, h5, h6, cond_true, cond_false]; done) | rfl), (by simp only [h1, h5, h6, cond_true, cond_false])⟩)
      · have h6 : (decide ((μ.1 42 4) ≤ (μ.1 26 4))) = false := decide_eq_false (cn_le.mp h6)
        refine z_rcs hc hH 8 (pc' := 37) (lv' := [(2, .int 4), (1, .int 3), (0, .ref 0)]) (st' := [.int 3]) (μ' := μ) (by rfl) ?_
        exact hr 0 37 _ _ _ (some (.int 3)) (by decide +kernel) (z_rx_ok hH (by rfl)) (⟨(by first | with_reducible rfl | (simp only [h1, h5, h6, cond_true, cond_false]; done) | rfl), (by simp only [h1, h5, h6, cond_true, cond_false])⟩)
    · have h5 : (decide ((μ.1 34 4) ≤ (μ.1 26 4))) = false := decide_eq_false (cn_le.mp h5)
      refine z_rcs hc hH 9 (pc' := 11) (lv' := [(2, .int 3), (1, .int 2), (0, .ref 0)]) (st' := [.int 3, .ref 0]) (μ' := μ) (by rfl) ?_
      refine zq_call hc (z_cx_ok hH (by rfl)) (gc_at d' (by omega) μ 3 (by decide)) (by decide +kernel) (fun r9 μ9 hq => ?_)
      obtain ⟨hμ9, rfl⟩ := hq
      rw [hμ9]
      clear hμ9 μ9
      show Z 0 14 [(2, .int 3), (1, .int 2), (0, .ref 0)] [.ref 42] μ
      refine zq_gfi hc hH (by rfl) (ci := 1) (f := 4) (by rfl) (by decide +kernel) (by rfl) ?_
      refine z_rcs hc hH 2 (pc' := 19) (lv' := [(2, .int 3), (1, .int 2), (0, .ref 0)]) (st' := [.int 2, .ref 0, .int (μ.1 42 4)]) (μ' := μ) (by rfl) ?_
      refine zq_call hc (z_cx_ok hH (by rfl)) (gc_at d' (by omega) μ 2 (by decide)) (by decide +kernel) (fun r9 μ9 hq => ?_)
      obtain ⟨hμ9, rfl⟩ := hq
      rw [hμ9]
      clear hμ9 μ9
      show Z 0 22 [(2, .int 3), (1, .int 2), (0, .ref 0)] [.ref 34, .int (μ.1 42 4)] μ
      refine zq_gfi hc hH (by rfl) (ci := 1) (f := 4) (by rfl) (by decide +kernel) (by rfl) ?_
      refine zq_ic hc hH (by rfl) (tg := 30) (by rfl) (fun h7 => ?_) (fun h7 => ?_)
      · have h7 : (decide ((μ.1 42 4) ≤ (μ.1 34 4))) = true := decide_eq_true (cm_le.mp h7)
        refine z_rcs hc hH 6 (pc' := 37) (lv' := [(2, .int 4), (1, .int 2), (0, .ref 0)]) (st' := [.int 2]) (μ' := μ) (by rfl) ?_
        exact hr 0 37 _ _ _ (some (.int 2)) (by decide +kernel) (z_rx_ok hH (by rfl)) (⟨(by first | with_reducible rfl | (simp only [h1, h5, h7, cond_true, cond_false]; done) | rfl), (by simp only [h1, h5, h7, cond_true, cond_false])⟩)
      · have h7 : (decide ((μ.1 42 4) ≤ (μ.1 34 4))) = false := decide_eq_false (cn_le.mp h7)
        refine z_rcs hc hH 8 (pc' := 37) (lv' := [(2, .int 4), (1, .int 3), (0, .ref 0)]) (st' := [.int 3]) (μ' := μ) (by rfl) ?_
        exact hr 0 37 _ _ _ (some (.int 3)) (by decide +kernel) (z_rx_ok hH (by rfl)) (⟨(by first | with_reducible rfl | (simp only [h1, h5, h7, cond_true, cond_false]; done) | rfl), (by simp only [h1, h5, h7, cond_true, cond_false])⟩)
noncomputable def rcB (p0 p1 p2 p3 : Int32) : Nat := bif decide (p1 ≤ p0) then (bif decide (p2 ≤ p0) then (bif decide (p3 ≤ p0) then 0 else 3) else (bif decide (p3 ≤ p2) then 2 else 3)) else (bif decide (p2 ≤ p1) then (bif decide (p3 ≤ p1) then 1 else 3) else (bif decide (p3 ≤ p2) then 2 else 3))
theorem rcB_lt (p0 p1 p2 p3 : Int32) : rcB p0 p1 p2 p3 < 4 := by
  unfold rcB
  cases decide (p1 ≤ p0) <;> cases decide (p2 ≤ p0) <;> cases decide (p3 ≤ p0) <;> cases decide (p2 ≤ p1) <;> cases decide (p3 ≤ p1) <;> cases decide (p3 ≤ p2) <;> decide
noncomputable abbrev rcM (μ : zM) : Nat := rcB (μ.1 18 4) (μ.1 26 4) (μ.1 34 4) (μ.1 42 4)
theorem gc_rich (d : Nat) (hd : 2 ≤ d) (μ : zM) (b : Nat) (hb : rcM μ = b) : z_C d mi_X6_richest [.ref 0] μ (zR μ (.int (nI b))) := by
  refine z_C_mono (gc_richest d hd μ) (fun r μ' z => ⟨z.2, ?_⟩)
  rw [z.1, ← hb]
  show _ = some (Value.int (nI (rcB _ _ _ _)))
  unfold rcB
  cases decide (μ.1 26 4 ≤ μ.1 18 4) <;> cases decide (μ.1 34 4 ≤ μ.1 18 4) <;> cases decide (μ.1 42 4 ≤ μ.1 18 4) <;> cases decide (μ.1 34 4 ≤ μ.1 26 4) <;> cases decide (μ.1 42 4 ≤ μ.1 26 4) <;> cases decide (μ.1 42 4 ≤ μ.1 34 4) <;> rfl
noncomputable abbrev xBk (μ : zM) : Bool := !(decide (0 ≤ (μ.1 18 4))) || (!(decide (0 ≤ (μ.1 26 4))) || (!(decide (0 ≤ (μ.1 34 4))) || (!(decide (0 ≤ (μ.1 42 4))))))
theorem gc_brk (d : Nat) (hd : 2 ≤ d) (μ : zM) (b : Bool) (h : xBk μ = b) : z_C d mi_X6_someoneIsBroke [.ref 0] μ (zR μ (.int (nB b))) := by
  rw [← h]; exact gc_someoneIsBroke d hd μ
noncomputable def eH0 (μ : zM) (ow bk : Bool) (dl e b : Nat) : zM := (bif decide ((nI e) = 0) then (bif bk then z_ui (z_ui (z_ui (z_ui (z_ui μ 0 7 0) 0 14 ((μ.1 0 14) + 1)) 0 13 1) (18 + 8 * b) 4 ((μ.1 (18 + 8 * b) 4) + ((μ.1 0 12) * 1000))) 0 12 0 else (bif decide (((μ.1 0 10) + 1) ≤ 1) then (bif ow then z_ui (z_ui (z_ui (z_ui (z_ui μ 0 7 0) 0 14 ((μ.1 0 14) + 1)) 0 9 (nI e)) 0 10 ((μ.1 0 10) + 1)) 0 11 0 else z_ui (z_ui (z_ui (z_ui (z_ui μ 0 7 0) 0 14 ((μ.1 0 14) + 1)) 0 9 (nI e)) 0 10 ((μ.1 0 10) + 1)) 0 11 ((μ.1 0 11) + 1)) else z_ui (z_ui (z_ui (z_ui (z_ui μ 0 7 0) 0 14 ((μ.1 0 14) + 1)) 0 13 1) (18 + 8 * b) 4 ((μ.1 (18 + 8 * b) 4) + ((μ.1 0 12) * 1000))) 0 12 0)) else (bif bk then z_ui (z_ui (z_ui (z_ui (z_ui μ 0 7 0) 0 14 ((μ.1 0 14) + 1)) 0 13 1) (18 + 8 * b) 4 ((μ.1 (18 + 8 * b) 4) + ((μ.1 0 12) * 1000))) 0 12 0 else (bif decide ((μ.1 0 10) ≤ 1) then (bif ow then z_ui (z_ui (z_ui (z_ui (z_ui μ 0 7 0) 0 14 ((μ.1 0 14) + 1)) 0 9 (nI e)) 0 10 (μ.1 0 10)) 0 11 0 else z_ui (z_ui (z_ui (z_ui (z_ui μ 0 7 0) 0 14 ((μ.1 0 14) + 1)) 0 9 (nI e)) 0 10 (μ.1 0 10)) 0 11 ((μ.1 0 11) + 1)) else z_ui (z_ui (z_ui (z_ui (z_ui μ 0 7 0) 0 14 ((μ.1 0 14) + 1)) 0 13 1) (18 + 8 * b) 4 ((μ.1 (18 + 8 * b) 4) + ((μ.1 0 12) * 1000))) 0 12 0)))
theorem gc_endHand0 (d : Nat) (hd : 3 ≤ d) (μ : zM) (ow bk : Bool) (dl e b : Nat) (hbk : xBk μ = bk) (hdl : μ.1 0 9 = nI dl) (hdl4 : dl < 4) (he : (dl + 1) % 4 = e) (hb4 : b < 4) (hb : rcM μ = b) : z_C d mi_X6_endHand [.ref 0, .int 0, .int (nB ow)] μ (fun r μ' => r = none ∧ μ' = eH0 μ ow bk dl e b) := by
  refine z_C_in (by decide) (by omega) (fun d' Z ed hc hr => ?_)
  have hH : zH mi_X6_endHand zt_X6_endHand 79 6 5 := hh_X6_endHand
  refine z_rcs hc hH 2 (pc' := 2) (lv' := [(0, .ref 0), (1, .int 0), (2, .int (nB ow))]) (st' := [.int 0, .ref 0]) (μ' := μ) (by rfl) ?_
  refine zq_pfi hc hH (by rfl) (ci := 5) (f := 7) (by rfl) (by decide +kernel) (by rfl) ?_
  show Z 0 5 [(0, .ref 0), (1, .int 0), (2, .int (nB ow))] [] (z_ui μ 0 7 0)
  refine z_rcs hc hH 2 (pc' := 7) (lv' := [(0, .ref 0), (1, .int 0), (2, .int (nB ow))]) (st' := [.ref 0, .ref 0]) (μ' := z_ui μ 0 7 0) (by rfl) ?_
  refine zq_gfi hc hH (by rfl) (ci := 5) (f := 14) (by rfl) (by decide +kernel) (by rfl) ?_
  refine zV1 (Z := Z) (ui_k (by first | decide | omega)) ?_
  refine z_rcs hc hH 2 (pc' := 12) (lv' := [(0, .ref 0), (1, .int 0), (2, .int (nB ow))]) (st' := [.int ((μ.1 0 14) + 1), .ref 0]) (μ' := z_ui μ 0 7 0) (by rfl) ?_
  refine zq_pfi hc hH (by rfl) (ci := 5) (f := 14) (by rfl) (by decide +kernel) (by rfl) ?_
  show Z 0 15 [(0, .ref 0), (1, .int 0), (2, .int (nB ow))] [] (z_ui (z_ui μ 0 7 0) 0 14 ((μ.1 0 14) + 1))
  refine z_rcs0 hc hH 3 (pc' := 27) (lv' := [(0, .ref 0), (1, .int 0), (2, .int (nB ow))]) (st' := [.ref 0]) (by rfl) ?_
  refine zq_gfi hc hH (by rfl) (ci := 5) (f := 9) (by rfl) (by decide +kernel) (by rfl) ?_
  refine zV1 (Z := Z) (Eq.trans (ui_k (by first | decide | omega)) (ui_k (by first | decide | omega))) ?_
  rw [hdl]
  refine z_rcs0 hc hH 2 (pc' := 32) (lv' := [(0, .ref 0), (1, .int 0), (2, .int (nB ow))]) (st' := [.int ((nI dl) + 1)]) (by rfl) ?_
  rw [nI_s1]
  refine z_rcs0 hc hH 2 (pc' := 34) (lv' := [(0, .ref 0), (1, .int 0), (2, .int (nB ow))]) (st' := [.int ((nI (dl + 1)) &&& 3)]) (by rfl) ?_
  rw [show nI (dl + 1) &&& 3 = nI e from by rw [and3 (by omega), he]]
  refine z_rcs0 hc hH 4 (pc' := 40) (lv' := [(3, .int (nI e)), (0, .ref 0), (1, .int 0), (2, .int (nB ow))]) (st' := [.int (nI e)]) (by rfl) ?_
  refine zq_if hc hH (by rfl) (tg := 52) (by rfl) (fun h1 => ?_) (fun h1 => ?_)
  · have h1 : (decide ((nI e) = 0)) = false := decide_eq_false (cm_ne.mp h1)
    refine z_rcs0 hc hH 1 (pc' := 53) (lv' := [(3, .int (nI e)), (0, .ref 0), (1, .int 0), (2, .int (nB ow))]) (st' := [.ref 0]) (by rfl) ?_
    refine zq_gfi hc hH (by rfl) (ci := 5) (f := 10) (by rfl) (by decide +kernel) (by rfl) ?_
    refine zV1 (Z := Z) (Eq.trans (ui_k (by first | decide | omega)) (ui_k (by first | decide | omega))) ?_
    refine z_rcs0 hc hH 2 (pc' := 59) (lv' := [(4, .int (μ.1 0 10)), (3, .int (nI e)), (0, .ref 0), (1, .int 0), (2, .int (nB ow))]) (st' := [.ref 0]) (by rfl) ?_
    refine zq_call hc (z_cx_ok hH (by rfl)) (gc_brk d' (by omega) (z_ui (z_ui μ 0 7 0) 0 14 ((μ.1 0 14) + 1)) bk hbk) (by decide +kernel) (fun r9 μ9 hq => ?_)
    obtain ⟨hμ9, rfl⟩ := hq
    rw [hμ9]
    clear hμ9 μ9
    show Z 0 62 [(4, .int (μ.1 0 10)), (3, .int (nI e)), (0, .ref 0), (1, .int 0), (2, .int (nB ow))] [.int (nB bk)] _
    refine zq_if hc hH (by rfl) (tg := 71) (by rfl) (fun h2 => ?_) (fun h2 => ?_)
    · have h2 : (bk) = true := nB_n.mp (cm_ne.mp h2)
      refine z_rcs0 hc hH 2 (pc' := 73) (lv' := [(4, .int (μ.1 0 10)), (3, .int (nI e)), (0, .ref 0), (1, .int 0), (2, .int (nB ow))]) (st' := [.int 1, .ref 0]) (by rfl) ?_
      refine zq_pfb hc hH (by rfl) (ci := 5) (f := 13) (by rfl) (by decide +kernel) (by rfl) (by decide) ?_
      show Z 0 76 [(4, .int (μ.1 0 10)), (3, .int (nI e)), (0, .ref 0), (1, .int 0), (2, .int (nB ow))] [] (z_ui (z_ui (z_ui μ 0 7 0) 0 14 ((μ.1 0 14) + 1)) 0 13 1)
      refine z_rcs0 hc hH 2 (pc' := 78) (lv' := [(4, .int (μ.1 0 10)), (3, .int (nI e)), (0, .ref 0), (1, .int 0), (2, .int (nB ow))]) (st' := [.ref 0, .ref 0]) (by rfl) ?_
      refine zq_call hc (z_cx_ok hH (by rfl)) (gc_rich d' (by omega) (z_ui (z_ui (z_ui μ 0 7 0) 0 14 ((μ.1 0 14) + 1)) 0 13 1) b hb) (by decide +kernel) (fun r9 μ9 hq => ?_)
      obtain ⟨hμ9, rfl⟩ := hq
      rw [hμ9]
      clear hμ9 μ9
      show Z 0 81 [(4, .int (μ.1 0 10)), (3, .int (nI e)), (0, .ref 0), (1, .int 0), (2, .int (nB ow))] [.int (nI b), .ref 0] _
      refine zq_call hc (z_cx_ok hH (by rfl)) (gc_at4 d' (by omega) (z_ui (z_ui (z_ui μ 0 7 0) 0 14 ((μ.1 0 14) + 1)) 0 13 1) b hb4) (by decide +kernel) (fun r9 μ9 hq => ?_)
      obtain ⟨hμ9, rfl⟩ := hq
      rw [hμ9]
      clear hμ9 μ9
      show Z 0 84 [(4, .int (μ.1 0 10)), (3, .int (nI e)), (0, .ref 0), (1, .int 0), (2, .int (nB ow))] [.ref (18 + 8 * b)] _
      refine z_rcs0 hc hH 1 (pc' := 85) (lv' := [(4, .int (μ.1 0 10)), (3, .int (nI e)), (0, .ref 0), (1, .int 0), (2, .int (nB ow))]) (st' := [.ref (18 + 8 * b), .ref (18 + 8 * b)]) (by rfl) ?_
      refine zq_gfi hc hH (by rfl) (ci := 1) (f := 4) (by rfl) (sj (P := fun i => okf 79 1 4 (18 + 8 * i)) hb4 (by decide +kernel)) (by rfl) ?_
      refine zV1 (Z := Z) (Eq.trans (ui_o (by first | decide | omega)) (Eq.trans (ui_o (by first | decide | omega)) (ui_o (by first | decide | omega)))) ?_
      refine z_rcs0 hc hH 1 (pc' := 89) (lv' := [(4, .int (μ.1 0 10)), (3, .int (nI e)), (0, .ref 0), (1, .int 0), (2, .int (nB ow))]) (st' := [.ref 0, .int (μ.1 (18 + 8 * b) 4), .ref (18 + 8 * b)]) (by rfl) ?_
      refine zq_gfi hc hH (by rfl) (ci := 5) (f := 12) (by rfl) (by decide +kernel) (by rfl) ?_
      refine zV1 (Z := Z) (Eq.trans (ui_k (by first | decide | omega)) (Eq.trans (ui_k (by first | decide | omega)) (ui_k (by first | decide | omega)))) ?_
      refine z_rcs0 hc hH 3 (pc' := 97) (lv' := [(4, .int (μ.1 0 10)), (3, .int (nI e)), (0, .ref 0), (1, .int 0), (2, .int (nB ow))]) (st' := [.int ((μ.1 (18 + 8 * b) 4) + ((μ.1 0 12) * 1000)), .ref (18 + 8 * b)]) (by rfl) ?_
      refine zq_pfi hc hH (by rfl) (ci := 1) (f := 4) (by rfl) (sj (P := fun i => okf 79 1 4 (18 + 8 * i)) hb4 (by decide +kernel)) (by rfl) ?_
      show Z 0 100 [(4, .int (μ.1 0 10)), (3, .int (nI e)), (0, .ref 0), (1, .int 0), (2, .int (nB ow))] [] (z_ui (z_ui (z_ui (z_ui μ 0 7 0) 0 14 ((μ.1 0 14) + 1)) 0 13 1) (18 + 8 * b) 4 ((μ.1 (18 + 8 * b) 4) + ((μ.1 0 12) * 1000)))
      refine z_rcs0 hc hH 2 (pc' := 102) (lv' := [(4, .int (μ.1 0 10)), (3, .int (nI e)), (0, .ref 0), (1, .int 0), (2, .int (nB ow))]) (st' := [.int 0, .ref 0]) (by rfl) ?_
      refine zq_pfi hc hH (by rfl) (ci := 5) (f := 12) (by rfl) (by decide +kernel) (by rfl) ?_
      show Z 0 105 [(4, .int (μ.1 0 10)), (3, .int (nI e)), (0, .ref 0), (1, .int 0), (2, .int (nB ow))] [] (z_ui (z_ui (z_ui (z_ui (z_ui μ 0 7 0) 0 14 ((μ.1 0 14) + 1)) 0 13 1) (18 + 8 * b) 4 ((μ.1 (18 + 8 * b) 4) + ((μ.1 0 12) * 1000))) 0 12 0)
      exact hr 0 105 _ _ _ none (by decide +kernel) (by rfl) (⟨rfl, (by unfold eH0; simp only [h1, h2, cond_true, cond_false])⟩)
    · have h2 : (bk) = false := nB_z.mp (cn_ne.mp h2)
      refine z_rcs hc hH 2 (pc' := 68) (lv' := [(4, .int (μ.1 0 10)), (3, .int (nI e)), (0, .ref 0), (1, .int 0), (2, .int (nB ow))]) (st' := [.int 1, .int (μ.1 0 10)]) (μ' := z_ui (z_ui μ 0 7 0) 0 14 ((μ.1 0 14) + 1)) (by rfl) ?_
      refine zq_ic hc hH (by rfl) (tg := 106) (by rfl) (fun h3 => ?_) (fun h3 => ?_)
      · have h3 : (decide ((μ.1 0 10) ≤ 1)) = true := decide_eq_true (cm_le.mp h3)
        refine z_rcs0 hc hH 2 (pc' := 108) (lv' := [(4, .int (μ.1 0 10)), (3, .int (nI e)), (0, .ref 0), (1, .int 0), (2, .int (nB ow))]) (st' := [.int (nI e), .ref 0]) (by rfl) ?_
        refine zq_pfi hc hH (by rfl) (ci := 5) (f := 9) (by rfl) (by decide +kernel) (by rfl) ?_
        show Z 0 111 [(4, .int (μ.1 0 10)), (3, .int (nI e)), (0, .ref 0), (1, .int 0), (2, .int (nB ow))] [] (z_ui (z_ui (z_ui μ 0 7 0) 0 14 ((μ.1 0 14) + 1)) 0 9 (nI e))
        refine z_rcs0 hc hH 2 (pc' := 114) (lv' := [(4, .int (μ.1 0 10)), (3, .int (nI e)), (0, .ref 0), (1, .int 0), (2, .int (nB ow))]) (st' := [.int (μ.1 0 10), .ref 0]) (by rfl) ?_
        refine zq_pfi hc hH (by rfl) (ci := 5) (f := 10) (by rfl) (by decide +kernel) (by rfl) ?_
        show Z 0 117 [(4, .int (μ.1 0 10)), (3, .int (nI e)), (0, .ref 0), (1, .int 0), (2, .int (nB ow))] [] (z_ui (z_ui (z_ui (z_ui μ 0 7 0) 0 14 ((μ.1 0 14) + 1)) 0 9 (nI e)) 0 10 (μ.1 0 10))
        refine z_rcs0 hc hH 2 (pc' := 119) (lv' := [(4, .int (μ.1 0 10)), (3, .int (nI e)), (0, .ref 0), (1, .int 0), (2, .int (nB ow))]) (st' := [.int (nB ow), .ref 0]) (by rfl) ?_
        refine zq_if hc hH (by rfl) (tg := 126) (by rfl) (fun h4 => ?_) (fun h4 => ?_)
        · have h4 : (ow) = false := nB_z.mp (cm_eq9.mp h4)
          refine z_rcs0 hc hH 1 (pc' := 127) (lv' := [(4, .int (μ.1 0 10)), (3, .int (nI e)), (0, .ref 0), (1, .int 0), (2, .int (nB ow))]) (st' := [.ref 0, .ref 0]) (by rfl) ?_
          refine zq_gfi hc hH (by rfl) (ci := 5) (f := 11) (by rfl) (by decide +kernel) (by rfl) ?_
          refine zV1 (Z := Z) (Eq.trans (ui_k (by first | decide | omega)) (Eq.trans (ui_k (by first | decide | omega)) (Eq.trans (ui_k (by first | decide | omega)) (ui_k (by first | decide | omega))))) ?_
          refine z_rcs0 hc hH 2 (pc' := 132) (lv' := [(4, .int (μ.1 0 10)), (3, .int (nI e)), (0, .ref 0), (1, .int 0), (2, .int (nB ow))]) (st' := [.int ((μ.1 0 11) + 1), .ref 0]) (by rfl) ?_
          refine zq_pfi hc hH (by rfl) (ci := 5) (f := 11) (by rfl) (by decide +kernel) (by rfl) ?_
          show Z 0 135 [(4, .int (μ.1 0 10)), (3, .int (nI e)), (0, .ref 0), (1, .int 0), (2, .int (nB ow))] [] (z_ui (z_ui (z_ui (z_ui (z_ui μ 0 7 0) 0 14 ((μ.1 0 14) + 1)) 0 9 (nI e)) 0 10 (μ.1 0 10)) 0 11 ((μ.1 0 11) + 1))
          exact hr 0 135 _ _ _ none (by decide +kernel) (by rfl) (⟨rfl, (by unfold eH0; simp only [h1, h2, h3, h4, cond_true, cond_false])⟩)
        · have h4 : (ow) = true := nB_n.mp (cn_eq.mp h4)
          refine z_rcs hc hH 2 (pc' := 132) (lv' := [(4, .int (μ.1 0 10)), (3, .int (nI e)), (0, .ref 0), (1, .int 0), (2, .int (nB ow))]) (st' := [.int 0, .ref 0]) (μ' := z_ui (z_ui (z_ui (z_ui μ 0 7 0) 0 14 ((μ.1 0 14) + 1)) 0 9 (nI e)) 0 10 (μ.1 0 10)) (by rfl) ?_
          refine zq_pfi hc hH (by rfl) (ci := 5) (f := 11) (by rfl) (by decide +kernel) (by rfl) ?_
          show Z 0 135 [(4, .int (μ.1 0 10)), (3, .int (nI e)), (0, .ref 0), (1, .int 0), (2, .int (nB ow))] [] (z_ui (z_ui (z_ui (z_ui (z_ui μ 0 7 0) 0 14 ((μ.1 0 14) + 1)) 0 9 (nI e)) 0 10 (μ.1 0 10)) 0 11 0)
          exact hr 0 135 _ _ _ none (by decide +kernel) (by rfl) (⟨rfl, (by unfold eH0; simp only [h1, h2, h3, h4, cond_true, cond_false])⟩)
      · have h3 : (decide ((μ.1 0 10) ≤ 1)) = false := decide_eq_false (cn_le.mp h3)
        refine z_rcs hc hH 2 (pc' := 73) (lv' := [(4, .int (μ.1 0 10)), (3, .int (nI e)), (0, .ref 0), (1, .int 0), (2, .int (nB ow))]) (st' := [.int 1, .ref 0]) (μ' := z_ui (z_ui μ 0 7 0) 0 14 ((μ.1 0 14) + 1)) (by rfl) ?_
        refine zq_pfb hc hH (by rfl) (ci := 5) (f := 13) (by rfl) (by decide +kernel) (by rfl) (by decide) ?_
        show Z 0 76 [(4, .int (μ.1 0 10)), (3, .int (nI e)), (0, .ref 0), (1, .int 0), (2, .int (nB ow))] [] (z_ui (z_ui (z_ui μ 0 7 0) 0 14 ((μ.1 0 14) + 1)) 0 13 1)
        refine z_rcs0 hc hH 2 (pc' := 78) (lv' := [(4, .int (μ.1 0 10)), (3, .int (nI e)), (0, .ref 0), (1, .int 0), (2, .int (nB ow))]) (st' := [.ref 0, .ref 0]) (by rfl) ?_
        refine zq_call hc (z_cx_ok hH (by rfl)) (gc_rich d' (by omega) (z_ui (z_ui (z_ui μ 0 7 0) 0 14 ((μ.1 0 14) + 1)) 0 13 1) b hb) (by decide +kernel) (fun r9 μ9 hq => ?_)
        obtain ⟨hμ9, rfl⟩ := hq
        rw [hμ9]
        clear hμ9 μ9
        show Z 0 81 [(4, .int (μ.1 0 10)), (3, .int (nI e)), (0, .ref 0), (1, .int 0), (2, .int (nB ow))] [.int (nI b), .ref 0] _
        refine zq_call hc (z_cx_ok hH (by rfl)) (gc_at4 d' (by omega) (z_ui (z_ui (z_ui μ 0 7 0) 0 14 ((μ.1 0 14) + 1)) 0 13 1) b hb4) (by decide +kernel) (fun r9 μ9 hq => ?_)
        obtain ⟨hμ9, rfl⟩ := hq
        rw [hμ9]
        clear hμ9 μ9
        show Z 0 84 [(4, .int (μ.1 0 10)), (3, .int (nI e)), (0, .ref 0), (1, .int 0), (2, .int (nB ow))] [.ref (18 + 8 * b)] _
        refine z_rcs0 hc hH 1 (pc' := 85) (lv' := [(4, .int (μ.1 0 10)), (3, .int (nI e)), (0, .ref 0), (1, .int 0), (2, .int (nB ow))]) (st' := [.ref (18 + 8 * b), .ref (18 + 8 * b)]) (by rfl) ?_
        refine zq_gfi hc hH (by rfl) (ci := 1) (f := 4) (by rfl) (sj (P := fun i => okf 79 1 4 (18 + 8 * i)) hb4 (by decide +kernel)) (by rfl) ?_
        refine zV1 (Z := Z) (Eq.trans (ui_o (by first | decide | omega)) (Eq.trans (ui_o (by first | decide | omega)) (ui_o (by first | decide | omega)))) ?_
        refine z_rcs0 hc hH 1 (pc' := 89) (lv' := [(4, .int (μ.1 0 10)), (3, .int (nI e)), (0, .ref 0), (1, .int 0), (2, .int (nB ow))]) (st' := [.ref 0, .int (μ.1 (18 + 8 * b) 4), .ref (18 + 8 * b)]) (by rfl) ?_
        refine zq_gfi hc hH (by rfl) (ci := 5) (f := 12) (by rfl) (by decide +kernel) (by rfl) ?_
        refine zV1 (Z := Z) (Eq.trans (ui_k (by first | decide | omega)) (Eq.trans (ui_k (by first | decide | omega)) (ui_k (by first | decide | omega)))) ?_
        refine z_rcs0 hc hH 3 (pc' := 97) (lv' := [(4, .int (μ.1 0 10)), (3, .int (nI e)), (0, .ref 0), (1, .int 0), (2, .int (nB ow))]) (st' := [.int ((μ.1 (18 + 8 * b) 4) + ((μ.1 0 12) * 1000)), .ref (18 + 8 * b)]) (by rfl) ?_
        refine zq_pfi hc hH (by rfl) (ci := 1) (f := 4) (by rfl) (sj (P := fun i => okf 79 1 4 (18 + 8 * i)) hb4 (by decide +kernel)) (by rfl) ?_
        show Z 0 100 [(4, .int (μ.1 0 10)), (3, .int (nI e)), (0, .ref 0), (1, .int 0), (2, .int (nB ow))] [] (z_ui (z_ui (z_ui (z_ui μ 0 7 0) 0 14 ((μ.1 0 14) + 1)) 0 13 1) (18 + 8 * b) 4 ((μ.1 (18 + 8 * b) 4) + ((μ.1 0 12) * 1000)))
        refine z_rcs0 hc hH 2 (pc' := 102) (lv' := [(4, .int (μ.1 0 10)), (3, .int (nI e)), (0, .ref 0), (1, .int 0), (2, .int (nB ow))]) (st' := [.int 0, .ref 0]) (by rfl) ?_
        refine zq_pfi hc hH (by rfl) (ci := 5) (f := 12) (by rfl) (by decide +kernel) (by rfl) ?_
        show Z 0 105 [(4, .int (μ.1 0 10)), (3, .int (nI e)), (0, .ref 0), (1, .int 0), (2, .int (nB ow))] [] (z_ui (z_ui (z_ui (z_ui (z_ui μ 0 7 0) 0 14 ((μ.1 0 14) + 1)) 0 13 1) (18 + 8 * b) 4 ((μ.1 (18 + 8 * b) 4) + ((μ.1 0 12) * 1000))) 0 12 0)
        exact hr 0 105 _ _ _ none (by decide +kernel) (by rfl) (⟨rfl, (by unfold eH0; simp only [h1, h2, h3, cond_true, cond_false])⟩)
  · have h1 : (decide ((nI e) = 0)) = true := decide_eq_true (cn_ne.mp h1)
    refine z_rcs hc hH 1 (pc' := 44) (lv' := [(3, .int (nI e)), (0, .ref 0), (1, .int 0), (2, .int (nB ow))]) (st' := [.ref 0]) (μ' := z_ui (z_ui μ 0 7 0) 0 14 ((μ.1 0 14) + 1)) (by rfl) ?_
    refine zq_gfi hc hH (by rfl) (ci := 5) (f := 10) (by rfl) (by decide +kernel) (by rfl) ?_
    refine zV1 (Z := Z) (Eq.trans (ui_k (by first | decide | omega)) (ui_k (by first | decide | omega))) ?_
    refine z_rcs0 hc hH 5 (pc' := 59) (lv' := [(4, .int ((μ.1 0 10) + 1)), (3, .int (nI e)), (0, .ref 0), (1, .int 0), (2, .int (nB ow))]) (st' := [.ref 0]) (by rfl) ?_
    refine zq_call hc (z_cx_ok hH (by rfl)) (gc_brk d' (by omega) (z_ui (z_ui μ 0 7 0) 0 14 ((μ.1 0 14) + 1)) bk hbk) (by decide +kernel) (fun r9 μ9 hq => ?_)
    obtain ⟨hμ9, rfl⟩ := hq
    rw [hμ9]
    clear hμ9 μ9
    show Z 0 62 [(4, .int ((μ.1 0 10) + 1)), (3, .int (nI e)), (0, .ref 0), (1, .int 0), (2, .int (nB ow))] [.int (nB bk)] _
    refine zq_if hc hH (by rfl) (tg := 71) (by rfl) (fun h5 => ?_) (fun h5 => ?_)
    · have h5 : (bk) = true := nB_n.mp (cm_ne.mp h5)
      refine z_rcs0 hc hH 2 (pc' := 73) (lv' := [(4, .int ((μ.1 0 10) + 1)), (3, .int (nI e)), (0, .ref 0), (1, .int 0), (2, .int (nB ow))]) (st' := [.int 1, .ref 0]) (by rfl) ?_
      refine zq_pfb hc hH (by rfl) (ci := 5) (f := 13) (by rfl) (by decide +kernel) (by rfl) (by decide) ?_
      show Z 0 76 [(4, .int ((μ.1 0 10) + 1)), (3, .int (nI e)), (0, .ref 0), (1, .int 0), (2, .int (nB ow))] [] (z_ui (z_ui (z_ui μ 0 7 0) 0 14 ((μ.1 0 14) + 1)) 0 13 1)
      refine z_rcs0 hc hH 2 (pc' := 78) (lv' := [(4, .int ((μ.1 0 10) + 1)), (3, .int (nI e)), (0, .ref 0), (1, .int 0), (2, .int (nB ow))]) (st' := [.ref 0, .ref 0]) (by rfl) ?_
      refine zq_call hc (z_cx_ok hH (by rfl)) (gc_rich d' (by omega) (z_ui (z_ui (z_ui μ 0 7 0) 0 14 ((μ.1 0 14) + 1)) 0 13 1) b hb) (by decide +kernel) (fun r9 μ9 hq => ?_)
      obtain ⟨hμ9, rfl⟩ := hq
      rw [hμ9]
      clear hμ9 μ9
      show Z 0 81 [(4, .int ((μ.1 0 10) + 1)), (3, .int (nI e)), (0, .ref 0), (1, .int 0), (2, .int (nB ow))] [.int (nI b), .ref 0] _
      refine zq_call hc (z_cx_ok hH (by rfl)) (gc_at4 d' (by omega) (z_ui (z_ui (z_ui μ 0 7 0) 0 14 ((μ.1 0 14) + 1)) 0 13 1) b hb4) (by decide +kernel) (fun r9 μ9 hq => ?_)
      obtain ⟨hμ9, rfl⟩ := hq
      rw [hμ9]
      clear hμ9 μ9
      show Z 0 84 [(4, .int ((μ.1 0 10) + 1)), (3, .int (nI e)), (0, .ref 0), (1, .int 0), (2, .int (nB ow))] [.ref (18 + 8 * b)] _
      refine z_rcs0 hc hH 1 (pc' := 85) (lv' := [(4, .int ((μ.1 0 10) + 1)), (3, .int (nI e)), (0, .ref 0), (1, .int 0), (2, .int (nB ow))]) (st' := [.ref (18 + 8 * b), .ref (18 + 8 * b)]) (by rfl) ?_
      refine zq_gfi hc hH (by rfl) (ci := 1) (f := 4) (by rfl) (sj (P := fun i => okf 79 1 4 (18 + 8 * i)) hb4 (by decide +kernel)) (by rfl) ?_
      refine zV1 (Z := Z) (Eq.trans (ui_o (by first | decide | omega)) (Eq.trans (ui_o (by first | decide | omega)) (ui_o (by first | decide | omega)))) ?_
      refine z_rcs0 hc hH 1 (pc' := 89) (lv' := [(4, .int ((μ.1 0 10) + 1)), (3, .int (nI e)), (0, .ref 0), (1, .int 0), (2, .int (nB ow))]) (st' := [.ref 0, .int (μ.1 (18 + 8 * b) 4), .ref (18 + 8 * b)]) (by rfl) ?_
      refine zq_gfi hc hH (by rfl) (ci := 5) (f := 12) (by rfl) (by decide +kernel) (by rfl) ?_
      refine zV1 (Z := Z) (Eq.trans (ui_k (by first | decide | omega)) (Eq.trans (ui_k (by first | decide | omega)) (ui_k (by first | decide | omega)))) ?_
      refine z_rcs0 hc hH 3 (pc' := 97) (lv' := [(4, .int ((μ.1 0 10) + 1)), (3, .int (nI e)), (0, .ref 0), (1, .int 0), (2, .int (nB ow))]) (st' := [.int ((μ.1 (18 + 8 * b) 4) + ((μ.1 0 12) * 1000)), .ref (18 + 8 * b)]) (by rfl) ?_
      refine zq_pfi hc hH (by rfl) (ci := 1) (f := 4) (by rfl) (sj (P := fun i => okf 79 1 4 (18 + 8 * i)) hb4 (by decide +kernel)) (by rfl) ?_
      show Z 0 100 [(4, .int ((μ.1 0 10) + 1)), (3, .int (nI e)), (0, .ref 0), (1, .int 0), (2, .int (nB ow))] [] (z_ui (z_ui (z_ui (z_ui μ 0 7 0) 0 14 ((μ.1 0 14) + 1)) 0 13 1) (18 + 8 * b) 4 ((μ.1 (18 + 8 * b) 4) + ((μ.1 0 12) * 1000)))
      refine z_rcs0 hc hH 2 (pc' := 102) (lv' := [(4, .int ((μ.1 0 10) + 1)), (3, .int (nI e)), (0, .ref 0), (1, .int 0), (2, .int (nB ow))]) (st' := [.int 0, .ref 0]) (by rfl) ?_
      refine zq_pfi hc hH (by rfl) (ci := 5) (f := 12) (by rfl) (by decide +kernel) (by rfl) ?_
      show Z 0 105 [(4, .int ((μ.1 0 10) + 1)), (3, .int (nI e)), (0, .ref 0), (1, .int 0), (2, .int (nB ow))] [] (z_ui (z_ui (z_ui (z_ui (z_ui μ 0 7 0) 0 14 ((μ.1 0 14) + 1)) 0 13 1) (18 + 8 * b) 4 ((μ.1 (18 + 8 * b) 4) + ((μ.1 0 12) * 1000))) 0 12 0)
      exact hr 0 105 _ _ _ none (by decide +kernel) (by rfl) (⟨rfl, (by unfold eH0; simp only [h1, h5, cond_true, cond_false])⟩)
    · have h5 : (bk) = false := nB_z.mp (cn_ne.mp h5)
      refine z_rcs hc hH 2 (pc' := 68) (lv' := [(4, .int ((μ.1 0 10) + 1)), (3, .int (nI e)), (0, .ref 0), (1, .int 0), (2, .int (nB ow))]) (st' := [.int 1, .int ((μ.1 0 10) + 1)]) (μ' := z_ui (z_ui μ 0 7 0) 0 14 ((μ.1 0 14) + 1)) (by rfl) ?_
      refine zq_ic hc hH (by rfl) (tg := 106) (by rfl) (fun h6 => ?_) (fun h6 => ?_)
      · have h6 : (decide (((μ.1 0 10) + 1) ≤ 1)) = true := decide_eq_true (cm_le.mp h6)
        refine z_rcs0 hc hH 2 (pc' := 108) (lv' := [(4, .int ((μ.1 0 10) + 1)), (3, .int (nI e)), (0, .ref 0), (1, .int 0), (2, .int (nB ow))]) (st' := [.int (nI e), .ref 0]) (by rfl) ?_
        refine zq_pfi hc hH (by rfl) (ci := 5) (f := 9) (by rfl) (by decide +kernel) (by rfl) ?_
        show Z 0 111 [(4, .int ((μ.1 0 10) + 1)), (3, .int (nI e)), (0, .ref 0), (1, .int 0), (2, .int (nB ow))] [] (z_ui (z_ui (z_ui μ 0 7 0) 0 14 ((μ.1 0 14) + 1)) 0 9 (nI e))
        refine z_rcs0 hc hH 2 (pc' := 114) (lv' := [(4, .int ((μ.1 0 10) + 1)), (3, .int (nI e)), (0, .ref 0), (1, .int 0), (2, .int (nB ow))]) (st' := [.int ((μ.1 0 10) + 1), .ref 0]) (by rfl) ?_
        refine zq_pfi hc hH (by rfl) (ci := 5) (f := 10) (by rfl) (by decide +kernel) (by rfl) ?_
        show Z 0 117 [(4, .int ((μ.1 0 10) + 1)), (3, .int (nI e)), (0, .ref 0), (1, .int 0), (2, .int (nB ow))] [] (z_ui (z_ui (z_ui (z_ui μ 0 7 0) 0 14 ((μ.1 0 14) + 1)) 0 9 (nI e)) 0 10 ((μ.1 0 10) + 1))
        refine z_rcs0 hc hH 2 (pc' := 119) (lv' := [(4, .int ((μ.1 0 10) + 1)), (3, .int (nI e)), (0, .ref 0), (1, .int 0), (2, .int (nB ow))]) (st' := [.int (nB ow), .ref 0]) (by rfl) ?_
        refine zq_if hc hH (by rfl) (tg := 126) (by rfl) (fun h7 => ?_) (fun h7 => ?_)
        · have h7 : (ow) = false := nB_z.mp (cm_eq9.mp h7)
          refine z_rcs0 hc hH 1 (pc' := 127) (lv' := [(4, .int ((μ.1 0 10) + 1)), (3, .int (nI e)), (0, .ref 0), (1, .int 0), (2, .int (nB ow))]) (st' := [.ref 0, .ref 0]) (by rfl) ?_
          refine zq_gfi hc hH (by rfl) (ci := 5) (f := 11) (by rfl) (by decide +kernel) (by rfl) ?_
          refine zV1 (Z := Z) (Eq.trans (ui_k (by first | decide | omega)) (Eq.trans (ui_k (by first | decide | omega)) (Eq.trans (ui_k (by first | decide | omega)) (ui_k (by first | decide | omega))))) ?_
          refine z_rcs0 hc hH 2 (pc' := 132) (lv' := [(4, .int ((μ.1 0 10) + 1)), (3, .int (nI e)), (0, .ref 0), (1, .int 0), (2, .int (nB ow))]) (st' := [.int ((μ.1 0 11) + 1), .ref 0]) (by rfl) ?_
          refine zq_pfi hc hH (by rfl) (ci := 5) (f := 11) (by rfl) (by decide +kernel) (by rfl) ?_
          show Z 0 135 [(4, .int ((μ.1 0 10) + 1)), (3, .int (nI e)), (0, .ref 0), (1, .int 0), (2, .int (nB ow))] [] (z_ui (z_ui (z_ui (z_ui (z_ui μ 0 7 0) 0 14 ((μ.1 0 14) + 1)) 0 9 (nI e)) 0 10 ((μ.1 0 10) + 1)) 0 11 ((μ.1 0 11) + 1))
          exact hr 0 135 _ _ _ none (by decide +kernel) (by rfl) (⟨rfl, (by unfold eH0; simp only [h1, h5, h6, h7, cond_true, cond_false])⟩)
        · have h7 : (ow) = true := nB_n.mp (cn_eq.mp h7)
          refine z_rcs hc hH 2 (pc' := 132) (lv' := [(4, .int ((μ.1 0 10) + 1)), (3, .int (nI e)), (0, .ref 0), (1, .int 0), (2, .int (nB ow))]) (st' := [.int 0, .ref 0]) (μ' := z_ui (z_ui (z_ui (z_ui μ 0 7 0) 0 14 ((μ.1 0 14) + 1)) 0 9 (nI e)) 0 10 ((μ.1 0 10) + 1)) (by rfl) ?_
          refine zq_pfi hc hH (by rfl) (ci := 5) (f := 11) (by rfl) (by decide +kernel) (by rfl) ?_
          show Z 0 135 [(4, .int ((μ.1 0 10) + 1)), (3, .int (nI e)), (0, .ref 0), (1, .int 0), (2, .int (nB ow))] [] (z_ui (z_ui (z_ui (z_ui (z_ui μ 0 7 0) 0 14 ((μ.1 0 14) + 1)) 0 9 (nI e)) 0 10 ((μ.1 0 10) + 1)) 0 11 0)
          exact hr 0 135 _ _ _ none (by decide +kernel) (by rfl) (⟨rfl, (by unfold eH0; simp only [h1, h5, h6, h7, cond_true, cond_false])⟩)
      · have h6 : (decide (((μ.1 0 10) + 1) ≤ 1)) = false := decide_eq_false (cn_le.mp h6)
        refine z_rcs hc hH 2 (pc' := 73) (lv' := [(4, .int ((μ.1 0 10) + 1)), (3, .int (nI e)), (0, .ref 0), (1, .int 0), (2, .int (nB ow))]) (st' := [.int 1, .ref 0]) (μ' := z_ui (z_ui μ 0 7 0) 0 14 ((μ.1 0 14) + 1)) (by rfl) ?_
        refine zq_pfb hc hH (by rfl) (ci := 5) (f := 13) (by rfl) (by decide +kernel) (by rfl) (by decide) ?_
        show Z 0 76 [(4, .int ((μ.1 0 10) + 1)), (3, .int (nI e)), (0, .ref 0), (1, .int 0), (2, .int (nB ow))] [] (z_ui (z_ui (z_ui μ 0 7 0) 0 14 ((μ.1 0 14) + 1)) 0 13 1)
        refine z_rcs0 hc hH 2 (pc' := 78) (lv' := [(4, .int ((μ.1 0 10) + 1)), (3, .int (nI e)), (0, .ref 0), (1, .int 0), (2, .int (nB ow))]) (st' := [.ref 0, .ref 0]) (by rfl) ?_
        refine zq_call hc (z_cx_ok hH (by rfl)) (gc_rich d' (by omega) (z_ui (z_ui (z_ui μ 0 7 0) 0 14 ((μ.1 0 14) + 1)) 0 13 1) b hb) (by decide +kernel) (fun r9 μ9 hq => ?_)
        obtain ⟨hμ9, rfl⟩ := hq
        rw [hμ9]
        clear hμ9 μ9
        show Z 0 81 [(4, .int ((μ.1 0 10) + 1)), (3, .int (nI e)), (0, .ref 0), (1, .int 0), (2, .int (nB ow))] [.int (nI b), .ref 0] _
        refine zq_call hc (z_cx_ok hH (by rfl)) (gc_at4 d' (by omega) (z_ui (z_ui (z_ui μ 0 7 0) 0 14 ((μ.1 0 14) + 1)) 0 13 1) b hb4) (by decide +kernel) (fun r9 μ9 hq => ?_)
        obtain ⟨hμ9, rfl⟩ := hq
        rw [hμ9]
        clear hμ9 μ9
        show Z 0 84 [(4, .int ((μ.1 0 10) + 1)), (3, .int (nI e)), (0, .ref 0), (1, .int 0), (2, .int (nB ow))] [.ref (18 + 8 * b)] _
        refine z_rcs0 hc hH 1 (pc' := 85) (lv' := [(4, .int ((μ.1 0 10) + 1)), (3, .int (nI e)), (0, .ref 0), (1, .int 0), (2, .int (nB ow))]) (st' := [.ref (18 + 8 * b), .ref (18 + 8 * b)]) (by rfl) ?_
        refine zq_gfi hc hH (by rfl) (ci := 1) (f := 4) (by rfl) (sj (P := fun i => okf 79 1 4 (18 + 8 * i)) hb4 (by decide +kernel)) (by rfl) ?_
        refine zV1 (Z := Z) (Eq.trans (ui_o (by first | decide | omega)) (Eq.trans (ui_o (by first | decide | omega)) (ui_o (by first | decide | omega)))) ?_
        refine z_rcs0 hc hH 1 (pc' := 89) (lv' := [(4, .int ((μ.1 0 10) + 1)), (3, .int (nI e)), (0, .ref 0), (1, .int 0), (2, .int (nB ow))]) (st' := [.ref 0, .int (μ.1 (18 + 8 * b) 4), .ref (18 + 8 * b)]) (by rfl) ?_
        refine zq_gfi hc hH (by rfl) (ci := 5) (f := 12) (by rfl) (by decide +kernel) (by rfl) ?_
        refine zV1 (Z := Z) (Eq.trans (ui_k (by first | decide | omega)) (Eq.trans (ui_k (by first | decide | omega)) (ui_k (by first | decide | omega)))) ?_
        refine z_rcs0 hc hH 3 (pc' := 97) (lv' := [(4, .int ((μ.1 0 10) + 1)), (3, .int (nI e)), (0, .ref 0), (1, .int 0), (2, .int (nB ow))]) (st' := [.int ((μ.1 (18 + 8 * b) 4) + ((μ.1 0 12) * 1000)), .ref (18 + 8 * b)]) (by rfl) ?_
        refine zq_pfi hc hH (by rfl) (ci := 1) (f := 4) (by rfl) (sj (P := fun i => okf 79 1 4 (18 + 8 * i)) hb4 (by decide +kernel)) (by rfl) ?_
        show Z 0 100 [(4, .int ((μ.1 0 10) + 1)), (3, .int (nI e)), (0, .ref 0), (1, .int 0), (2, .int (nB ow))] [] (z_ui (z_ui (z_ui (z_ui μ 0 7 0) 0 14 ((μ.1 0 14) + 1)) 0 13 1) (18 + 8 * b) 4 ((μ.1 (18 + 8 * b) 4) + ((μ.1 0 12) * 1000)))
        refine z_rcs0 hc hH 2 (pc' := 102) (lv' := [(4, .int ((μ.1 0 10) + 1)), (3, .int (nI e)), (0, .ref 0), (1, .int 0), (2, .int (nB ow))]) (st' := [.int 0, .ref 0]) (by rfl) ?_
        refine zq_pfi hc hH (by rfl) (ci := 5) (f := 12) (by rfl) (by decide +kernel) (by rfl) ?_
        show Z 0 105 [(4, .int ((μ.1 0 10) + 1)), (3, .int (nI e)), (0, .ref 0), (1, .int 0), (2, .int (nB ow))] [] (z_ui (z_ui (z_ui (z_ui (z_ui μ 0 7 0) 0 14 ((μ.1 0 14) + 1)) 0 13 1) (18 + 8 * b) 4 ((μ.1 (18 + 8 * b) 4) + ((μ.1 0 12) * 1000))) 0 12 0)
        exact hr 0 105 _ _ _ none (by decide +kernel) (by rfl) (⟨rfl, (by unfold eH0; simp only [h1, h5, h6, cond_true, cond_false])⟩)
noncomputable def eH1 (μ : zM) (ow bk : Bool) (dl e b : Nat) : zM := (bif bk then z_ui (z_ui (z_ui (z_ui (z_ui μ 0 7 0) 0 14 ((μ.1 0 14) + 1)) 0 13 1) (18 + 8 * b) 4 ((μ.1 (18 + 8 * b) 4) + ((μ.1 0 12) * 1000))) 0 12 0 else (bif decide ((μ.1 0 10) ≤ 1) then (bif ow then z_ui (z_ui (z_ui (z_ui (z_ui μ 0 7 0) 0 14 ((μ.1 0 14) + 1)) 0 9 (nI dl)) 0 10 (μ.1 0 10)) 0 11 0 else z_ui (z_ui (z_ui (z_ui (z_ui μ 0 7 0) 0 14 ((μ.1 0 14) + 1)) 0 9 (nI dl)) 0 10 (μ.1 0 10)) 0 11 ((μ.1 0 11) + 1)) else z_ui (z_ui (z_ui (z_ui (z_ui μ 0 7 0) 0 14 ((μ.1 0 14) + 1)) 0 13 1) (18 + 8 * b) 4 ((μ.1 (18 + 8 * b) 4) + ((μ.1 0 12) * 1000))) 0 12 0))
theorem gc_endHand1 (d : Nat) (hd : 3 ≤ d) (μ : zM) (ow bk : Bool) (dl e b : Nat) (hbk : xBk μ = bk) (hdl : μ.1 0 9 = nI dl) (hdl4 : dl < 4) (he : (dl + 1) % 4 = e) (hb4 : b < 4) (hb : rcM μ = b) : z_C d mi_X6_endHand [.ref 0, .int 1, .int (nB ow)] μ (fun r μ' => r = none ∧ μ' = eH1 μ ow bk dl e b) := by
  refine z_C_in (by decide) (by omega) (fun d' Z ed hc hr => ?_)
  have hH : zH mi_X6_endHand zt_X6_endHand 79 6 5 := hh_X6_endHand
  refine z_rcs hc hH 2 (pc' := 2) (lv' := [(0, .ref 0), (1, .int 1), (2, .int (nB ow))]) (st' := [.int 0, .ref 0]) (μ' := μ) (by rfl) ?_
  refine zq_pfi hc hH (by rfl) (ci := 5) (f := 7) (by rfl) (by decide +kernel) (by rfl) ?_
  show Z 0 5 [(0, .ref 0), (1, .int 1), (2, .int (nB ow))] [] (z_ui μ 0 7 0)
  refine z_rcs hc hH 2 (pc' := 7) (lv' := [(0, .ref 0), (1, .int 1), (2, .int (nB ow))]) (st' := [.ref 0, .ref 0]) (μ' := z_ui μ 0 7 0) (by rfl) ?_
  refine zq_gfi hc hH (by rfl) (ci := 5) (f := 14) (by rfl) (by decide +kernel) (by rfl) ?_
  refine zV1 (Z := Z) (ui_k (by first | decide | omega)) ?_
  refine z_rcs hc hH 2 (pc' := 12) (lv' := [(0, .ref 0), (1, .int 1), (2, .int (nB ow))]) (st' := [.int ((μ.1 0 14) + 1), .ref 0]) (μ' := z_ui μ 0 7 0) (by rfl) ?_
  refine zq_pfi hc hH (by rfl) (ci := 5) (f := 14) (by rfl) (by decide +kernel) (by rfl) ?_
  show Z 0 15 [(0, .ref 0), (1, .int 1), (2, .int (nB ow))] [] (z_ui (z_ui μ 0 7 0) 0 14 ((μ.1 0 14) + 1))
  refine z_rcs0 hc hH 3 (pc' := 20) (lv' := [(0, .ref 0), (1, .int 1), (2, .int (nB ow))]) (st' := [.ref 0]) (by rfl) ?_
  refine zq_gfi hc hH (by rfl) (ci := 5) (f := 9) (by rfl) (by decide +kernel) (by rfl) ?_
  refine zV1 (Z := Z) (Eq.trans (ui_k (by first | decide | omega)) (ui_k (by first | decide | omega))) ?_
  rw [hdl]
  refine z_rcs0 hc hH 5 (pc' := 53) (lv' := [(3, .int (nI dl)), (0, .ref 0), (1, .int 1), (2, .int (nB ow))]) (st' := [.ref 0]) (by rfl) ?_
  refine zq_gfi hc hH (by rfl) (ci := 5) (f := 10) (by rfl) (by decide +kernel) (by rfl) ?_
  refine zV1 (Z := Z) (Eq.trans (ui_k (by first | decide | omega)) (ui_k (by first | decide | omega))) ?_
  refine z_rcs0 hc hH 2 (pc' := 59) (lv' := [(4, .int (μ.1 0 10)), (3, .int (nI dl)), (0, .ref 0), (1, .int 1), (2, .int (nB ow))]) (st' := [.ref 0]) (by rfl) ?_
  refine zq_call hc (z_cx_ok hH (by rfl)) (gc_brk d' (by omega) (z_ui (z_ui μ 0 7 0) 0 14 ((μ.1 0 14) + 1)) bk hbk) (by decide +kernel) (fun r9 μ9 hq => ?_)
  obtain ⟨hμ9, rfl⟩ := hq
  rw [hμ9]
  clear hμ9 μ9
  show Z 0 62 [(4, .int (μ.1 0 10)), (3, .int (nI dl)), (0, .ref 0), (1, .int 1), (2, .int (nB ow))] [.int (nB bk)] _
  refine zq_if hc hH (by rfl) (tg := 71) (by rfl) (fun h1 => ?_) (fun h1 => ?_)
  · have h1 : (bk) = true := nB_n.mp (cm_ne.mp h1)
    refine z_rcs0 hc hH 2 (pc' := 73) (lv' := [(4, .int (μ.1 0 10)), (3, .int (nI dl)), (0, .ref 0), (1, .int 1), (2, .int (nB ow))]) (st' := [.int 1, .ref 0]) (by rfl) ?_
    refine zq_pfb hc hH (by rfl) (ci := 5) (f := 13) (by rfl) (by decide +kernel) (by rfl) (by decide) ?_
    show Z 0 76 [(4, .int (μ.1 0 10)), (3, .int (nI dl)), (0, .ref 0), (1, .int 1), (2, .int (nB ow))] [] (z_ui (z_ui (z_ui μ 0 7 0) 0 14 ((μ.1 0 14) + 1)) 0 13 1)
    refine z_rcs0 hc hH 2 (pc' := 78) (lv' := [(4, .int (μ.1 0 10)), (3, .int (nI dl)), (0, .ref 0), (1, .int 1), (2, .int (nB ow))]) (st' := [.ref 0, .ref 0]) (by rfl) ?_
    refine zq_call hc (z_cx_ok hH (by rfl)) (gc_rich d' (by omega) (z_ui (z_ui (z_ui μ 0 7 0) 0 14 ((μ.1 0 14) + 1)) 0 13 1) b hb) (by decide +kernel) (fun r9 μ9 hq => ?_)
    obtain ⟨hμ9, rfl⟩ := hq
    rw [hμ9]
    clear hμ9 μ9
    show Z 0 81 [(4, .int (μ.1 0 10)), (3, .int (nI dl)), (0, .ref 0), (1, .int 1), (2, .int (nB ow))] [.int (nI b), .ref 0] _
    refine zq_call hc (z_cx_ok hH (by rfl)) (gc_at4 d' (by omega) (z_ui (z_ui (z_ui μ 0 7 0) 0 14 ((μ.1 0 14) + 1)) 0 13 1) b hb4) (by decide +kernel) (fun r9 μ9 hq => ?_)
    obtain ⟨hμ9, rfl⟩ := hq
    rw [hμ9]
    clear hμ9 μ9
    show Z 0 84 [(4, .int (μ.1 0 10)), (3, .int (nI dl)), (0, .ref 0), (1, .int 1), (2, .int (nB ow))] [.ref (18 + 8 * b)] _
    refine z_rcs0 hc hH 1 (pc' := 85) (lv' := [(4, .int (μ.1 0 10)), (3, .int (nI dl)), (0, .ref 0), (1, .int 1), (2, .int (nB ow))]) (st' := [.ref (18 + 8 * b), .ref (18 + 8 * b)]) (by rfl) ?_
    refine zq_gfi hc hH (by rfl) (ci := 1) (f := 4) (by rfl) (sj (P := fun i => okf 79 1 4 (18 + 8 * i)) hb4 (by decide +kernel)) (by rfl) ?_
    refine zV1 (Z := Z) (Eq.trans (ui_o (by first | decide | omega)) (Eq.trans (ui_o (by first | decide | omega)) (ui_o (by first | decide | omega)))) ?_
    refine z_rcs0 hc hH 1 (pc' := 89) (lv' := [(4, .int (μ.1 0 10)), (3, .int (nI dl)), (0, .ref 0), (1, .int 1), (2, .int (nB ow))]) (st' := [.ref 0, .int (μ.1 (18 + 8 * b) 4), .ref (18 + 8 * b)]) (by rfl) ?_
    refine zq_gfi hc hH (by rfl) (ci := 5) (f := 12) (by rfl) (by decide +kernel) (by rfl) ?_
    refine zV1 (Z := Z) (Eq.trans (ui_k (by first | decide | omega)) (Eq.trans (ui_k (by first | decide | omega)) (ui_k (by first | decide | omega)))) ?_
    refine z_rcs0 hc hH 3 (pc' := 97) (lv' := [(4, .int (μ.1 0 10)), (3, .int (nI dl)), (0, .ref 0), (1, .int 1), (2, .int (nB ow))]) (st' := [.int ((μ.1 (18 + 8 * b) 4) + ((μ.1 0 12) * 1000)), .ref (18 + 8 * b)]) (by rfl) ?_
    refine zq_pfi hc hH (by rfl) (ci := 1) (f := 4) (by rfl) (sj (P := fun i => okf 79 1 4 (18 + 8 * i)) hb4 (by decide +kernel)) (by rfl) ?_
    show Z 0 100 [(4, .int (μ.1 0 10)), (3, .int (nI dl)), (0, .ref 0), (1, .int 1), (2, .int (nB ow))] [] (z_ui (z_ui (z_ui (z_ui μ 0 7 0) 0 14 ((μ.1 0 14) + 1)) 0 13 1) (18 + 8 * b) 4 ((μ.1 (18 + 8 * b) 4) + ((μ.1 0 12) * 1000)))
    refine z_rcs0 hc hH 2 (pc' := 102) (lv' := [(4, .int (μ.1 0 10)), (3, .int (nI dl)), (0, .ref 0), (1, .int 1), (2, .int (nB ow))]) (st' := [.int 0, .ref 0]) (by rfl) ?_
    refine zq_pfi hc hH (by rfl) (ci := 5) (f := 12) (by rfl) (by decide +kernel) (by rfl) ?_
    show Z 0 105 [(4, .int (μ.1 0 10)), (3, .int (nI dl)), (0, .ref 0), (1, .int 1), (2, .int (nB ow))] [] (z_ui (z_ui (z_ui (z_ui (z_ui μ 0 7 0) 0 14 ((μ.1 0 14) + 1)) 0 13 1) (18 + 8 * b) 4 ((μ.1 (18 + 8 * b) 4) + ((μ.1 0 12) * 1000))) 0 12 0)
    exact hr 0 105 _ _ _ none (by decide +kernel) (by rfl) (⟨rfl, (by unfold eH1; simp only [h1, cond_true, cond_false])⟩)
  · have h1 : (bk) = false := nB_z.mp (cn_ne.mp h1)
    refine z_rcs hc hH 2 (pc' := 68) (lv' := [(4, .int (μ.1 0 10)), (3, .int (nI dl)), (0, .ref 0), (1, .int 1), (2, .int (nB ow))]) (st' := [.int 1, .int (μ.1 0 10)]) (μ' := z_ui (z_ui μ 0 7 0) 0 14 ((μ.1 0 14) + 1)) (by rfl) ?_
    refine zq_ic hc hH (by rfl) (tg := 106) (by rfl) (fun h2 => ?_) (fun h2 => ?_)
    · have h2 : (decide ((μ.1 0 10) ≤ 1)) = true := decide_eq_true (cm_le.mp h2)
      refine z_rcs0 hc hH 2 (pc' := 108) (lv' := [(4, .int (μ.1 0 10)), (3, .int (nI dl)), (0, .ref 0), (1, .int 1), (2, .int (nB ow))]) (st' := [.int (nI dl), .ref 0]) (by rfl) ?_
      refine zq_pfi hc hH (by rfl) (ci := 5) (f := 9) (by rfl) (by decide +kernel) (by rfl) ?_
      show Z 0 111 [(4, .int (μ.1 0 10)), (3, .int (nI dl)), (0, .ref 0), (1, .int 1), (2, .int (nB ow))] [] (z_ui (z_ui (z_ui μ 0 7 0) 0 14 ((μ.1 0 14) + 1)) 0 9 (nI dl))
      refine z_rcs0 hc hH 2 (pc' := 114) (lv' := [(4, .int (μ.1 0 10)), (3, .int (nI dl)), (0, .ref 0), (1, .int 1), (2, .int (nB ow))]) (st' := [.int (μ.1 0 10), .ref 0]) (by rfl) ?_
      refine zq_pfi hc hH (by rfl) (ci := 5) (f := 10) (by rfl) (by decide +kernel) (by rfl) ?_
      show Z 0 117 [(4, .int (μ.1 0 10)), (3, .int (nI dl)), (0, .ref 0), (1, .int 1), (2, .int (nB ow))] [] (z_ui (z_ui (z_ui (z_ui μ 0 7 0) 0 14 ((μ.1 0 14) + 1)) 0 9 (nI dl)) 0 10 (μ.1 0 10))
      refine z_rcs0 hc hH 2 (pc' := 119) (lv' := [(4, .int (μ.1 0 10)), (3, .int (nI dl)), (0, .ref 0), (1, .int 1), (2, .int (nB ow))]) (st' := [.int (nB ow), .ref 0]) (by rfl) ?_
      refine zq_if hc hH (by rfl) (tg := 126) (by rfl) (fun h3 => ?_) (fun h3 => ?_)
      · have h3 : (ow) = false := nB_z.mp (cm_eq9.mp h3)
        refine z_rcs0 hc hH 1 (pc' := 127) (lv' := [(4, .int (μ.1 0 10)), (3, .int (nI dl)), (0, .ref 0), (1, .int 1), (2, .int (nB ow))]) (st' := [.ref 0, .ref 0]) (by rfl) ?_
        refine zq_gfi hc hH (by rfl) (ci := 5) (f := 11) (by rfl) (by decide +kernel) (by rfl) ?_
        refine zV1 (Z := Z) (Eq.trans (ui_k (by first | decide | omega)) (Eq.trans (ui_k (by first | decide | omega)) (Eq.trans (ui_k (by first | decide | omega)) (ui_k (by first | decide | omega))))) ?_
        refine z_rcs0 hc hH 2 (pc' := 132) (lv' := [(4, .int (μ.1 0 10)), (3, .int (nI dl)), (0, .ref 0), (1, .int 1), (2, .int (nB ow))]) (st' := [.int ((μ.1 0 11) + 1), .ref 0]) (by rfl) ?_
        refine zq_pfi hc hH (by rfl) (ci := 5) (f := 11) (by rfl) (by decide +kernel) (by rfl) ?_
        show Z 0 135 [(4, .int (μ.1 0 10)), (3, .int (nI dl)), (0, .ref 0), (1, .int 1), (2, .int (nB ow))] [] (z_ui (z_ui (z_ui (z_ui (z_ui μ 0 7 0) 0 14 ((μ.1 0 14) + 1)) 0 9 (nI dl)) 0 10 (μ.1 0 10)) 0 11 ((μ.1 0 11) + 1))
        exact hr 0 135 _ _ _ none (by decide +kernel) (by rfl) (⟨rfl, (by unfold eH1; simp only [h1, h2, h3, cond_true, cond_false])⟩)
      · have h3 : (ow) = true := nB_n.mp (cn_eq.mp h3)
        refine z_rcs hc hH 2 (pc' := 132) (lv' := [(4, .int (μ.1 0 10)), (3, .int (nI dl)), (0, .ref 0), (1, .int 1), (2, .int (nB ow))]) (st' := [.int 0, .ref 0]) (μ' := z_ui (z_ui (z_ui (z_ui μ 0 7 0) 0 14 ((μ.1 0 14) + 1)) 0 9 (nI dl)) 0 10 (μ.1 0 10)) (by rfl) ?_
        refine zq_pfi hc hH (by rfl) (ci := 5) (f := 11) (by rfl) (by decide +kernel) (by rfl) ?_
        show Z 0 135 [(4, .int (μ.1 0 10)), (3, .int (nI dl)), (0, .ref 0), (1, .int 1), (2, .int (nB ow))] [] (z_ui (z_ui (z_ui (z_ui (z_ui μ 0 7 0) 0 14 ((μ.1 0 14) + 1)) 0 9 (nI dl)) 0 10 (μ.1 0 10)) 0 11 0)
        exact hr 0 135 _ _ _ none (by decide +kernel) (by rfl) (⟨rfl, (by unfold eH1; simp only [h1, h2, h3, cond_true, cond_false])⟩)
    · have h2 : (decide ((μ.1 0 10) ≤ 1)) = false := decide_eq_false (cn_le.mp h2)
      refine z_rcs hc hH 2 (pc' := 73) (lv' := [(4, .int (μ.1 0 10)), (3, .int (nI dl)), (0, .ref 0), (1, .int 1), (2, .int (nB ow))]) (st' := [.int 1, .ref 0]) (μ' := z_ui (z_ui μ 0 7 0) 0 14 ((μ.1 0 14) + 1)) (by rfl) ?_
      refine zq_pfb hc hH (by rfl) (ci := 5) (f := 13) (by rfl) (by decide +kernel) (by rfl) (by decide) ?_
      show Z 0 76 [(4, .int (μ.1 0 10)), (3, .int (nI dl)), (0, .ref 0), (1, .int 1), (2, .int (nB ow))] [] (z_ui (z_ui (z_ui μ 0 7 0) 0 14 ((μ.1 0 14) + 1)) 0 13 1)
      refine z_rcs0 hc hH 2 (pc' := 78) (lv' := [(4, .int (μ.1 0 10)), (3, .int (nI dl)), (0, .ref 0), (1, .int 1), (2, .int (nB ow))]) (st' := [.ref 0, .ref 0]) (by rfl) ?_
      refine zq_call hc (z_cx_ok hH (by rfl)) (gc_rich d' (by omega) (z_ui (z_ui (z_ui μ 0 7 0) 0 14 ((μ.1 0 14) + 1)) 0 13 1) b hb) (by decide +kernel) (fun r9 μ9 hq => ?_)
      obtain ⟨hμ9, rfl⟩ := hq
      rw [hμ9]
      clear hμ9 μ9
      show Z 0 81 [(4, .int (μ.1 0 10)), (3, .int (nI dl)), (0, .ref 0), (1, .int 1), (2, .int (nB ow))] [.int (nI b), .ref 0] _
      refine zq_call hc (z_cx_ok hH (by rfl)) (gc_at4 d' (by omega) (z_ui (z_ui (z_ui μ 0 7 0) 0 14 ((μ.1 0 14) + 1)) 0 13 1) b hb4) (by decide +kernel) (fun r9 μ9 hq => ?_)
      obtain ⟨hμ9, rfl⟩ := hq
      rw [hμ9]
      clear hμ9 μ9
      show Z 0 84 [(4, .int (μ.1 0 10)), (3, .int (nI dl)), (0, .ref 0), (1, .int 1), (2, .int (nB ow))] [.ref (18 + 8 * b)] _
      refine z_rcs0 hc hH 1 (pc' := 85) (lv' := [(4, .int (μ.1 0 10)), (3, .int (nI dl)), (0, .ref 0), (1, .int 1), (2, .int (nB ow))]) (st' := [.ref (18 + 8 * b), .ref (18 + 8 * b)]) (by rfl) ?_
      refine zq_gfi hc hH (by rfl) (ci := 1) (f := 4) (by rfl) (sj (P := fun i => okf 79 1 4 (18 + 8 * i)) hb4 (by decide +kernel)) (by rfl) ?_
      refine zV1 (Z := Z) (Eq.trans (ui_o (by first | decide | omega)) (Eq.trans (ui_o (by first | decide | omega)) (ui_o (by first | decide | omega)))) ?_
      refine z_rcs0 hc hH 1 (pc' := 89) (lv' := [(4, .int (μ.1 0 10)), (3, .int (nI dl)), (0, .ref 0), (1, .int 1), (2, .int (nB ow))]) (st' := [.ref 0, .int (μ.1 (18 + 8 * b) 4), .ref (18 + 8 * b)]) (by rfl) ?_
      refine zq_gfi hc hH (by rfl) (ci := 5) (f := 12) (by rfl) (by decide +kernel) (by rfl) ?_
      refine zV1 (Z := Z) (Eq.trans (ui_k (by first | decide | omega)) (Eq.trans (ui_k (by first | decide | omega)) (ui_k (by first | decide | omega)))) ?_
      refine z_rcs0 hc hH 3 (pc' := 97) (lv' := [(4, .int (μ.1 0 10)), (3, .int (nI dl)), (0, .ref 0), (1, .int 1), (2, .int (nB ow))]) (st' := [.int ((μ.1 (18 + 8 * b) 4) + ((μ.1 0 12) * 1000)), .ref (18 + 8 * b)]) (by rfl) ?_
      refine zq_pfi hc hH (by rfl) (ci := 1) (f := 4) (by rfl) (sj (P := fun i => okf 79 1 4 (18 + 8 * i)) hb4 (by decide +kernel)) (by rfl) ?_
      show Z 0 100 [(4, .int (μ.1 0 10)), (3, .int (nI dl)), (0, .ref 0), (1, .int 1), (2, .int (nB ow))] [] (z_ui (z_ui (z_ui (z_ui μ 0 7 0) 0 14 ((μ.1 0 14) + 1)) 0 13 1) (18 + 8 * b) 4 ((μ.1 (18 + 8 * b) 4) + ((μ.1 0 12) * 1000)))
      refine z_rcs0 hc hH 2 (pc' := 102) (lv' := [(4, .int (μ.1 0 10)), (3, .int (nI dl)), (0, .ref 0), (1, .int 1), (2, .int (nB ow))]) (st' := [.int 0, .ref 0]) (by rfl) ?_
      refine zq_pfi hc hH (by rfl) (ci := 5) (f := 12) (by rfl) (by decide +kernel) (by rfl) ?_
      show Z 0 105 [(4, .int (μ.1 0 10)), (3, .int (nI dl)), (0, .ref 0), (1, .int 1), (2, .int (nB ow))] [] (z_ui (z_ui (z_ui (z_ui (z_ui μ 0 7 0) 0 14 ((μ.1 0 14) + 1)) 0 13 1) (18 + 8 * b) 4 ((μ.1 (18 + 8 * b) 4) + ((μ.1 0 12) * 1000))) 0 12 0)
      exact hr 0 105 _ _ _ none (by decide +kernel) (by rfl) (⟨rfl, (by unfold eH1; simp only [h1, h2, cond_true, cond_false])⟩)
/-! the game: discard, hide, four, three of the class, exactly -/
set_option maxRecDepth 8000
theorem gc_discard (d : Nat) (hd : 10 ≤ d) (μ : zM) (t : Nat) (ht4 : t < 4) (ht : μ.1 0 8 = nI t) (k q : Nat) (hk : k < 34) (hq : q < 86) (e2 : μ.1 (18 + 8 * t) 2 = nI q) (bt : Bool) (mt : Bool) (hmt : ∀ d, 3 ≤ d → z_C d mi_X6_mayThrow [.ref 0, .int (nI k)] μ (zR μ (.int (nB mt)))) (mb : Bool) (hmb : ∀ d, 8 ≤ d → z_C d mi_X6_mayBet [.ref 0, .ref (18 + 8 * t)] (pS μ t k (-1)) (zR (pS μ t k (-1)) (.int (nB mb)))) : z_C d mi_X6_discard [.ref 0, .int (nI k), .int (nB bt)] μ (fun r μ' => r = some ((bif decide ((μ.1 0 7) = 1) then (bif mt then (bif bt then (bif mb then .int 1 else .int 0) else .int 1) else .int 0) else .int 0)) ∧ μ' = (bif decide ((μ.1 0 7) = 1) then (bif mt then (bif bt then (bif mb then z_ui (z_uj (z_ui (tT (z_ui (z_ui (z_ui (pS μ t k (-1)) (18 + 8 * t) 5 (bif decide ((μ.1 (18 + 8 * t) 2) = 0) then bif decide ((μ.1 0 17) = 0) then (2 : Int32) else 1 else 1)) (18 + 8 * t) 6 (nB bt)) (18 + 8 * t) 7 (nB bt)) t k q) 0 15 (nI k)) 0 18 0) 0 7 2 else pS (pS μ t k (-1)) t k 1) else z_ui (z_uj (z_ui (tT (z_ui (z_ui (pS μ t k (-1)) (18 + 8 * t) 6 (nB bt)) (18 + 8 * t) 7 (nB bt)) t k q) 0 15 (nI k)) 0 18 0) 0 7 2) else μ) else μ)) := by
  refine z_C_in (by decide) (by omega) (fun d' Z ed hc hr => ?_)
  have hH : zH mi_X6_discard zt_X6_discard 79 6 4 := hh_X6_discard
  refine z_rcs hc hH 1 (pc' := 1) (lv' := [(0, .ref 0), (1, .int (nI k)), (2, .int (nB bt))]) (st' := [.ref 0]) (μ' := μ) (by rfl) ?_
  refine zq_gfi hc hH (by rfl) (ci := 5) (f := 7) (by rfl) (by decide +kernel) (by rfl) ?_
  refine z_rcs hc hH 1 (pc' := 5) (lv' := [(0, .ref 0), (1, .int (nI k)), (2, .int (nB bt))]) (st' := [.int 1, .int (μ.1 0 7)]) (μ' := μ) (by rfl) ?_
  refine zq_ic hc hH (by rfl) (tg := 16) (by rfl) (fun h1 => ?_) (fun h1 => ?_)
  · have h1 : (decide ((μ.1 0 7) = 1)) = false := decide_eq_false (cm_ne.mp h1)
    refine z_rcs hc hH 1 (pc' := 17) (lv' := [(0, .ref 0), (1, .int (nI k)), (2, .int (nB bt))]) (st' := [.int 0]) (μ' := μ) (by rfl) ?_
    exact hr 0 17 _ _ _ (some (.int 0)) (by decide +kernel) (z_rx_ok hH (by rfl)) (⟨(by first | with_reducible rfl | (simp only [h1, cond_true, cond_false]; done) | rfl), (by simp only [h1, cond_true, cond_false])⟩)
  · have h1 : (decide ((μ.1 0 7) = 1)) = true := decide_eq_true (cn_ne.mp h1)
    refine z_rcs hc hH 2 (pc' := 10) (lv' := [(0, .ref 0), (1, .int (nI k)), (2, .int (nB bt))]) (st' := [.int (nI k), .ref 0]) (μ' := μ) (by rfl) ?_
    refine zq_call hc (z_cx_ok hH (by rfl)) (hmt d' (by omega)) (by decide +kernel) (fun r9 μ9 hq => ?_)
    obtain ⟨hμ9, rfl⟩ := hq
    rw [hμ9]
    clear hμ9 μ9
    show Z 0 13 [(0, .ref 0), (1, .int (nI k)), (2, .int (nB bt))] [.int (nB mt)] μ
    refine zq_if hc hH (by rfl) (tg := 18) (by rfl) (fun h2 => ?_) (fun h2 => ?_)
    · have h2 : (mt) = true := nB_n.mp (cm_ne.mp h2)
      refine z_rcs hc hH 2 (pc' := 20) (lv' := [(0, .ref 0), (1, .int (nI k)), (2, .int (nB bt))]) (st' := [.ref 0, .ref 0]) (μ' := μ) (by rfl) ?_
      refine zq_gfi hc hH (by rfl) (ci := 5) (f := 8) (by rfl) (by decide +kernel) (by rfl) ?_
      rw [ht]
      refine zq_call hc (z_cx_ok hH (by rfl)) (gc_at4 d' (by omega) μ t ht4) (by decide +kernel) (fun r9 μ9 hq => ?_)
      obtain ⟨hμ9, rfl⟩ := hq
      rw [hμ9]
      clear hμ9 μ9
      show Z 0 26 [(0, .ref 0), (1, .int (nI k)), (2, .int (nB bt))] [.ref (18 + 8 * t)] μ
      refine z_rcs hc hH 2 (pc' := 28) (lv' := [(3, .ref (18 + 8 * t)), (0, .ref 0), (1, .int (nI k)), (2, .int (nB bt))]) (st' := [.ref (18 + 8 * t)]) (μ' := μ) (by rfl) ?_
      refine zq_gfr hc hH (by rfl) (ci := 1) (f := 0) (q := 19 + 8 * t) (by rfl) (sj (P := fun i => okf 79 1 0 (18 + 8 * i)) ht4 (by decide +kernel)) (by rfl) (sj (P := fun i => Nat.beq (z_gr (18 + 8 * i) 0) (19 + 8 * i)) ht4 (by decide +kernel)) ?_
      refine z_rcs hc hH 2 (pc' := 33) (lv' := [(3, .ref (18 + 8 * t)), (0, .ref 0), (1, .int (nI k)), (2, .int (nB bt))]) (st' := [.int 1, .int (nI k), .ref (19 + 8 * t)]) (μ' := μ) (by rfl) ?_
      refine zq_call hc (z_clv9 hH (by rfl) (by rfl) (by rfl) (by rfl) (sj (P := fun i => okr 79 2 (19 + 8 * i)) ht4 (by decide +kernel)) (by rfl) (by rfl)) (gc_take d' (by omega) μ t ht4 k hk 1) (by decide +kernel) (fun r9 μ9 hq => ?_)
      obtain ⟨rfl, rfl⟩ := hq
      show Z 0 36 [(3, .ref (18 + 8 * t)), (0, .ref 0), (1, .int (nI k)), (2, .int (nB bt))] [] (pS μ t k (-1))
      refine z_rcs hc hH 1 (pc' := 37) (lv' := [(3, .ref (18 + 8 * t)), (0, .ref 0), (1, .int (nI k)), (2, .int (nB bt))]) (st' := [.int (nB bt)]) (μ' := pS μ t k (-1)) (by rfl) ?_
      refine zq_if hc hH (by rfl) (tg := 59) (by rfl) (fun h3 => ?_) (fun h3 => ?_)
      · have h3 : (bt) = false := nB_z.mp (cm_eq9.mp h3)
        refine z_rcs hc hH 1 (pc' := 60) (lv' := [(3, .ref (18 + 8 * t)), (0, .ref 0), (1, .int (nI k)), (2, .int (nB bt))]) (st' := [.int (nB bt)]) (μ' := pS μ t k (-1)) (by rfl) ?_
        refine zq_if hc hH (by rfl) (tg := 86) (by rfl) (fun h4 => ?_) (fun h4 => ?_)
        · have h4 : (bt) = false := nB_z.mp (cm_eq9.mp h4)
          refine z_rcs hc hH 2 (pc' := 88) (lv' := [(3, .ref (18 + 8 * t)), (0, .ref 0), (1, .int (nI k)), (2, .int (nB bt))]) (st' := [.int (nB bt), .ref (18 + 8 * t)]) (μ' := pS μ t k (-1)) (by rfl) ?_
          refine zq_pfb hc hH (by rfl) (ci := 1) (f := 6) (by rfl) (sj (P := fun i => okf 79 1 6 (18 + 8 * i)) ht4 (by decide +kernel)) (by rfl) ((fun b : Bool => (by cases b <;> rfl : z_b01 (nB b) = true)) bt) ?_
          show Z 0 91 [(3, .ref (18 + 8 * t)), (0, .ref 0), (1, .int (nI k)), (2, .int (nB bt))] [] (z_ui (pS μ t k (-1)) (18 + 8 * t) 6 (nB bt))
          refine z_rcs0 hc hH 2 (pc' := 93) (lv' := [(3, .ref (18 + 8 * t)), (0, .ref 0), (1, .int (nI k)), (2, .int (nB bt))]) (st' := [.int (nB bt), .ref (18 + 8 * t)]) (by rfl) ?_
          refine zq_pfb hc hH (by rfl) (ci := 1) (f := 7) (by rfl) (sj (P := fun i => okf 79 1 7 (18 + 8 * i)) ht4 (by decide +kernel)) (by rfl) ((fun b : Bool => (by cases b <;> rfl : z_b01 (nB b) = true)) bt) ?_
          show Z 0 96 [(3, .ref (18 + 8 * t)), (0, .ref 0), (1, .int (nI k)), (2, .int (nB bt))] [] (z_ui (z_ui (pS μ t k (-1)) (18 + 8 * t) 6 (nB bt)) (18 + 8 * t) 7 (nB bt))
          refine z_rcs0 hc hH 2 (pc' := 98) (lv' := [(3, .ref (18 + 8 * t)), (0, .ref 0), (1, .int (nI k)), (2, .int (nB bt))]) (st' := [.int (nI k), .ref (18 + 8 * t)]) (by rfl) ?_
          refine zq_call hc (z_clv9 hH (by rfl) (by rfl) (by rfl) (by rfl) (sj (P := fun i => okr 79 1 (18 + 8 * i)) ht4 (by decide +kernel)) (by rfl) (by rfl)) (gc_throwTile d' (by omega) (z_ui (z_ui (pS μ t k (-1)) (18 + 8 * t) 6 (nB bt)) (18 + 8 * t) 7 (nB bt)) t ht4 k q hk hq (by rw [ui_k (by first | decide | omega), ui_k (by first | decide | omega), pS_g (by omega)]; exact e2)) (by decide +kernel) (fun r9 μ9 hq => ?_)
          obtain ⟨rfl, rfl⟩ := hq
          show Z 0 101 [(3, .ref (18 + 8 * t)), (0, .ref 0), (1, .int (nI k)), (2, .int (nB bt))] [] (tT (z_ui (z_ui (pS μ t k (-1)) (18 + 8 * t) 6 (nB bt)) (18 + 8 * t) 7 (nB bt)) t k q)
          refine z_rcs0 hc hH 2 (pc' := 103) (lv' := [(3, .ref (18 + 8 * t)), (0, .ref 0), (1, .int (nI k)), (2, .int (nB bt))]) (st' := [.int (nI k), .ref 0]) (by rfl) ?_
          refine zq_pfi hc hH (by rfl) (ci := 5) (f := 15) (by rfl) (by decide +kernel) (by rfl) ?_
          show Z 0 106 [(3, .ref (18 + 8 * t)), (0, .ref 0), (1, .int (nI k)), (2, .int (nB bt))] [] (z_ui (tT (z_ui (z_ui (pS μ t k (-1)) (18 + 8 * t) 6 (nB bt)) (18 + 8 * t) 7 (nB bt)) t k q) 0 15 (nI k))
          refine z_rcs0 hc hH 2 (pc' := 108) (lv' := [(3, .ref (18 + 8 * t)), (0, .ref 0), (1, .int (nI k)), (2, .int (nB bt))]) (st' := [.long 0, .ref 0]) (by rfl) ?_
          refine zq_pfl hc hH (by rfl) (ci := 5) (f := 18) (by rfl) (by decide +kernel) (by rfl) ?_
          show Z 0 111 [(3, .ref (18 + 8 * t)), (0, .ref 0), (1, .int (nI k)), (2, .int (nB bt))] [] (z_uj (z_ui (tT (z_ui (z_ui (pS μ t k (-1)) (18 + 8 * t) 6 (nB bt)) (18 + 8 * t) 7 (nB bt)) t k q) 0 15 (nI k)) 0 18 0)
          refine z_rcs0 hc hH 2 (pc' := 113) (lv' := [(3, .ref (18 + 8 * t)), (0, .ref 0), (1, .int (nI k)), (2, .int (nB bt))]) (st' := [.int 2, .ref 0]) (by rfl) ?_
          refine zq_pfi hc hH (by rfl) (ci := 5) (f := 7) (by rfl) (by decide +kernel) (by rfl) ?_
          show Z 0 116 [(3, .ref (18 + 8 * t)), (0, .ref 0), (1, .int (nI k)), (2, .int (nB bt))] [] (z_ui (z_uj (z_ui (tT (z_ui (z_ui (pS μ t k (-1)) (18 + 8 * t) 6 (nB bt)) (18 + 8 * t) 7 (nB bt)) t k q) 0 15 (nI k)) 0 18 0) 0 7 2)
          refine z_rcs0 hc hH 1 (pc' := 117) (lv' := [(3, .ref (18 + 8 * t)), (0, .ref 0), (1, .int (nI k)), (2, .int (nB bt))]) (st' := [.int 1]) (by rfl) ?_
          exact hr 0 117 _ _ _ (some (.int 1)) (by decide +kernel) (z_rx_ok hH (by rfl)) (⟨(by first | with_reducible rfl | (simp only [h1, h2, h3, cond_true, cond_false]; done) | rfl), (by simp only [h1, h2, h3, cond_true, cond_false])⟩)
        · have h4 : (bt) = true := nB_n.mp (cn_eq.mp h4)
          exact absurd (Eq.trans (Eq.symm (h3)) h4) (by decide)
      · have h3 : (bt) = true := nB_n.mp (cn_eq.mp h3)
        refine z_rcs hc hH 2 (pc' := 42) (lv' := [(3, .ref (18 + 8 * t)), (0, .ref 0), (1, .int (nI k)), (2, .int (nB bt))]) (st' := [.ref (18 + 8 * t), .ref 0]) (μ' := pS μ t k (-1)) (by rfl) ?_
        refine zq_call hc (z_cx_ok hH (by rfl)) (hmb d' (by omega)) (by decide +kernel) (fun r9 μ9 hq => ?_)
        obtain ⟨hμ9, rfl⟩ := hq
        rw [hμ9]
        clear hμ9 μ9
        show Z 0 45 [(3, .ref (18 + 8 * t)), (0, .ref 0), (1, .int (nI k)), (2, .int (nB bt))] [.int (nB mb)] (pS μ t k (-1))
        refine zq_if hc hH (by rfl) (tg := 59) (by rfl) (fun h5 => ?_) (fun h5 => ?_)
        · have h5 : (mb) = true := nB_n.mp (cm_ne.mp h5)
          refine z_rcs hc hH 1 (pc' := 60) (lv' := [(3, .ref (18 + 8 * t)), (0, .ref 0), (1, .int (nI k)), (2, .int (nB bt))]) (st' := [.int (nB bt)]) (μ' := pS μ t k (-1)) (by rfl) ?_
          refine zq_if hc hH (by rfl) (tg := 86) (by rfl) (fun h6 => ?_) (fun h6 => ?_)
          · have h6 : (bt) = false := nB_z.mp (cm_eq9.mp h6)
            exact absurd (Eq.trans (Eq.symm (h3)) h6) (by decide)
          · have h6 : (bt) = true := nB_n.mp (cn_eq.mp h6)
            refine z_rcs hc hH 2 (pc' := 65) (lv' := [(3, .ref (18 + 8 * t)), (0, .ref 0), (1, .int (nI k)), (2, .int (nB bt))]) (st' := [.ref (18 + 8 * t), .ref (18 + 8 * t)]) (μ' := pS μ t k (-1)) (by rfl) ?_
            refine zq_gfi hc hH (by rfl) (ci := 1) (f := 2) (by rfl) (sj (P := fun i => okf 79 1 2 (18 + 8 * i)) ht4 (by decide +kernel)) (by rfl) ?_
            rw [pS_g (by omega)]
            have hJ7 : Z 0 83 [(3, .ref (18 + 8 * t)), (0, .ref 0), (1, .int (nI k)), (2, .int (nB bt))] [.int (bif decide ((μ.1 (18 + 8 * t) 2) = 0) then bif decide ((μ.1 0 17) = 0) then (2 : Int32) else 1 else 1), .ref (18 + 8 * t)] (pS μ t k (-1)) := by
              refine zq_pfi hc hH (by rfl) (ci := 1) (f := 5) (by rfl) (sj (P := fun i => okf 79 1 5 (18 + 8 * i)) ht4 (by decide +kernel)) (by rfl) ?_
              show Z 0 86 [(3, .ref (18 + 8 * t)), (0, .ref 0), (1, .int (nI k)), (2, .int (nB bt))] [] (z_ui (pS μ t k (-1)) (18 + 8 * t) 5 (bif decide ((μ.1 (18 + 8 * t) 2) = 0) then bif decide ((μ.1 0 17) = 0) then (2 : Int32) else 1 else 1))
              refine z_rcs0 hc hH 2 (pc' := 88) (lv' := [(3, .ref (18 + 8 * t)), (0, .ref 0), (1, .int (nI k)), (2, .int (nB bt))]) (st' := [.int (nB bt), .ref (18 + 8 * t)]) (by rfl) ?_
              refine zq_pfb hc hH (by rfl) (ci := 1) (f := 6) (by rfl) (sj (P := fun i => okf 79 1 6 (18 + 8 * i)) ht4 (by decide +kernel)) (by rfl) ((fun b : Bool => (by cases b <;> rfl : z_b01 (nB b) = true)) bt) ?_
              show Z 0 91 [(3, .ref (18 + 8 * t)), (0, .ref 0), (1, .int (nI k)), (2, .int (nB bt))] [] (z_ui (z_ui (pS μ t k (-1)) (18 + 8 * t) 5 (bif decide ((μ.1 (18 + 8 * t) 2) = 0) then bif decide ((μ.1 0 17) = 0) then (2 : Int32) else 1 else 1)) (18 + 8 * t) 6 (nB bt))
              refine z_rcs0 hc hH 2 (pc' := 93) (lv' := [(3, .ref (18 + 8 * t)), (0, .ref 0), (1, .int (nI k)), (2, .int (nB bt))]) (st' := [.int (nB bt), .ref (18 + 8 * t)]) (by rfl) ?_
              refine zq_pfb hc hH (by rfl) (ci := 1) (f := 7) (by rfl) (sj (P := fun i => okf 79 1 7 (18 + 8 * i)) ht4 (by decide +kernel)) (by rfl) ((fun b : Bool => (by cases b <;> rfl : z_b01 (nB b) = true)) bt) ?_
              show Z 0 96 [(3, .ref (18 + 8 * t)), (0, .ref 0), (1, .int (nI k)), (2, .int (nB bt))] [] (z_ui (z_ui (z_ui (pS μ t k (-1)) (18 + 8 * t) 5 (bif decide ((μ.1 (18 + 8 * t) 2) = 0) then bif decide ((μ.1 0 17) = 0) then (2 : Int32) else 1 else 1)) (18 + 8 * t) 6 (nB bt)) (18 + 8 * t) 7 (nB bt))
              refine z_rcs0 hc hH 2 (pc' := 98) (lv' := [(3, .ref (18 + 8 * t)), (0, .ref 0), (1, .int (nI k)), (2, .int (nB bt))]) (st' := [.int (nI k), .ref (18 + 8 * t)]) (by rfl) ?_
              refine zq_call hc (z_clv9 hH (by rfl) (by rfl) (by rfl) (by rfl) (sj (P := fun i => okr 79 1 (18 + 8 * i)) ht4 (by decide +kernel)) (by rfl) (by rfl)) (gc_throwTile d' (by omega) (z_ui (z_ui (z_ui (pS μ t k (-1)) (18 + 8 * t) 5 (bif decide ((μ.1 (18 + 8 * t) 2) = 0) then bif decide ((μ.1 0 17) = 0) then (2 : Int32) else 1 else 1)) (18 + 8 * t) 6 (nB bt)) (18 + 8 * t) 7 (nB bt)) t ht4 k q hk hq (by rw [ui_k (by first | decide | omega), ui_k (by first | decide | omega), ui_k (by first | decide | omega), pS_g (by omega)]; exact e2)) (by decide +kernel) (fun r9 μ9 hq => ?_)
              obtain ⟨rfl, rfl⟩ := hq
              show Z 0 101 [(3, .ref (18 + 8 * t)), (0, .ref 0), (1, .int (nI k)), (2, .int (nB bt))] [] (tT (z_ui (z_ui (z_ui (pS μ t k (-1)) (18 + 8 * t) 5 (bif decide ((μ.1 (18 + 8 * t) 2) = 0) then bif decide ((μ.1 0 17) = 0) then (2 : Int32) else 1 else 1)) (18 + 8 * t) 6 (nB bt)) (18 + 8 * t) 7 (nB bt)) t k q)
              refine z_rcs0 hc hH 2 (pc' := 103) (lv' := [(3, .ref (18 + 8 * t)), (0, .ref 0), (1, .int (nI k)), (2, .int (nB bt))]) (st' := [.int (nI k), .ref 0]) (by rfl) ?_
              refine zq_pfi hc hH (by rfl) (ci := 5) (f := 15) (by rfl) (by decide +kernel) (by rfl) ?_
              show Z 0 106 [(3, .ref (18 + 8 * t)), (0, .ref 0), (1, .int (nI k)), (2, .int (nB bt))] [] (z_ui (tT (z_ui (z_ui (z_ui (pS μ t k (-1)) (18 + 8 * t) 5 (bif decide ((μ.1 (18 + 8 * t) 2) = 0) then bif decide ((μ.1 0 17) = 0) then (2 : Int32) else 1 else 1)) (18 + 8 * t) 6 (nB bt)) (18 + 8 * t) 7 (nB bt)) t k q) 0 15 (nI k))
              refine z_rcs0 hc hH 2 (pc' := 108) (lv' := [(3, .ref (18 + 8 * t)), (0, .ref 0), (1, .int (nI k)), (2, .int (nB bt))]) (st' := [.long 0, .ref 0]) (by rfl) ?_
              refine zq_pfl hc hH (by rfl) (ci := 5) (f := 18) (by rfl) (by decide +kernel) (by rfl) ?_
              show Z 0 111 [(3, .ref (18 + 8 * t)), (0, .ref 0), (1, .int (nI k)), (2, .int (nB bt))] [] (z_uj (z_ui (tT (z_ui (z_ui (z_ui (pS μ t k (-1)) (18 + 8 * t) 5 (bif decide ((μ.1 (18 + 8 * t) 2) = 0) then bif decide ((μ.1 0 17) = 0) then (2 : Int32) else 1 else 1)) (18 + 8 * t) 6 (nB bt)) (18 + 8 * t) 7 (nB bt)) t k q) 0 15 (nI k)) 0 18 0)
              refine z_rcs0 hc hH 2 (pc' := 113) (lv' := [(3, .ref (18 + 8 * t)), (0, .ref 0), (1, .int (nI k)), (2, .int (nB bt))]) (st' := [.int 2, .ref 0]) (by rfl) ?_
              refine zq_pfi hc hH (by rfl) (ci := 5) (f := 7) (by rfl) (by decide +kernel) (by rfl) ?_
              show Z 0 116 [(3, .ref (18 + 8 * t)), (0, .ref 0), (1, .int (nI k)), (2, .int (nB bt))] [] (z_ui (z_uj (z_ui (tT (z_ui (z_ui (z_ui (pS μ t k (-1)) (18 + 8 * t) 5 (bif decide ((μ.1 (18 + 8 * t) 2) = 0) then bif decide ((μ.1 0 17) = 0) then (2 : Int32) else 1 else 1)) (18 + 8 * t) 6 (nB bt)) (18 + 8 * t) 7 (nB bt)) t k q) 0 15 (nI k)) 0 18 0) 0 7 2)
              refine z_rcs0 hc hH 1 (pc' := 117) (lv' := [(3, .ref (18 + 8 * t)), (0, .ref 0), (1, .int (nI k)), (2, .int (nB bt))]) (st' := [.int 1]) (by rfl) ?_
              exact hr 0 117 _ _ _ (some (.int 1)) (by decide +kernel) (z_rx_ok hH (by rfl)) (⟨(by first | with_reducible rfl | (simp only [h1, h2, h3, h5, cond_true, cond_false]; done) | rfl), (by simp only [h1, h2, h3, h5, cond_true, cond_false])⟩)
            refine zq_if hc hH (by rfl) (tg := 82) (by rfl) (fun h8 => ?_) (fun h8 => ?_)
            · have h8 : (decide ((μ.1 (18 + 8 * t) 2) = 0)) = false := decide_eq_false (cm_ne.mp h8)
              refine z_rcs hc hH 1 (pc' := 83) (lv' := [(3, .ref (18 + 8 * t)), (0, .ref 0), (1, .int (nI k)), (2, .int (nB bt))]) (st' := [.int 1, .ref (18 + 8 * t)]) (μ' := pS μ t k (-1)) (by rfl) ?_
              exact zJ hJ7 rfl (by first | with_reducible rfl | (simp only [h8, lb_f, Int64.or_zero, Int32.add_zero, nB_t, nB_f, Bool.not_true, Bool.not_false, Bool.and_true, Bool.true_and, Bool.false_and, Bool.and_false, Bool.or_true, Bool.true_or, Bool.false_or, Bool.or_false, cond_true, cond_false]; done) | rfl) rfl
            · have h8 : (decide ((μ.1 (18 + 8 * t) 2) = 0)) = true := decide_eq_true (cn_ne.mp h8)
              refine z_rcs hc hH 1 (pc' := 72) (lv' := [(3, .ref (18 + 8 * t)), (0, .ref 0), (1, .int (nI k)), (2, .int (nB bt))]) (st' := [.ref 0, .ref (18 + 8 * t)]) (μ' := pS μ t k (-1)) (by rfl) ?_
              refine zq_gfi hc hH (by rfl) (ci := 5) (f := 17) (by rfl) (by decide +kernel) (by rfl) ?_
              rw [pS_g (by omega)]
              refine zq_if hc hH (by rfl) (tg := 82) (by rfl) (fun h9 => ?_) (fun h9 => ?_)
              · have h9 : (decide ((μ.1 0 17) = 0)) = false := decide_eq_false (cm_ne.mp h9)
                refine z_rcs hc hH 1 (pc' := 83) (lv' := [(3, .ref (18 + 8 * t)), (0, .ref 0), (1, .int (nI k)), (2, .int (nB bt))]) (st' := [.int 1, .ref (18 + 8 * t)]) (μ' := pS μ t k (-1)) (by rfl) ?_
                exact zJ hJ7 rfl (by first | with_reducible rfl | (simp only [h8, h9, lb_f, Int64.or_zero, Int32.add_zero, nB_t, nB_f, Bool.not_true, Bool.not_false, Bool.and_true, Bool.true_and, Bool.false_and, Bool.and_false, Bool.or_true, Bool.true_or, Bool.false_or, Bool.or_false, cond_true, cond_false]; done) | rfl) rfl
              · have h9 : (decide ((μ.1 0 17) = 0)) = true := decide_eq_true (cn_ne.mp h9)
                refine z_rcs hc hH 2 (pc' := 83) (lv' := [(3, .ref (18 + 8 * t)), (0, .ref 0), (1, .int (nI k)), (2, .int (nB bt))]) (st' := [.int 2, .ref (18 + 8 * t)]) (μ' := pS μ t k (-1)) (by rfl) ?_
                exact zJ hJ7 rfl (by first | with_reducible rfl | (simp only [h8, h9, lb_f, Int64.or_zero, Int32.add_zero, nB_t, nB_f, Bool.not_true, Bool.not_false, Bool.and_true, Bool.true_and, Bool.false_and, Bool.and_false, Bool.or_true, Bool.true_or, Bool.false_or, Bool.or_false, cond_true, cond_false]; done) | rfl) rfl
        · have h5 : (mb) = false := nB_z.mp (cn_ne.mp h5)
          refine z_rcs hc hH 1 (pc' := 49) (lv' := [(3, .ref (18 + 8 * t)), (0, .ref 0), (1, .int (nI k)), (2, .int (nB bt))]) (st' := [.ref (18 + 8 * t)]) (μ' := pS μ t k (-1)) (by rfl) ?_
          refine zq_gfr hc hH (by rfl) (ci := 1) (f := 0) (q := 19 + 8 * t) (by rfl) (sj (P := fun i => okf 79 1 0 (18 + 8 * i)) ht4 (by decide +kernel)) (by rfl) (sj (P := fun i => Nat.beq (z_gr (18 + 8 * i) 0) (19 + 8 * i)) ht4 (by decide +kernel)) ?_
          refine z_rcs hc hH 2 (pc' := 54) (lv' := [(3, .ref (18 + 8 * t)), (0, .ref 0), (1, .int (nI k)), (2, .int (nB bt))]) (st' := [.int 1, .int (nI k), .ref (19 + 8 * t)]) (μ' := pS μ t k (-1)) (by rfl) ?_
          refine zq_call hc (z_clv9 hH (by rfl) (by rfl) (by rfl) (by rfl) (sj (P := fun i => okr 79 2 (19 + 8 * i)) ht4 (by decide +kernel)) (by rfl) (by rfl)) (gc_put d' (by omega) (pS μ t k (-1)) t ht4 k hk 1) (by decide +kernel) (fun r9 μ9 hq => ?_)
          obtain ⟨rfl, rfl⟩ := hq
          show Z 0 57 [(3, .ref (18 + 8 * t)), (0, .ref 0), (1, .int (nI k)), (2, .int (nB bt))] [] (pS (pS μ t k (-1)) t k 1)
          refine z_rcs0 hc hH 1 (pc' := 58) (lv' := [(3, .ref (18 + 8 * t)), (0, .ref 0), (1, .int (nI k)), (2, .int (nB bt))]) (st' := [.int 0]) (by rfl) ?_
          exact hr 0 58 _ _ _ (some (.int 0)) (by decide +kernel) (z_rx_ok hH (by rfl)) (⟨(by first | with_reducible rfl | (simp only [h1, h2, h3, h5, cond_true, cond_false]; done) | rfl), (by simp only [h1, h2, h3, h5, cond_true, cond_false])⟩)
    · have h2 : (mt) = false := nB_z.mp (cn_ne.mp h2)
      refine z_rcs hc hH 1 (pc' := 17) (lv' := [(0, .ref 0), (1, .int (nI k)), (2, .int (nB bt))]) (st' := [.int 0]) (μ' := μ) (by rfl) ?_
      exact hr 0 17 _ _ _ (some (.int 0)) (by decide +kernel) (z_rx_ok hH (by rfl)) (⟨(by first | with_reducible rfl | (simp only [h1, h2, cond_true, cond_false]; done) | rfl), (by simp only [h1, h2, cond_true, cond_false])⟩)
theorem gc_hide (d : Nat) (hd : 7 ≤ d) (μ : zM) (t : Nat) (ht4 : t < 4) (ht : μ.1 0 8 = nI t) (k q : Nat) (hk : k < 34) (ham : k + zl 3 ≤ 33) (hq3 : q ≤ 3) (e4 : μ.1 (19 + 8 * t) 4 = nI q) (n k2 : Nat) (hn2 : n < 14) (hn : μ.1 2 3 = nI n) (hS1 : μ.1 2 1 = 1) (hk2 : k2 < 34) (hkk : μ.1 3 (122 + n) = nI k2) (mm : Bool) (hmm : ∀ d, 3 ≤ d → z_C d mi_X6_mayMakeFour [.ref 0] μ (zR μ (.int (nB mm)))) : z_C d mi_X6_hide [.ref 0, .int (nI k)] μ (fun r μ' => r = some ((bif mm then (bif decide (4 ≤ (fr μ (20 + 8 * t) (nI k))) then .int 1 else .int 0) else .int 0)) ∧ μ' = (bif mm then (bif decide (4 ≤ (fr μ (20 + 8 * t) (nI k))) then dT1 (bkH (ldS μ t 3 k q) ) t n k2 else μ) else μ)) := by
  refine z_C_in (by decide) (by omega) (fun d' Z ed hc hr => ?_)
  have hH : zH mi_X6_hide zt_X6_hide 79 6 2 := hh_X6_hide
  refine z_rcs hc hH 1 (pc' := 1) (lv' := [(0, .ref 0), (1, .int (nI k))]) (st' := [.ref 0]) (μ' := μ) (by rfl) ?_
  refine zq_call hc (z_cx_ok hH (by rfl)) (hmm d' (by omega)) (by decide +kernel) (fun r9 μ9 hq => ?_)
  obtain ⟨hμ9, rfl⟩ := hq
  rw [hμ9]
  clear hμ9 μ9
  show Z 0 4 [(0, .ref 0), (1, .int (nI k))] [.int (nB mm)] μ
  refine zq_if hc hH (by rfl) (tg := 26) (by rfl) (fun h1 => ?_) (fun h1 => ?_)
  · have h1 : (mm) = false := nB_z.mp (cm_eq9.mp h1)
    refine z_rcs hc hH 1 (pc' := 27) (lv' := [(0, .ref 0), (1, .int (nI k))]) (st' := [.int 0]) (μ' := μ) (by rfl) ?_
    exact hr 0 27 _ _ _ (some (.int 0)) (by decide +kernel) (z_rx_ok hH (by rfl)) (⟨(by first | with_reducible rfl | (simp only [h1, cond_true, cond_false]; done) | rfl), (by simp only [h1, cond_true, cond_false])⟩)
  · have h1 : (mm) = true := nB_n.mp (cn_eq.mp h1)
    refine z_rcs hc hH 2 (pc' := 9) (lv' := [(0, .ref 0), (1, .int (nI k))]) (st' := [.ref 0, .ref 0]) (μ' := μ) (by rfl) ?_
    refine zq_gfi hc hH (by rfl) (ci := 5) (f := 8) (by rfl) (by decide +kernel) (by rfl) ?_
    rw [ht]
    refine zq_call hc (z_cx_ok hH (by rfl)) (gc_at4 d' (by omega) μ t ht4) (by decide +kernel) (fun r9 μ9 hq => ?_)
    obtain ⟨hμ9, rfl⟩ := hq
    rw [hμ9]
    clear hμ9 μ9
    show Z 0 15 [(0, .ref 0), (1, .int (nI k))] [.ref (18 + 8 * t)] μ
    refine zq_gfr hc hH (by rfl) (ci := 1) (f := 0) (q := 19 + 8 * t) (by rfl) (sj (P := fun i => okf 79 1 0 (18 + 8 * i)) ht4 (by decide +kernel)) (by rfl) (sj (P := fun i => Nat.beq (z_gr (18 + 8 * i) 0) (19 + 8 * i)) ht4 (by decide +kernel)) ?_
    refine z_rcs hc hH 1 (pc' := 19) (lv' := [(0, .ref 0), (1, .int (nI k))]) (st' := [.int (nI k), .ref (19 + 8 * t)]) (μ' := μ) (by rfl) ?_
    refine zq_call hc (z_clv9 hH (by rfl) (by rfl) (by rfl) (by rfl) (sj (P := fun i => okr 79 2 (19 + 8 * i)) ht4 (by decide +kernel)) (by rfl) (by rfl)) (gc_free d' (by omega) μ t ht4 (nI k)) (by decide +kernel) (fun r9 μ9 hq => ?_)
    obtain ⟨hμ9, rfl⟩ := hq
    rw [hμ9]
    clear hμ9 μ9
    show Z 0 22 [(0, .ref 0), (1, .int (nI k))] [.int (fr μ (20 + 8 * t) (nI k))] μ
    refine z_rcs hc hH 1 (pc' := 23) (lv' := [(0, .ref 0), (1, .int (nI k))]) (st' := [.int 4, .int (fr μ (20 + 8 * t) (nI k))]) (μ' := μ) (by rfl) ?_
    refine zq_ic hc hH (by rfl) (tg := 28) (by rfl) (fun h2 => ?_) (fun h2 => ?_)
    · have h2 : (decide (4 ≤ (fr μ (20 + 8 * t) (nI k)))) = true := decide_eq_true (cm_ge.mp h2)
      refine z_rcs hc hH 2 (pc' := 30) (lv' := [(0, .ref 0), (1, .int (nI k))]) (st' := [.ref 0, .ref 0]) (μ' := μ) (by rfl) ?_
      refine zq_gfi hc hH (by rfl) (ci := 5) (f := 8) (by rfl) (by decide +kernel) (by rfl) ?_
      rw [ht]
      refine zq_call hc (z_cx_ok hH (by rfl)) (gc_at4 d' (by omega) μ t ht4) (by decide +kernel) (fun r9 μ9 hq => ?_)
      obtain ⟨hμ9, rfl⟩ := hq
      rw [hμ9]
      clear hμ9 μ9
      show Z 0 36 [(0, .ref 0), (1, .int (nI k))] [.ref (18 + 8 * t)] μ
      refine zq_gfr hc hH (by rfl) (ci := 1) (f := 0) (q := 19 + 8 * t) (by rfl) (sj (P := fun i => okf 79 1 0 (18 + 8 * i)) ht4 (by decide +kernel)) (by rfl) (sj (P := fun i => Nat.beq (z_gr (18 + 8 * i) 0) (19 + 8 * i)) ht4 (by decide +kernel)) ?_
      refine z_rcs hc hH 2 (pc' := 41) (lv' := [(0, .ref 0), (1, .int (nI k))]) (st' := [.int (nI k), .int 3, .ref (19 + 8 * t)]) (μ' := μ) (by rfl) ?_
      refine zq_call hc (z_clv9 hH (by rfl) (by rfl) (by rfl) (by rfl) (sj (P := fun i => okr 79 2 (19 + 8 * i)) ht4 (by decide +kernel)) (by rfl) (by rfl)) (gc_layE d' (by omega) μ t ht4 3 k q ham hq3 e4) (by decide +kernel) (fun r9 μ9 hq => ?_)
      obtain ⟨rfl, rfl⟩ := hq
      show Z 0 44 [(0, .ref 0), (1, .int (nI k))] [] (ldS μ t 3 k q)
      refine z_rcs hc hH 2 (pc' := 46) (lv' := [(0, .ref 0), (1, .int (nI k))]) (st' := [.ref 0, .ref 0]) (μ' := ldS μ t 3 k q) (by rfl) ?_
      refine zq_gfi hc hH (by rfl) (ci := 5) (f := 8) (by rfl) (by decide +kernel) (by rfl) ?_
      rw [ldS_o (by omega)]
      rw [ht]
      refine zq_call hc (z_cx_ok hH (by rfl)) (gc_makeFour d' (by omega) (ldS μ t 3 k q) t t n k2 (by omega) ht4 (Nat.mod_eq_of_lt ht4) hn2 (by rw [ldS_o (by omega)]; exact hn) (by rw [ldS_o (by omega)]; exact hS1) hk2 (by rw [ldS_o (by omega)]; exact hkk)) (by decide +kernel) (fun r9 μ9 hq => ?_)
      obtain ⟨rfl, rfl⟩ := hq
      show Z 0 52 [(0, .ref 0), (1, .int (nI k))] [] (dT1 (bkH (ldS μ t 3 k q) ) t n k2)
      refine z_rcs0 hc hH 1 (pc' := 53) (lv' := [(0, .ref 0), (1, .int (nI k))]) (st' := [.int 1]) (by rfl) ?_
      exact hr 0 53 _ _ _ (some (.int 1)) (by decide +kernel) (z_rx_ok hH (by rfl)) (⟨(by first | with_reducible rfl | (simp only [h1, h2, cond_true, cond_false]; done) | rfl), (by simp only [h1, h2, cond_true, cond_false])⟩)
    · have h2 : (decide (4 ≤ (fr μ (20 + 8 * t) (nI k)))) = false := decide_eq_false (cn_ge.mp h2)
      refine z_rcs hc hH 1 (pc' := 27) (lv' := [(0, .ref 0), (1, .int (nI k))]) (st' := [.int 0]) (μ' := μ) (by rfl) ?_
      exact hr 0 27 _ _ _ (some (.int 0)) (by decide +kernel) (z_rx_ok hH (by rfl)) (⟨(by first | with_reducible rfl | (simp only [h1, h2, cond_true, cond_false]; done) | rfl), (by simp only [h1, h2, cond_true, cond_false])⟩)
theorem tkS_o {μ : zM} {s a q t c u1 u2 u3 r k : Nat} {so : Int32} {c1 c2 c3 : Bool} (h : r = 2 ∨ r = 3) : (tkS μ s a q so t c u1 u2 u3 c1 c2 c3).1 r k = μ.1 r k := by
  unfold tkS
  rw [ui_o (by first | decide | omega), ui_o (by first | decide | omega), ui_o (by first | decide | omega), ldS_o (by omega), pS_g (by omega), bkH_r (by omega), lT_r (by omega)]
theorem gc_four (d : Nat) (hd : 11 ≤ d) (μ : zM) (s q : Nat) (hs4 : s < 4) (hq3 : q ≤ 3) (e4 : μ.1 (19 + 8 * s) 4 = nI q)  (n k2 : Nat) (hn2 : n < 14) (hn : μ.1 2 3 = nI n) (hS1 : μ.1 2 1 = 1) (hk2 : k2 < 34) (hkk : μ.1 3 (122 + n) = nI k2) (t c u1 u2 u3 : Nat) (c1 c2 c3 : Bool) (ht4 : t < 4) (ht : μ.1 0 8 = nI t) (hc34 : c < 34) (hc15 : μ.1 0 15 = nI c) (hu1 : (t + 1) % 4 = u1) (hu14 : u1 < 4) (hw1 : ∀ μ1, TE μ μ1 → ∀ d, 6 ≤ d → z_C d mi_X3_waitsFor [.ref (19 + 8 * u1), .int (nI c)] μ1 (zR μ1 (.int (nB c1)))) (hu2 : (t + 2) % 4 = u2) (hu24 : u2 < 4) (hw2 : ∀ μ1, TE μ μ1 → ∀ d, 6 ≤ d → z_C d mi_X3_waitsFor [.ref (19 + 8 * u2), .int (nI c)] μ1 (zR μ1 (.int (nB c2)))) (hu3 : (t + 3) % 4 = u3) (hu34 : u3 < 4) (hw3 : ∀ μ1, TE μ μ1 → ∀ d, 6 ≤ d → z_C d mi_X3_waitsFor [.ref (19 + 8 * u3), .int (nI c)] μ1 (zR μ1 (.int (nB c3)))) (ham : c + zl 2 ≤ 33) (mc : Bool) (hmc : ∀ d, 3 ≤ d → z_C d mi_X6_mayClaimSet [.ref 0, .int (nI s)] μ (zR μ (.int (nB mc)))) : z_C d mi_X6_four [.ref 0, .int (nI s)] μ (fun r μ' => r = some ((bif mc then (bif decide ((fr μ (20 + 8 * s) (nI c)) < 3) then .int 0 else (bif decide ((μ.1 2 3) < 4) then .int 1 else .int 0)) else .int 0)) ∧ μ' = (bif mc then (bif decide ((fr μ (20 + 8 * s) (nI c)) < 3) then μ else (bif decide ((μ.1 2 3) < 4) then dT1 (bkH (tkS μ s c q 2 t c u1 u2 u3 c1 c2 c3) ) s n k2 else μ)) else μ)) := by
  refine z_C_in (by decide) (by omega) (fun d' Z ed hc hr => ?_)
  have hH : zH mi_X6_four zt_X6_four 79 6 2 := hh_X6_four
  refine z_rcs hc hH 2 (pc' := 2) (lv' := [(0, .ref 0), (1, .int (nI s))]) (st' := [.int (nI s), .ref 0]) (μ' := μ) (by rfl) ?_
  refine zq_call hc (z_cx_ok hH (by rfl)) (hmc d' (by omega)) (by decide +kernel) (fun r9 μ9 hq => ?_)
  obtain ⟨hμ9, rfl⟩ := hq
  rw [hμ9]
  clear hμ9 μ9
  show Z 0 5 [(0, .ref 0), (1, .int (nI s))] [.int (nB mc)] μ
  refine zq_if hc hH (by rfl) (tg := 38) (by rfl) (fun h1 => ?_) (fun h1 => ?_)
  · have h1 : (mc) = false := nB_z.mp (cm_eq9.mp h1)
    refine z_rcs hc hH 1 (pc' := 39) (lv' := [(0, .ref 0), (1, .int (nI s))]) (st' := [.int 0]) (μ' := μ) (by rfl) ?_
    exact hr 0 39 _ _ _ (some (.int 0)) (by decide +kernel) (z_rx_ok hH (by rfl)) (⟨(by first | with_reducible rfl | (simp only [h1, cond_true, cond_false]; done) | rfl), (by simp only [h1, cond_true, cond_false])⟩)
  · have h1 : (mc) = true := nB_n.mp (cn_eq.mp h1)
    refine z_rcs hc hH 2 (pc' := 10) (lv' := [(0, .ref 0), (1, .int (nI s))]) (st' := [.int (nI s), .ref 0]) (μ' := μ) (by rfl) ?_
    refine zq_call hc (z_cx_ok hH (by rfl)) (gc_at4 d' (by omega) μ s hs4) (by decide +kernel) (fun r9 μ9 hq => ?_)
    obtain ⟨hμ9, rfl⟩ := hq
    rw [hμ9]
    clear hμ9 μ9
    show Z 0 13 [(0, .ref 0), (1, .int (nI s))] [.ref (18 + 8 * s)] μ
    refine zq_gfr hc hH (by rfl) (ci := 1) (f := 0) (q := 19 + 8 * s) (by rfl) (sj (P := fun i => okf 79 1 0 (18 + 8 * i)) hs4 (by decide +kernel)) (by rfl) (sj (P := fun i => Nat.beq (z_gr (18 + 8 * i) 0) (19 + 8 * i)) hs4 (by decide +kernel)) ?_
    refine z_rcs hc hH 1 (pc' := 17) (lv' := [(0, .ref 0), (1, .int (nI s))]) (st' := [.ref 0, .ref (19 + 8 * s)]) (μ' := μ) (by rfl) ?_
    refine zq_gfi hc hH (by rfl) (ci := 5) (f := 15) (by rfl) (by decide +kernel) (by rfl) ?_
    rw [hc15]
    refine zq_call hc (z_clv9 hH (by rfl) (by rfl) (by rfl) (by rfl) (sj (P := fun i => okr 79 2 (19 + 8 * i)) hs4 (by decide +kernel)) (by rfl) (by rfl)) (gc_free d' (by omega) μ s hs4 (nI c)) (by decide +kernel) (fun r9 μ9 hq => ?_)
    obtain ⟨hμ9, rfl⟩ := hq
    rw [hμ9]
    clear hμ9 μ9
    show Z 0 23 [(0, .ref 0), (1, .int (nI s))] [.int (fr μ (20 + 8 * s) (nI c))] μ
    refine z_rcs hc hH 1 (pc' := 24) (lv' := [(0, .ref 0), (1, .int (nI s))]) (st' := [.int 3, .int (fr μ (20 + 8 * s) (nI c))]) (μ' := μ) (by rfl) ?_
    refine zq_ic hc hH (by rfl) (tg := 38) (by rfl) (fun h2 => ?_) (fun h2 => ?_)
    · have h2 : (decide ((fr μ (20 + 8 * s) (nI c)) < 3)) = true := decide_eq_true (cm_lt.mp h2)
      refine z_rcs hc hH 1 (pc' := 39) (lv' := [(0, .ref 0), (1, .int (nI s))]) (st' := [.int 0]) (μ' := μ) (by rfl) ?_
      exact hr 0 39 _ _ _ (some (.int 0)) (by decide +kernel) (z_rx_ok hH (by rfl)) (⟨(by first | with_reducible rfl | (simp only [h1, h2, cond_true, cond_false]; done) | rfl), (by simp only [h1, h2, cond_true, cond_false])⟩)
    · have h2 : (decide ((fr μ (20 + 8 * s) (nI c)) < 3)) = false := decide_eq_false (cn_lt.mp h2)
      refine z_rcs hc hH 1 (pc' := 28) (lv' := [(0, .ref 0), (1, .int (nI s))]) (st' := [.ref 0]) (μ' := μ) (by rfl) ?_
      refine zq_gfr hc hH (by rfl) (ci := 5) (f := 1) (q := 2) (by rfl) (by decide +kernel) (by rfl) (by decide +kernel) ?_
      refine zq_gfi hc hH (by rfl) (ci := 3) (f := 3) (by rfl) (by decide +kernel) (by rfl) ?_
      refine z_rcs hc hH 1 (pc' := 35) (lv' := [(0, .ref 0), (1, .int (nI s))]) (st' := [.int 4, .int (μ.1 2 3)]) (μ' := μ) (by rfl) ?_
      refine zq_ic hc hH (by rfl) (tg := 40) (by rfl) (fun h3 => ?_) (fun h3 => ?_)
      · have h3 : (decide ((μ.1 2 3) < 4)) = true := decide_eq_true (cm_lt.mp h3)
        refine z_rcs hc hH 4 (pc' := 44) (lv' := [(0, .ref 0), (1, .int (nI s))]) (st' := [.ref 0, .int 2, .int (nI s), .ref 0]) (μ' := μ) (by rfl) ?_
        refine zq_gfi hc hH (by rfl) (ci := 5) (f := 15) (by rfl) (by decide +kernel) (by rfl) ?_
        rw [hc15]
        refine zq_call hc (z_cx_ok hH (by rfl)) (gc_takeSet d' (by omega) μ s c q 2 hs4 ham hq3 e4 t c u1 u2 u3 c1 c2 c3 ht4 ht hc34 hc15 hu1 hu14 hw1 hu2 hu24 hw2 hu3 hu34 hw3) (by decide +kernel) (fun r9 μ9 hq => ?_)
        obtain ⟨rfl, rfl⟩ := hq
        show Z 0 50 [(0, .ref 0), (1, .int (nI s))] [] (tkS μ s c q 2 t c u1 u2 u3 c1 c2 c3)
        refine z_rcs0 hc hH 2 (pc' := 52) (lv' := [(0, .ref 0), (1, .int (nI s))]) (st' := [.int (nI s), .ref 0]) (by rfl) ?_
        refine zq_call hc (z_cx_ok hH (by rfl)) (gc_makeFour d' (by omega) (tkS μ s c q 2 t c u1 u2 u3 c1 c2 c3) s s n k2 (by omega) hs4 (Nat.mod_eq_of_lt hs4) hn2 (by rw [tkS_o (by omega)]; exact hn) (by rw [tkS_o (by omega)]; exact hS1) hk2 (by rw [tkS_o (by omega)]; exact hkk)) (by decide +kernel) (fun r9 μ9 hq => ?_)
        obtain ⟨rfl, rfl⟩ := hq
        show Z 0 55 [(0, .ref 0), (1, .int (nI s))] [] (dT1 (bkH (tkS μ s c q 2 t c u1 u2 u3 c1 c2 c3) ) s n k2)
        refine z_rcs0 hc hH 1 (pc' := 56) (lv' := [(0, .ref 0), (1, .int (nI s))]) (st' := [.int 1]) (by rfl) ?_
        exact hr 0 56 _ _ _ (some (.int 1)) (by decide +kernel) (z_rx_ok hH (by rfl)) (⟨(by first | with_reducible rfl | (simp only [h1, h2, h3, cond_true, cond_false]; done) | rfl), (by simp only [h1, h2, h3, cond_true, cond_false])⟩)
      · have h3 : (decide ((μ.1 2 3) < 4)) = false := decide_eq_false (cn_lt.mp h3)
        refine z_rcs hc hH 1 (pc' := 39) (lv' := [(0, .ref 0), (1, .int (nI s))]) (st' := [.int 0]) (μ' := μ) (by rfl) ?_
        exact hr 0 39 _ _ _ (some (.int 0)) (by decide +kernel) (z_rx_ok hH (by rfl)) (⟨(by first | with_reducible rfl | (simp only [h1, h2, h3, cond_true, cond_false]; done) | rfl), (by simp only [h1, h2, h3, cond_true, cond_false])⟩)
theorem gc_three (d : Nat) (hd : 11 ≤ d) (μ : zM) (s q : Nat) (hs4 : s < 4) (hq3 : q ≤ 3) (e4 : μ.1 (19 + 8 * s) 4 = nI q) (t c u1 u2 u3 : Nat) (c1 c2 c3 : Bool) (ht4 : t < 4) (ht : μ.1 0 8 = nI t) (hc34 : c < 34) (hc15 : μ.1 0 15 = nI c) (hu1 : (t + 1) % 4 = u1) (hu14 : u1 < 4) (hw1 : ∀ μ1, TE μ μ1 → ∀ d, 6 ≤ d → z_C d mi_X3_waitsFor [.ref (19 + 8 * u1), .int (nI c)] μ1 (zR μ1 (.int (nB c1)))) (hu2 : (t + 2) % 4 = u2) (hu24 : u2 < 4) (hw2 : ∀ μ1, TE μ μ1 → ∀ d, 6 ≤ d → z_C d mi_X3_waitsFor [.ref (19 + 8 * u2), .int (nI c)] μ1 (zR μ1 (.int (nB c2)))) (hu3 : (t + 3) % 4 = u3) (hu34 : u3 < 4) (hw3 : ∀ μ1, TE μ μ1 → ∀ d, 6 ≤ d → z_C d mi_X3_waitsFor [.ref (19 + 8 * u3), .int (nI c)] μ1 (zR μ1 (.int (nB c3)))) (ham : c + zl 1 ≤ 33) (mc : Bool) (hmc : ∀ d, 3 ≤ d → z_C d mi_X6_mayClaimSet [.ref 0, .int (nI s)] μ (zR μ (.int (nB mc)))) (ko : Bool) (hko : ∀ d, 3 ≤ d → z_C d mi_X6_keepsOther [.ref (19 + 8 * s), .long 0, .long (1 <<< ((nI c).toInt64 &&& 63))] μ (zR μ (.int (nB ko)))) : z_C d mi_X6_three [.ref 0, .int (nI s)] μ (fun r μ' => r = some ((bif mc then (bif decide (2 ≤ (fr μ (20 + 8 * s) (nI c))) then (bif ko then .int 1 else .int 0) else .int 0) else .int 0)) ∧ μ' = (bif mc then (bif decide (2 ≤ (fr μ (20 + 8 * s) (nI c))) then (bif ko then z_uj (tkS μ s c q 1 t c u1 u2 u3 c1 c2 c3) 0 18 (1 <<< ((nI c).toInt64 &&& 63)) else μ) else μ) else μ)) := by
  refine z_C_in (by decide) (by omega) (fun d' Z ed hc hr => ?_)
  have hH : zH mi_X6_three zt_X6_three 79 6 4 := hh_X6_three
  refine z_rcs hc hH 2 (pc' := 2) (lv' := [(0, .ref 0), (1, .int (nI s))]) (st' := [.int (nI s), .ref 0]) (μ' := μ) (by rfl) ?_
  refine zq_call hc (z_cx_ok hH (by rfl)) (hmc d' (by omega)) (by decide +kernel) (fun r9 μ9 hq => ?_)
  obtain ⟨hμ9, rfl⟩ := hq
  rw [hμ9]
  clear hμ9 μ9
  show Z 0 5 [(0, .ref 0), (1, .int (nI s))] [.int (nB mc)] μ
  refine zq_if hc hH (by rfl) (tg := 27) (by rfl) (fun h1 => ?_) (fun h1 => ?_)
  · have h1 : (mc) = false := nB_z.mp (cm_eq9.mp h1)
    refine z_rcs hc hH 1 (pc' := 28) (lv' := [(0, .ref 0), (1, .int (nI s))]) (st' := [.int 0]) (μ' := μ) (by rfl) ?_
    exact hr 0 28 _ _ _ (some (.int 0)) (by decide +kernel) (z_rx_ok hH (by rfl)) (⟨(by first | with_reducible rfl | (simp only [h1, cond_true, cond_false]; done) | rfl), (by simp only [h1, cond_true, cond_false])⟩)
  · have h1 : (mc) = true := nB_n.mp (cn_eq.mp h1)
    refine z_rcs hc hH 2 (pc' := 10) (lv' := [(0, .ref 0), (1, .int (nI s))]) (st' := [.int (nI s), .ref 0]) (μ' := μ) (by rfl) ?_
    refine zq_call hc (z_cx_ok hH (by rfl)) (gc_at4 d' (by omega) μ s hs4) (by decide +kernel) (fun r9 μ9 hq => ?_)
    obtain ⟨hμ9, rfl⟩ := hq
    rw [hμ9]
    clear hμ9 μ9
    show Z 0 13 [(0, .ref 0), (1, .int (nI s))] [.ref (18 + 8 * s)] μ
    refine zq_gfr hc hH (by rfl) (ci := 1) (f := 0) (q := 19 + 8 * s) (by rfl) (sj (P := fun i => okf 79 1 0 (18 + 8 * i)) hs4 (by decide +kernel)) (by rfl) (sj (P := fun i => Nat.beq (z_gr (18 + 8 * i) 0) (19 + 8 * i)) hs4 (by decide +kernel)) ?_
    refine z_rcs hc hH 1 (pc' := 17) (lv' := [(0, .ref 0), (1, .int (nI s))]) (st' := [.ref 0, .ref (19 + 8 * s)]) (μ' := μ) (by rfl) ?_
    refine zq_gfi hc hH (by rfl) (ci := 5) (f := 15) (by rfl) (by decide +kernel) (by rfl) ?_
    rw [hc15]
    refine zq_call hc (z_clv9 hH (by rfl) (by rfl) (by rfl) (by rfl) (sj (P := fun i => okr 79 2 (19 + 8 * i)) hs4 (by decide +kernel)) (by rfl) (by rfl)) (gc_free d' (by omega) μ s hs4 (nI c)) (by decide +kernel) (fun r9 μ9 hq => ?_)
    obtain ⟨hμ9, rfl⟩ := hq
    rw [hμ9]
    clear hμ9 μ9
    show Z 0 23 [(0, .ref 0), (1, .int (nI s))] [.int (fr μ (20 + 8 * s) (nI c))] μ
    refine z_rcs hc hH 1 (pc' := 24) (lv' := [(0, .ref 0), (1, .int (nI s))]) (st' := [.int 2, .int (fr μ (20 + 8 * s) (nI c))]) (μ' := μ) (by rfl) ?_
    refine zq_ic hc hH (by rfl) (tg := 29) (by rfl) (fun h2 => ?_) (fun h2 => ?_)
    · have h2 : (decide (2 ≤ (fr μ (20 + 8 * s) (nI c)))) = true := decide_eq_true (cm_ge.mp h2)
      refine z_rcs hc hH 2 (pc' := 31) (lv' := [(0, .ref 0), (1, .int (nI s))]) (st' := [.ref 0, .long 1]) (μ' := μ) (by rfl) ?_
      refine zq_gfi hc hH (by rfl) (ci := 5) (f := 15) (by rfl) (by decide +kernel) (by rfl) ?_
      rw [hc15]
      refine z_rcs hc hH 4 (pc' := 38) (lv' := [(2, .long (1 <<< ((nI c).toInt64 &&& 63))), (0, .ref 0), (1, .int (nI s))]) (st' := [.int (nI s), .ref 0]) (μ' := μ) (by rfl) ?_
      refine zq_call hc (z_cx_ok hH (by rfl)) (gc_at4 d' (by omega) μ s hs4) (by decide +kernel) (fun r9 μ9 hq => ?_)
      obtain ⟨hμ9, rfl⟩ := hq
      rw [hμ9]
      clear hμ9 μ9
      show Z 0 41 [(2, .long (1 <<< ((nI c).toInt64 &&& 63))), (0, .ref 0), (1, .int (nI s))] [.ref (18 + 8 * s)] μ
      refine zq_gfr hc hH (by rfl) (ci := 1) (f := 0) (q := 19 + 8 * s) (by rfl) (sj (P := fun i => okf 79 1 0 (18 + 8 * i)) hs4 (by decide +kernel)) (by rfl) (sj (P := fun i => Nat.beq (z_gr (18 + 8 * i) 0) (19 + 8 * i)) hs4 (by decide +kernel)) ?_
      refine z_rcs hc hH 2 (pc' := 46) (lv' := [(2, .long (1 <<< ((nI c).toInt64 &&& 63))), (0, .ref 0), (1, .int (nI s))]) (st' := [.long (1 <<< ((nI c).toInt64 &&& 63)), .long 0, .ref (19 + 8 * s)]) (μ' := μ) (by rfl) ?_
      refine zq_call hc (z_cx_ok hH (by rfl)) (hko d' (by omega)) (by decide +kernel) (fun r9 μ9 hq => ?_)
      obtain ⟨hμ9, rfl⟩ := hq
      rw [hμ9]
      clear hμ9 μ9
      show Z 0 49 [(2, .long (1 <<< ((nI c).toInt64 &&& 63))), (0, .ref 0), (1, .int (nI s))] [.int (nB ko)] μ
      refine zq_if hc hH (by rfl) (tg := 54) (by rfl) (fun h3 => ?_) (fun h3 => ?_)
      · have h3 : (ko) = true := nB_n.mp (cm_ne.mp h3)
        refine z_rcs hc hH 4 (pc' := 58) (lv' := [(2, .long (1 <<< ((nI c).toInt64 &&& 63))), (0, .ref 0), (1, .int (nI s))]) (st' := [.ref 0, .int 1, .int (nI s), .ref 0]) (μ' := μ) (by rfl) ?_
        refine zq_gfi hc hH (by rfl) (ci := 5) (f := 15) (by rfl) (by decide +kernel) (by rfl) ?_
        rw [hc15]
        refine zq_call hc (z_cx_ok hH (by rfl)) (gc_takeSet d' (by omega) μ s c q 1 hs4 ham hq3 e4 t c u1 u2 u3 c1 c2 c3 ht4 ht hc34 hc15 hu1 hu14 hw1 hu2 hu24 hw2 hu3 hu34 hw3) (by decide +kernel) (fun r9 μ9 hq => ?_)
        obtain ⟨rfl, rfl⟩ := hq
        show Z 0 64 [(2, .long (1 <<< ((nI c).toInt64 &&& 63))), (0, .ref 0), (1, .int (nI s))] [] (tkS μ s c q 1 t c u1 u2 u3 c1 c2 c3)
        refine z_rcs0 hc hH 2 (pc' := 66) (lv' := [(2, .long (1 <<< ((nI c).toInt64 &&& 63))), (0, .ref 0), (1, .int (nI s))]) (st' := [.long (1 <<< ((nI c).toInt64 &&& 63)), .ref 0]) (by rfl) ?_
        refine zq_pfl hc hH (by rfl) (ci := 5) (f := 18) (by rfl) (by decide +kernel) (by rfl) ?_
        show Z 0 69 [(2, .long (1 <<< ((nI c).toInt64 &&& 63))), (0, .ref 0), (1, .int (nI s))] [] (z_uj (tkS μ s c q 1 t c u1 u2 u3 c1 c2 c3) 0 18 (1 <<< ((nI c).toInt64 &&& 63)))
        refine z_rcs0 hc hH 1 (pc' := 70) (lv' := [(2, .long (1 <<< ((nI c).toInt64 &&& 63))), (0, .ref 0), (1, .int (nI s))]) (st' := [.int 1]) (by rfl) ?_
        exact hr 0 70 _ _ _ (some (.int 1)) (by decide +kernel) (z_rx_ok hH (by rfl)) (⟨(by first | with_reducible rfl | (simp only [h1, h2, h3, cond_true, cond_false]; done) | rfl), (by simp only [h1, h2, h3, cond_true, cond_false])⟩)
      · have h3 : (ko) = false := nB_z.mp (cn_ne.mp h3)
        refine z_rcs hc hH 1 (pc' := 53) (lv' := [(2, .long (1 <<< ((nI c).toInt64 &&& 63))), (0, .ref 0), (1, .int (nI s))]) (st' := [.int 0]) (μ' := μ) (by rfl) ?_
        exact hr 0 53 _ _ _ (some (.int 0)) (by decide +kernel) (z_rx_ok hH (by rfl)) (⟨(by first | with_reducible rfl | (simp only [h1, h2, h3, cond_true, cond_false]; done) | rfl), (by simp only [h1, h2, h3, cond_true, cond_false])⟩)
    · have h2 : (decide (2 ≤ (fr μ (20 + 8 * s) (nI c)))) = false := decide_eq_false (cn_ge.mp h2)
      refine z_rcs hc hH 1 (pc' := 28) (lv' := [(0, .ref 0), (1, .int (nI s))]) (st' := [.int 0]) (μ' := μ) (by rfl) ?_
      exact hr 0 28 _ _ _ (some (.int 0)) (by decide +kernel) (z_rx_ok hH (by rfl)) (⟨(by first | with_reducible rfl | (simp only [h1, h2, cond_true, cond_false]; done) | rfl), (by simp only [h1, h2, cond_true, cond_false])⟩)
/-! the game: a hand is weighed -/
set_option maxRecDepth 8000
theorem gc_wind (d : Nat) (hd : 1 ≤ d) (μ : zM) (x y : Int32) (h : (x - μ.1 0 9) &&& 3 = y) : z_C d mi_X6_windOf [.ref 0, .int x] μ (zR μ (.int y)) := by
  rw [← h]; exact gc_windOf d hd μ x
theorem gc_weigh0 (d : Nat) (hd : 10 ≤ d) (μ : zM) (s c : Nat) (hs4 : s < 4) (hc34 : c < 34) (hc15 : μ.1 0 15 = nI c) (to1 to2 : Int64) (de wd : Int32) (hwd : (nI s - μ.1 0 9) &&& 3 = wd) (hto : ∀ d, 3 ≤ d → z_C d mi_X6_toldForms [.ref 0, .ref (18 + 8 * s), .int 0] (pS μ s c 1) (zR (pS μ s c 1) (.long to1))) (hfd : ∀ d, 3 ≤ d → z_C d mi_X6_firstDraw [.ref 0, .int (nI s), .int 0] (pS μ s c 1) (zR (pS μ s c 1) (.long to2))) (hde : ∀ d, 3 ≤ d → z_C d mi_X4_dearTiles [.ref 2, .ref (19 + 8 * s), .int (nB (!decide (μ.1 (18 + 8 * s) 5 = 0)))] (pS μ s c 1) (zR (pS μ s c 1) (.int de))) (J : zM → Prop) (hJ15 : ∀ m, J m → m.1 0 15 = nI c) (hjd : ∀ d, 8 ≤ d → z_C d mi_X1_judge [.ref 4, .ref (19 + 8 * s), .int (nI c), .int 0, .long (to1 ||| to2), .int (wd ||| (μ.1 0 10 <<< (2 &&& 31))), .int de] (pS μ s c 1) (fun r μ' => r = none ∧ J μ')) : z_C d mi_X6_weighHand [.ref 0, .int (nI s), .int 0] μ (fun r μ' => ∃ μj, J μj ∧ μ' = pS μj s c (-1) ∧ r = some (.int (μj.1 4 0))) := by
  refine z_C_in (by decide) (by omega) (fun d' Z ed hc hr => ?_)
  have hH : zH mi_X6_weighHand zt_X6_weighHand 79 6 7 := hh_X6_weighHand
  refine z_rcs hc hH 2 (pc' := 2) (lv' := [(0, .ref 0), (1, .int (nI s)), (2, .int 0)]) (st' := [.int (nI s), .ref 0]) (μ' := μ) (by rfl) ?_
  refine zq_call hc (z_cx_ok hH (by rfl)) (gc_at4 d' (by omega) μ s hs4) (by decide +kernel) (fun r9 μ9 hq => ?_)
  obtain ⟨hμ9, rfl⟩ := hq
  rw [hμ9]
  clear hμ9 μ9
  show Z 0 5 [(0, .ref 0), (1, .int (nI s)), (2, .int 0)] [.ref (18 + 8 * s)] μ
  refine z_rcs hc hH 4 (pc' := 11) (lv' := [(3, .ref (18 + 8 * s)), (0, .ref 0), (1, .int (nI s)), (2, .int 0)]) (st' := [.ref (18 + 8 * s)]) (μ' := μ) (by rfl) ?_
  refine zq_gfr hc hH (by rfl) (ci := 1) (f := 0) (q := 19 + 8 * s) (by rfl) (sj (P := fun i => okf 79 1 0 (18 + 8 * i)) hs4 (by decide +kernel)) (by rfl) (sj (P := fun i => Nat.beq (z_gr (18 + 8 * i) 0) (19 + 8 * i)) hs4 (by decide +kernel)) ?_
  refine z_rcs hc hH 1 (pc' := 15) (lv' := [(3, .ref (18 + 8 * s)), (0, .ref 0), (1, .int (nI s)), (2, .int 0)]) (st' := [.ref 0, .ref (19 + 8 * s)]) (μ' := μ) (by rfl) ?_
  refine zq_gfi hc hH (by rfl) (ci := 5) (f := 15) (by rfl) (by decide +kernel) (by rfl) ?_
  rw [hc15]
  refine z_rcs hc hH 1 (pc' := 19) (lv' := [(3, .ref (18 + 8 * s)), (0, .ref 0), (1, .int (nI s)), (2, .int 0)]) (st' := [.int 1, .int (nI c), .ref (19 + 8 * s)]) (μ' := μ) (by rfl) ?_
  refine zq_call hc (z_clv9 hH (by rfl) (by rfl) (by rfl) (by rfl) (sj (P := fun i => okr 79 2 (19 + 8 * i)) hs4 (by decide +kernel)) (by rfl) (by rfl)) (gc_put d' (by omega) μ s hs4 c hc34 1) (by decide +kernel) (fun r9 μ9 hq => ?_)
  obtain ⟨rfl, rfl⟩ := hq
  show Z 0 22 [(3, .ref (18 + 8 * s)), (0, .ref 0), (1, .int (nI s)), (2, .int 0)] [] (pS μ s c 1)
  refine z_rcs hc hH 3 (pc' := 25) (lv' := [(3, .ref (18 + 8 * s)), (0, .ref 0), (1, .int (nI s)), (2, .int 0)]) (st' := [.int 0, .ref (18 + 8 * s), .ref 0]) (μ' := pS μ s c 1) (by rfl) ?_
  refine zq_call hc (z_cx_ok hH (by rfl)) (hto d' (by omega)) (by decide +kernel) (fun r9 μ9 hq => ?_)
  obtain ⟨hμ9, rfl⟩ := hq
  rw [hμ9]
  clear hμ9 μ9
  show Z 0 28 [(3, .ref (18 + 8 * s)), (0, .ref 0), (1, .int (nI s)), (2, .int 0)] [.long to1] (pS μ s c 1)
  refine z_rcs hc hH 3 (pc' := 31) (lv' := [(3, .ref (18 + 8 * s)), (0, .ref 0), (1, .int (nI s)), (2, .int 0)]) (st' := [.int 0, .int (nI s), .ref 0, .long to1]) (μ' := pS μ s c 1) (by rfl) ?_
  refine zq_call hc (z_cx_ok hH (by rfl)) (hfd d' (by omega)) (by decide +kernel) (fun r9 μ9 hq => ?_)
  obtain ⟨hμ9, rfl⟩ := hq
  rw [hμ9]
  clear hμ9 μ9
  show Z 0 34 [(3, .ref (18 + 8 * s)), (0, .ref 0), (1, .int (nI s)), (2, .int 0)] [.long to2, .long to1] (pS μ s c 1)
  refine z_rcs hc hH 3 (pc' := 38) (lv' := [(4, .long (to1 ||| to2)), (3, .ref (18 + 8 * s)), (0, .ref 0), (1, .int (nI s)), (2, .int 0)]) (st' := [.ref 0]) (μ' := pS μ s c 1) (by rfl) ?_
  refine zq_gfr hc hH (by rfl) (ci := 5) (f := 1) (q := 2) (by rfl) (by decide +kernel) (by rfl) (by decide +kernel) ?_
  refine z_rcs hc hH 1 (pc' := 42) (lv' := [(4, .long (to1 ||| to2)), (3, .ref (18 + 8 * s)), (0, .ref 0), (1, .int (nI s)), (2, .int 0)]) (st' := [.ref (18 + 8 * s), .ref 2]) (μ' := pS μ s c 1) (by rfl) ?_
  refine zq_gfr hc hH (by rfl) (ci := 1) (f := 0) (q := 19 + 8 * s) (by rfl) (sj (P := fun i => okf 79 1 0 (18 + 8 * i)) hs4 (by decide +kernel)) (by rfl) (sj (P := fun i => Nat.beq (z_gr (18 + 8 * i) 0) (19 + 8 * i)) hs4 (by decide +kernel)) ?_
  refine z_rcs hc hH 1 (pc' := 46) (lv' := [(4, .long (to1 ||| to2)), (3, .ref (18 + 8 * s)), (0, .ref 0), (1, .int (nI s)), (2, .int 0)]) (st' := [.ref (18 + 8 * s), .ref (19 + 8 * s), .ref 2]) (μ' := pS μ s c 1) (by rfl) ?_
  refine zq_gfi hc hH (by rfl) (ci := 1) (f := 5) (by rfl) (sj (P := fun i => okf 79 1 5 (18 + 8 * i)) hs4 (by decide +kernel)) (by rfl) ?_
  rw [pS_g (by omega)]
  have hJ1 : Z 0 57 [(4, .long (to1 ||| to2)), (3, .ref (18 + 8 * s)), (0, .ref 0), (1, .int (nI s)), (2, .int 0)] [.int (nB (!(decide ((μ.1 (18 + 8 * s) 5) = 0)))), .ref (19 + 8 * s), .ref 2] (pS μ s c 1) := by
    refine zq_call hc (z_cx_ok hH (by rfl)) (hde d' (by omega)) (by decide +kernel) (fun r9 μ9 hq => ?_)
    obtain ⟨hμ9, rfl⟩ := hq
    rw [hμ9]
    clear hμ9 μ9
    show Z 0 60 [(4, .long (to1 ||| to2)), (3, .ref (18 + 8 * s)), (0, .ref 0), (1, .int (nI s)), (2, .int 0)] [.int de] (pS μ s c 1)
    refine z_rcs hc hH 2 (pc' := 63) (lv' := [(6, .int de), (4, .long (to1 ||| to2)), (3, .ref (18 + 8 * s)), (0, .ref 0), (1, .int (nI s)), (2, .int 0)]) (st' := [.ref 0]) (μ' := pS μ s c 1) (by rfl) ?_
    refine zq_gfr hc hH (by rfl) (ci := 5) (f := 2) (q := 4) (by rfl) (by decide +kernel) (by rfl) (by decide +kernel) ?_
    refine z_rcs hc hH 1 (pc' := 67) (lv' := [(6, .int de), (4, .long (to1 ||| to2)), (3, .ref (18 + 8 * s)), (0, .ref 0), (1, .int (nI s)), (2, .int 0)]) (st' := [.ref (18 + 8 * s), .ref 4]) (μ' := pS μ s c 1) (by rfl) ?_
    refine zq_gfr hc hH (by rfl) (ci := 1) (f := 0) (q := 19 + 8 * s) (by rfl) (sj (P := fun i => okf 79 1 0 (18 + 8 * i)) hs4 (by decide +kernel)) (by rfl) (sj (P := fun i => Nat.beq (z_gr (18 + 8 * i) 0) (19 + 8 * i)) hs4 (by decide +kernel)) ?_
    refine z_rcs hc hH 1 (pc' := 71) (lv' := [(6, .int de), (4, .long (to1 ||| to2)), (3, .ref (18 + 8 * s)), (0, .ref 0), (1, .int (nI s)), (2, .int 0)]) (st' := [.ref 0, .ref (19 + 8 * s), .ref 4]) (μ' := pS μ s c 1) (by rfl) ?_
    refine zq_gfi hc hH (by rfl) (ci := 5) (f := 15) (by rfl) (by decide +kernel) (by rfl) ?_
    rw [pS_g (by omega)]
    rw [hc15]
    refine z_rcs hc hH 4 (pc' := 79) (lv' := [(6, .int de), (4, .long (to1 ||| to2)), (3, .ref (18 + 8 * s)), (0, .ref 0), (1, .int (nI s)), (2, .int 0)]) (st' := [.int (nI s), .ref 0, .long (to1 ||| to2), .int 0, .int (nI c), .ref (19 + 8 * s), .ref 4]) (μ' := pS μ s c 1) (by rfl) ?_
    refine zq_call hc (z_cx_ok hH (by rfl)) (gc_wind d' (by omega) (pS μ s c 1) (nI s) wd (by rw [pS_g (by omega)]; exact hwd)) (by decide +kernel) (fun r9 μ9 hq => ?_)
    obtain ⟨hμ9, rfl⟩ := hq
    rw [hμ9]
    clear hμ9 μ9
    show Z 0 82 [(6, .int de), (4, .long (to1 ||| to2)), (3, .ref (18 + 8 * s)), (0, .ref 0), (1, .int (nI s)), (2, .int 0)] [.int wd, .long (to1 ||| to2), .int 0, .int (nI c), .ref (19 + 8 * s), .ref 4] (pS μ s c 1)
    refine z_rcs hc hH 1 (pc' := 83) (lv' := [(6, .int de), (4, .long (to1 ||| to2)), (3, .ref (18 + 8 * s)), (0, .ref 0), (1, .int (nI s)), (2, .int 0)]) (st' := [.ref 0, .int wd, .long (to1 ||| to2), .int 0, .int (nI c), .ref (19 + 8 * s), .ref 4]) (μ' := pS μ s c 1) (by rfl) ?_
    refine zq_gfi hc hH (by rfl) (ci := 5) (f := 10) (by rfl) (by decide +kernel) (by rfl) ?_
    rw [pS_g (by omega)]
    refine z_rcs hc hH 4 (pc' := 91) (lv' := [(6, .int de), (4, .long (to1 ||| to2)), (3, .ref (18 + 8 * s)), (0, .ref 0), (1, .int (nI s)), (2, .int 0)]) (st' := [.int de, .int (wd ||| ((μ.1 0 10) <<< (2 &&& 31))), .long (to1 ||| to2), .int 0, .int (nI c), .ref (19 + 8 * s), .ref 4]) (μ' := pS μ s c 1) (by rfl) ?_
    refine zq_call hc (z_cx_ok hH (by rfl)) (hjd d' (by omega)) (by decide +kernel) (fun r9 μj hq => ?_)
    obtain ⟨rfl, hJ⟩ := hq
    show Z 0 94 [(6, .int de), (4, .long (to1 ||| to2)), (3, .ref (18 + 8 * s)), (0, .ref 0), (1, .int (nI s)), (2, .int 0)] [] μj
    refine z_rcs hc hH 3 (pc' := 99) (lv' := [(6, .int de), (4, .long (to1 ||| to2)), (3, .ref (18 + 8 * s)), (0, .ref 0), (1, .int (nI s)), (2, .int 0)]) (st' := [.ref (18 + 8 * s)]) (μ' := μj) (by rfl) ?_
    refine zq_gfr hc hH (by rfl) (ci := 1) (f := 0) (q := 19 + 8 * s) (by rfl) (sj (P := fun i => okf 79 1 0 (18 + 8 * i)) hs4 (by decide +kernel)) (by rfl) (sj (P := fun i => Nat.beq (z_gr (18 + 8 * i) 0) (19 + 8 * i)) hs4 (by decide +kernel)) ?_
    refine z_rcs hc hH 1 (pc' := 103) (lv' := [(6, .int de), (4, .long (to1 ||| to2)), (3, .ref (18 + 8 * s)), (0, .ref 0), (1, .int (nI s)), (2, .int 0)]) (st' := [.ref 0, .ref (19 + 8 * s)]) (μ' := μj) (by rfl) ?_
    refine zq_gfi hc hH (by rfl) (ci := 5) (f := 15) (by rfl) (by decide +kernel) (by rfl) ?_
    rw [hJ15 _ hJ]
    refine z_rcs hc hH 1 (pc' := 107) (lv' := [(6, .int de), (4, .long (to1 ||| to2)), (3, .ref (18 + 8 * s)), (0, .ref 0), (1, .int (nI s)), (2, .int 0)]) (st' := [.int 1, .int (nI c), .ref (19 + 8 * s)]) (μ' := μj) (by rfl) ?_
    refine zq_call hc (z_clv9 hH (by rfl) (by rfl) (by rfl) (by rfl) (sj (P := fun i => okr 79 2 (19 + 8 * i)) hs4 (by decide +kernel)) (by rfl) (by rfl)) (gc_take d' (by omega) μj s hs4 c hc34 1) (by decide +kernel) (fun r9 μ9 hq => ?_)
    obtain ⟨rfl, rfl⟩ := hq
    show Z 0 110 [(6, .int de), (4, .long (to1 ||| to2)), (3, .ref (18 + 8 * s)), (0, .ref 0), (1, .int (nI s)), (2, .int 0)] [] (pS μj s c (-1))
    refine z_rcs hc hH 1 (pc' := 111) (lv' := [(6, .int de), (4, .long (to1 ||| to2)), (3, .ref (18 + 8 * s)), (0, .ref 0), (1, .int (nI s)), (2, .int 0)]) (st' := [.ref 0]) (μ' := pS μj s c (-1)) (by rfl) ?_
    refine zq_gfr hc hH (by rfl) (ci := 5) (f := 2) (q := 4) (by rfl) (by decide +kernel) (by rfl) (by decide +kernel) ?_
    refine zq_gfi hc hH (by rfl) (ci := 0) (f := 0) (by rfl) (by decide +kernel) (by rfl) ?_
    rw [pS_g (by omega)]
    exact hr 0 117 _ _ _ (some (.int (μj.1 4 0))) (by decide +kernel) (z_rx_ok hH (by rfl)) (⟨μj, hJ, rfl, rfl⟩)
  refine zq_if hc hH (by rfl) (tg := 56) (by rfl) (fun h2 => ?_) (fun h2 => ?_)
  · have h2 : (decide ((μ.1 (18 + 8 * s) 5) = 0)) = true := decide_eq_true (cm_eq9.mp h2)
    refine z_rcs hc hH 1 (pc' := 57) (lv' := [(4, .long (to1 ||| to2)), (3, .ref (18 + 8 * s)), (0, .ref 0), (1, .int (nI s)), (2, .int 0)]) (st' := [.int 0, .ref (19 + 8 * s), .ref 2]) (μ' := pS μ s c 1) (by rfl) ?_
    exact zJ hJ1 rfl (by first | with_reducible rfl | (simp only [h2, lb_f, Int64.or_zero, Int32.add_zero, nB_t, nB_f, Bool.not_true, Bool.not_false, Bool.and_true, Bool.true_and, Bool.false_and, Bool.and_false, Bool.or_true, Bool.true_or, Bool.false_or, Bool.or_false, cond_true, cond_false]; done) | rfl) rfl
  · have h2 : (decide ((μ.1 (18 + 8 * s) 5) = 0)) = false := decide_eq_false (cn_eq.mp h2)
    refine z_rcs hc hH 2 (pc' := 57) (lv' := [(4, .long (to1 ||| to2)), (3, .ref (18 + 8 * s)), (0, .ref 0), (1, .int (nI s)), (2, .int 0)]) (st' := [.int 1, .ref (19 + 8 * s), .ref 2]) (μ' := pS μ s c 1) (by rfl) ?_
    exact zJ hJ1 rfl (by first | with_reducible rfl | (simp only [h2, lb_f, Int64.or_zero, Int32.add_zero, nB_t, nB_f, Bool.not_true, Bool.not_false, Bool.and_true, Bool.true_and, Bool.false_and, Bool.and_false, Bool.or_true, Bool.true_or, Bool.false_or, Bool.or_false, cond_true, cond_false]; done) | rfl) rfl
theorem gc_weigh1 (d : Nat) (hd : 10 ≤ d) (μ : zM) (s c : Nat) (hs4 : s < 4) (hc34 : c < 34) (hc15 : μ.1 0 15 = nI c) (to1 to2 : Int64) (de wd : Int32) (hwd : (nI s - μ.1 0 9) &&& 3 = wd) (hto : ∀ d, 3 ≤ d → z_C d mi_X6_toldForms [.ref 0, .ref (18 + 8 * s), .int 1] (μ) (zR (μ) (.long to1))) (hfd : ∀ d, 3 ≤ d → z_C d mi_X6_firstDraw [.ref 0, .int (nI s), .int 1] (μ) (zR (μ) (.long to2))) (hde : ∀ d, 3 ≤ d → z_C d mi_X4_dearTiles [.ref 2, .ref (19 + 8 * s), .int (nB (!decide (μ.1 (18 + 8 * s) 5 = 0)))] (μ) (zR (μ) (.int de))) (J : zM → Prop) (hJ15 : ∀ m, J m → m.1 0 15 = nI c) (hjd : ∀ d, 8 ≤ d → z_C d mi_X1_judge [.ref 4, .ref (19 + 8 * s), .int (nI c), .int 1, .long (to1 ||| to2), .int (wd ||| (μ.1 0 10 <<< (2 &&& 31))), .int de] (μ) (fun r μ' => r = none ∧ J μ')) : z_C d mi_X6_weighHand [.ref 0, .int (nI s), .int 1] μ (fun r μ' => ∃ μj, J μj ∧ μ' = μj ∧ r = some (.int (μj.1 4 0))) := by
  refine z_C_in (by decide) (by omega) (fun d' Z ed hc hr => ?_)
  have hH : zH mi_X6_weighHand zt_X6_weighHand 79 6 7 := hh_X6_weighHand
  refine z_rcs hc hH 2 (pc' := 2) (lv' := [(0, .ref 0), (1, .int (nI s)), (2, .int 1)]) (st' := [.int (nI s), .ref 0]) (μ' := μ) (by rfl) ?_
  refine zq_call hc (z_cx_ok hH (by rfl)) (gc_at4 d' (by omega) μ s hs4) (by decide +kernel) (fun r9 μ9 hq => ?_)
  obtain ⟨hμ9, rfl⟩ := hq
  rw [hμ9]
  clear hμ9 μ9
  show Z 0 5 [(0, .ref 0), (1, .int (nI s)), (2, .int 1)] [.ref (18 + 8 * s)] μ
  refine z_rcs hc hH 6 (pc' := 25) (lv' := [(3, .ref (18 + 8 * s)), (0, .ref 0), (1, .int (nI s)), (2, .int 1)]) (st' := [.int 1, .ref (18 + 8 * s), .ref 0]) (μ' := μ) (by rfl) ?_
  refine zq_call hc (z_cx_ok hH (by rfl)) (hto d' (by omega)) (by decide +kernel) (fun r9 μ9 hq => ?_)
  obtain ⟨hμ9, rfl⟩ := hq
  rw [hμ9]
  clear hμ9 μ9
  show Z 0 28 [(3, .ref (18 + 8 * s)), (0, .ref 0), (1, .int (nI s)), (2, .int 1)] [.long to1] μ
  refine z_rcs hc hH 3 (pc' := 31) (lv' := [(3, .ref (18 + 8 * s)), (0, .ref 0), (1, .int (nI s)), (2, .int 1)]) (st' := [.int 1, .int (nI s), .ref 0, .long to1]) (μ' := μ) (by rfl) ?_
  refine zq_call hc (z_cx_ok hH (by rfl)) (hfd d' (by omega)) (by decide +kernel) (fun r9 μ9 hq => ?_)
  obtain ⟨hμ9, rfl⟩ := hq
  rw [hμ9]
  clear hμ9 μ9
  show Z 0 34 [(3, .ref (18 + 8 * s)), (0, .ref 0), (1, .int (nI s)), (2, .int 1)] [.long to2, .long to1] μ
  refine z_rcs hc hH 3 (pc' := 38) (lv' := [(4, .long (to1 ||| to2)), (3, .ref (18 + 8 * s)), (0, .ref 0), (1, .int (nI s)), (2, .int 1)]) (st' := [.ref 0]) (μ' := μ) (by rfl) ?_
  refine zq_gfr hc hH (by rfl) (ci := 5) (f := 1) (q := 2) (by rfl) (by decide +kernel) (by rfl) (by decide +kernel) ?_
  refine z_rcs hc hH 1 (pc' := 42) (lv' := [(4, .long (to1 ||| to2)), (3, .ref (18 + 8 * s)), (0, .ref 0), (1, .int (nI s)), (2, .int 1)]) (st' := [.ref (18 + 8 * s), .ref 2]) (μ' := μ) (by rfl) ?_
  refine zq_gfr hc hH (by rfl) (ci := 1) (f := 0) (q := 19 + 8 * s) (by rfl) (sj (P := fun i => okf 79 1 0 (18 + 8 * i)) hs4 (by decide +kernel)) (by rfl) (sj (P := fun i => Nat.beq (z_gr (18 + 8 * i) 0) (19 + 8 * i)) hs4 (by decide +kernel)) ?_
  refine z_rcs hc hH 1 (pc' := 46) (lv' := [(4, .long (to1 ||| to2)), (3, .ref (18 + 8 * s)), (0, .ref 0), (1, .int (nI s)), (2, .int 1)]) (st' := [.ref (18 + 8 * s), .ref (19 + 8 * s), .ref 2]) (μ' := μ) (by rfl) ?_
  refine zq_gfi hc hH (by rfl) (ci := 1) (f := 5) (by rfl) (sj (P := fun i => okf 79 1 5 (18 + 8 * i)) hs4 (by decide +kernel)) (by rfl) ?_
  have hJ1 : Z 0 57 [(4, .long (to1 ||| to2)), (3, .ref (18 + 8 * s)), (0, .ref 0), (1, .int (nI s)), (2, .int 1)] [.int (nB (!(decide ((μ.1 (18 + 8 * s) 5) = 0)))), .ref (19 + 8 * s), .ref 2] μ := by
    refine zq_call hc (z_cx_ok hH (by rfl)) (hde d' (by omega)) (by decide +kernel) (fun r9 μ9 hq => ?_)
    obtain ⟨hμ9, rfl⟩ := hq
    rw [hμ9]
    clear hμ9 μ9
    show Z 0 60 [(4, .long (to1 ||| to2)), (3, .ref (18 + 8 * s)), (0, .ref 0), (1, .int (nI s)), (2, .int 1)] [.int de] μ
    refine z_rcs hc hH 2 (pc' := 63) (lv' := [(6, .int de), (4, .long (to1 ||| to2)), (3, .ref (18 + 8 * s)), (0, .ref 0), (1, .int (nI s)), (2, .int 1)]) (st' := [.ref 0]) (μ' := μ) (by rfl) ?_
    refine zq_gfr hc hH (by rfl) (ci := 5) (f := 2) (q := 4) (by rfl) (by decide +kernel) (by rfl) (by decide +kernel) ?_
    refine z_rcs hc hH 1 (pc' := 67) (lv' := [(6, .int de), (4, .long (to1 ||| to2)), (3, .ref (18 + 8 * s)), (0, .ref 0), (1, .int (nI s)), (2, .int 1)]) (st' := [.ref (18 + 8 * s), .ref 4]) (μ' := μ) (by rfl) ?_
    refine zq_gfr hc hH (by rfl) (ci := 1) (f := 0) (q := 19 + 8 * s) (by rfl) (sj (P := fun i => okf 79 1 0 (18 + 8 * i)) hs4 (by decide +kernel)) (by rfl) (sj (P := fun i => Nat.beq (z_gr (18 + 8 * i) 0) (19 + 8 * i)) hs4 (by decide +kernel)) ?_
    refine z_rcs hc hH 1 (pc' := 71) (lv' := [(6, .int de), (4, .long (to1 ||| to2)), (3, .ref (18 + 8 * s)), (0, .ref 0), (1, .int (nI s)), (2, .int 1)]) (st' := [.ref 0, .ref (19 + 8 * s), .ref 4]) (μ' := μ) (by rfl) ?_
    refine zq_gfi hc hH (by rfl) (ci := 5) (f := 15) (by rfl) (by decide +kernel) (by rfl) ?_
    rw [hc15]
    refine z_rcs hc hH 4 (pc' := 79) (lv' := [(6, .int de), (4, .long (to1 ||| to2)), (3, .ref (18 + 8 * s)), (0, .ref 0), (1, .int (nI s)), (2, .int 1)]) (st' := [.int (nI s), .ref 0, .long (to1 ||| to2), .int 1, .int (nI c), .ref (19 + 8 * s), .ref 4]) (μ' := μ) (by rfl) ?_
    refine zq_call hc (z_cx_ok hH (by rfl)) (gc_wind d' (by omega) μ (nI s) wd hwd) (by decide +kernel) (fun r9 μ9 hq => ?_)
    obtain ⟨hμ9, rfl⟩ := hq
    rw [hμ9]
    clear hμ9 μ9
    show Z 0 82 [(6, .int de), (4, .long (to1 ||| to2)), (3, .ref (18 + 8 * s)), (0, .ref 0), (1, .int (nI s)), (2, .int 1)] [.int wd, .long (to1 ||| to2), .int 1, .int (nI c), .ref (19 + 8 * s), .ref 4] μ
    refine z_rcs hc hH 1 (pc' := 83) (lv' := [(6, .int de), (4, .long (to1 ||| to2)), (3, .ref (18 + 8 * s)), (0, .ref 0), (1, .int (nI s)), (2, .int 1)]) (st' := [.ref 0, .int wd, .long (to1 ||| to2), .int 1, .int (nI c), .ref (19 + 8 * s), .ref 4]) (μ' := μ) (by rfl) ?_
    refine zq_gfi hc hH (by rfl) (ci := 5) (f := 10) (by rfl) (by decide +kernel) (by rfl) ?_
    refine z_rcs hc hH 4 (pc' := 91) (lv' := [(6, .int de), (4, .long (to1 ||| to2)), (3, .ref (18 + 8 * s)), (0, .ref 0), (1, .int (nI s)), (2, .int 1)]) (st' := [.int de, .int (wd ||| ((μ.1 0 10) <<< (2 &&& 31))), .long (to1 ||| to2), .int 1, .int (nI c), .ref (19 + 8 * s), .ref 4]) (μ' := μ) (by rfl) ?_
    refine zq_call hc (z_cx_ok hH (by rfl)) (hjd d' (by omega)) (by decide +kernel) (fun r9 μj hq => ?_)
    obtain ⟨rfl, hJ⟩ := hq
    show Z 0 94 [(6, .int de), (4, .long (to1 ||| to2)), (3, .ref (18 + 8 * s)), (0, .ref 0), (1, .int (nI s)), (2, .int 1)] [] μj
    refine z_rcs hc hH 3 (pc' := 111) (lv' := [(6, .int de), (4, .long (to1 ||| to2)), (3, .ref (18 + 8 * s)), (0, .ref 0), (1, .int (nI s)), (2, .int 1)]) (st' := [.ref 0]) (μ' := μj) (by rfl) ?_
    refine zq_gfr hc hH (by rfl) (ci := 5) (f := 2) (q := 4) (by rfl) (by decide +kernel) (by rfl) (by decide +kernel) ?_
    refine zq_gfi hc hH (by rfl) (ci := 0) (f := 0) (by rfl) (by decide +kernel) (by rfl) ?_
    exact hr 0 117 _ _ _ (some (.int (μj.1 4 0))) (by decide +kernel) (z_rx_ok hH (by rfl)) (⟨μj, hJ, rfl, rfl⟩)
  refine zq_if hc hH (by rfl) (tg := 56) (by rfl) (fun h2 => ?_) (fun h2 => ?_)
  · have h2 : (decide ((μ.1 (18 + 8 * s) 5) = 0)) = true := decide_eq_true (cm_eq9.mp h2)
    refine z_rcs hc hH 1 (pc' := 57) (lv' := [(4, .long (to1 ||| to2)), (3, .ref (18 + 8 * s)), (0, .ref 0), (1, .int (nI s)), (2, .int 1)]) (st' := [.int 0, .ref (19 + 8 * s), .ref 2]) (μ' := μ) (by rfl) ?_
    exact zJ hJ1 rfl (by first | with_reducible rfl | (simp only [h2, lb_f, Int64.or_zero, Int32.add_zero, nB_t, nB_f, Bool.not_true, Bool.not_false, Bool.and_true, Bool.true_and, Bool.false_and, Bool.and_false, Bool.or_true, Bool.true_or, Bool.false_or, Bool.or_false, cond_true, cond_false]; done) | rfl) rfl
  · have h2 : (decide ((μ.1 (18 + 8 * s) 5) = 0)) = false := decide_eq_false (cn_eq.mp h2)
    refine z_rcs hc hH 2 (pc' := 57) (lv' := [(4, .long (to1 ||| to2)), (3, .ref (18 + 8 * s)), (0, .ref 0), (1, .int (nI s)), (2, .int 1)]) (st' := [.int 1, .ref (19 + 8 * s), .ref 2]) (μ' := μ) (by rfl) ?_
    exact zJ hJ1 rfl (by first | with_reducible rfl | (simp only [h2, lb_f, Int64.or_zero, Int32.add_zero, nB_t, nB_f, Bool.not_true, Bool.not_false, Bool.and_true, Bool.true_and, Bool.false_and, Bool.and_false, Bool.or_true, Bool.true_or, Bool.false_or, Bool.or_false, cond_true, cond_false]; done) | rfl) rfl
/-! the game: claim, nine of the class -/
set_option maxRecDepth 8000
theorem sI_n {s : Nat} (h : s < 4) : sI (nI s) = true := by
  have a : decide (nI s < 0) = false := kn_l0 (by omega)
  have b : decide ((4 : Int32) ≤ nI s) = false := kn_le (m := 4) rfl (by omega) h
  unfold sI; rw [a, b]; rfl
noncomputable abbrev clC (μ : zM) (s t c : Nat) (wt : Int64) : Bool := (decide (μ.1 0 7 = 2) || decide (μ.1 0 7 = 3)) && (!decide (nI s = nI t) && (decide (μ.1 (18 + 8 * s) 9 = 0) && (decide (μ.1 (18 + 8 * s) 8 = 0) && (xHd wt (nI c) && decide (lg_cmp (wt &&& μ.2.1 (18 + 8 * s) 3) 0 = 0)))))
theorem gc_claim (d : Nat) (hd : 11 ≤ d) (μ : zM) (s t c : Nat) (hs4 : s < 4) (ht4 : t < 4) (ht : μ.1 0 8 = nI t) (hc34 : c < 34) (hc15 : μ.1 0 15 = nI c) (wt : Int64) (hwt : ∀ d, 7 ≤ d → z_C d mi_X3_waiting [.ref (19 + 8 * s)] μ (zR μ (.long wt))) (J : zM → Prop) (hwg : ∀ d, 10 ≤ d → z_C d mi_X6_weighHand [.ref 0, .int (nI s), .int 0] μ (fun r μ' => ∃ μj, J μj ∧ μ' = pS μj s c (-1) ∧ r = some (.int (μj.1 4 0)))) : z_C d mi_X6_claim [.ref 0, .int (nI s)] μ (fun r μ' => (clC μ s t c wt = false ∧ r = some (.int 0) ∧ μ' = μ) ∨ (clC μ s t c wt = true ∧ ∃ μj, J μj ∧ ((decide (μj.1 4 0 = 0) = true ∧ r = some (.int 0) ∧ μ' = pS μj s c (-1)) ∨ (decide (μj.1 4 0 = 0) = false ∧ r = some (.int 1) ∧ μ' = z_ui (pS μj s c (-1)) (18 + 8 * s) 9 1)))) := by
  refine z_C_in (by decide) (by omega) (fun d' Z ed hc hr => ?_)
  have hH : zH mi_X6_claim zt_X6_claim 79 6 5 := hh_X6_claim
  refine z_rcs hc hH 1 (pc' := 1) (lv' := [(0, .ref 0), (1, .int (nI s))]) (st' := [.ref 0]) (μ' := μ) (by rfl) ?_
  refine zq_gfi hc hH (by rfl) (ci := 5) (f := 7) (by rfl) (by decide +kernel) (by rfl) ?_
  refine z_rcs hc hH 1 (pc' := 5) (lv' := [(0, .ref 0), (1, .int (nI s))]) (st' := [.int 2, .int (μ.1 0 7)]) (μ' := μ) (by rfl) ?_
  refine zq_ic hc hH (by rfl) (tg := 16) (by rfl) (fun h1 => ?_) (fun h1 => ?_)
  · have h1 : (decide ((μ.1 0 7) = 2)) = true := decide_eq_true (cm_eq9.mp h1)
    refine z_rcs hc hH 1 (pc' := 17) (lv' := [(0, .ref 0), (1, .int (nI s))]) (st' := [.int (nI s)]) (μ' := μ) (by rfl) ?_
    refine zq_call hc (z_cx_ok hH (by rfl)) (gc_isSeat d' (by omega) μ (nI s)) (by decide +kernel) (fun r9 μ9 hq => ?_)
    obtain ⟨hμ9, rfl⟩ := hq
    rw [hμ9]
    clear hμ9 μ9
    show Z 0 20 [(0, .ref 0), (1, .int (nI s))] [.int (nB (sI (nI s)))] μ
    refine zq_if hc hH (by rfl) (tg := 31) (by rfl) (fun h2 => ?_) (fun h2 => ?_)
    · have h2 : (sI (nI s)) = false := nB_z.mp (cm_eq9.mp h2)
      exact absurd (Eq.trans (Eq.symm (sI_n hs4)) h2) (by decide)
    · have h2 : (sI (nI s)) = true := nB_n.mp (cn_eq.mp h2)
      refine z_rcs hc hH 2 (pc' := 25) (lv' := [(0, .ref 0), (1, .int (nI s))]) (st' := [.ref 0, .int (nI s)]) (μ' := μ) (by rfl) ?_
      refine zq_gfi hc hH (by rfl) (ci := 5) (f := 8) (by rfl) (by decide +kernel) (by rfl) ?_
      rw [ht]
      refine zq_ic hc hH (by rfl) (tg := 33) (by rfl) (fun h3 => ?_) (fun h3 => ?_)
      · have h3 : (decide ((nI s) = (nI t))) = false := decide_eq_false (cm_ne.mp h3)
        refine z_rcs hc hH 2 (pc' := 35) (lv' := [(0, .ref 0), (1, .int (nI s))]) (st' := [.int (nI s), .ref 0]) (μ' := μ) (by rfl) ?_
        refine zq_call hc (z_cx_ok hH (by rfl)) (gc_at4 d' (by omega) μ s hs4) (by decide +kernel) (fun r9 μ9 hq => ?_)
        obtain ⟨hμ9, rfl⟩ := hq
        rw [hμ9]
        clear hμ9 μ9
        show Z 0 38 [(0, .ref 0), (1, .int (nI s))] [.ref (18 + 8 * s)] μ
        refine z_rcs hc hH 2 (pc' := 40) (lv' := [(2, .ref (18 + 8 * s)), (0, .ref 0), (1, .int (nI s))]) (st' := [.ref (18 + 8 * s)]) (μ' := μ) (by rfl) ?_
        refine zq_gfi hc hH (by rfl) (ci := 1) (f := 9) (by rfl) (sj (P := fun i => okf 79 1 9 (18 + 8 * i)) hs4 (by decide +kernel)) (by rfl) ?_
        refine zq_if hc hH (by rfl) (tg := 53) (by rfl) (fun h4 => ?_) (fun h4 => ?_)
        · have h4 : (decide ((μ.1 (18 + 8 * s) 9) = 0)) = false := decide_eq_false (cm_ne.mp h4)
          refine z_rcs hc hH 1 (pc' := 54) (lv' := [(2, .ref (18 + 8 * s)), (0, .ref 0), (1, .int (nI s))]) (st' := [.int 0]) (μ' := μ) (by rfl) ?_
          exact hr 0 54 _ _ _ (some (.int 0)) (by decide +kernel) (z_rx_ok hH (by rfl)) (Or.inl ⟨by simp only [clC, h1, h3, h4, Bool.true_or, Bool.or_true, Bool.false_or, Bool.or_false, Bool.true_and, Bool.and_true, Bool.false_and, Bool.and_false, Bool.not_true, Bool.not_false], rfl, rfl⟩)
        · have h4 : (decide ((μ.1 (18 + 8 * s) 9) = 0)) = true := decide_eq_true (cn_ne.mp h4)
          refine z_rcs hc hH 1 (pc' := 47) (lv' := [(2, .ref (18 + 8 * s)), (0, .ref 0), (1, .int (nI s))]) (st' := [.ref (18 + 8 * s)]) (μ' := μ) (by rfl) ?_
          refine zq_gfi hc hH (by rfl) (ci := 1) (f := 8) (by rfl) (sj (P := fun i => okf 79 1 8 (18 + 8 * i)) hs4 (by decide +kernel)) (by rfl) ?_
          refine zq_if hc hH (by rfl) (tg := 55) (by rfl) (fun h5 => ?_) (fun h5 => ?_)
          · have h5 : (decide ((μ.1 (18 + 8 * s) 8) = 0)) = true := decide_eq_true (cm_eq9.mp h5)
            refine z_rcs hc hH 1 (pc' := 56) (lv' := [(2, .ref (18 + 8 * s)), (0, .ref 0), (1, .int (nI s))]) (st' := [.ref (18 + 8 * s)]) (μ' := μ) (by rfl) ?_
            refine zq_gfr hc hH (by rfl) (ci := 1) (f := 0) (q := 19 + 8 * s) (by rfl) (sj (P := fun i => okf 79 1 0 (18 + 8 * i)) hs4 (by decide +kernel)) (by rfl) (sj (P := fun i => Nat.beq (z_gr (18 + 8 * i) 0) (19 + 8 * i)) hs4 (by decide +kernel)) ?_
            refine zq_call hc (z_clv9 hH (by rfl) (by rfl) (by rfl) (by rfl) (sj (P := fun i => okr 79 2 (19 + 8 * i)) hs4 (by decide +kernel)) (by rfl) (by rfl)) (hwt d' (by omega)) (by decide +kernel) (fun r9 μ9 hq => ?_)
            obtain ⟨hμ9, rfl⟩ := hq
            rw [hμ9]
            clear hμ9 μ9
            show Z 0 62 [(2, .ref (18 + 8 * s)), (0, .ref 0), (1, .int (nI s))] [.long wt] μ
            refine z_rcs hc hH 3 (pc' := 65) (lv' := [(3, .long wt), (2, .ref (18 + 8 * s)), (0, .ref 0), (1, .int (nI s))]) (st' := [.ref 0, .long wt]) (μ' := μ) (by rfl) ?_
            refine zq_gfi hc hH (by rfl) (ci := 5) (f := 15) (by rfl) (by decide +kernel) (by rfl) ?_
            rw [hc15]
            refine zq_call hc (z_cx_ok hH (by rfl)) (fb_X6_holds d' (by omega) μ wt (nI c)) (by decide +kernel) (fun r9 μ9 hq => ?_)
            obtain ⟨hμ9, rfl⟩ := hq
            rw [hμ9]
            clear hμ9 μ9
            show Z 0 71 [(3, .long wt), (2, .ref (18 + 8 * s)), (0, .ref 0), (1, .int (nI s))] [.int (nB (xHd wt (nI c)))] μ
            refine zq_if hc hH (by rfl) (tg := 85) (by rfl) (fun h6 => ?_) (fun h6 => ?_)
            · have h6 : (xHd wt (nI c)) = false := nB_z.mp (cm_eq9.mp h6)
              refine z_rcs hc hH 1 (pc' := 86) (lv' := [(3, .long wt), (2, .ref (18 + 8 * s)), (0, .ref 0), (1, .int (nI s))]) (st' := [.int 0]) (μ' := μ) (by rfl) ?_
              exact hr 0 86 _ _ _ (some (.int 0)) (by decide +kernel) (z_rx_ok hH (by rfl)) (Or.inl ⟨by simp only [clC, h1, h3, h4, h5, h6, Bool.true_or, Bool.or_true, Bool.false_or, Bool.or_false, Bool.true_and, Bool.and_true, Bool.false_and, Bool.and_false, Bool.not_true, Bool.not_false], rfl, rfl⟩)
            · have h6 : (xHd wt (nI c)) = true := nB_n.mp (cn_eq.mp h6)
              refine z_rcs hc hH 2 (pc' := 76) (lv' := [(3, .long wt), (2, .ref (18 + 8 * s)), (0, .ref 0), (1, .int (nI s))]) (st' := [.ref (18 + 8 * s), .long wt]) (μ' := μ) (by rfl) ?_
              refine zq_gfl hc hH (by rfl) (ci := 1) (f := 3) (by rfl) (sj (P := fun i => okf 79 1 3 (18 + 8 * i)) hs4 (by decide +kernel)) (by rfl) ?_
              refine z_rcs hc hH 3 (pc' := 82) (lv' := [(3, .long wt), (2, .ref (18 + 8 * s)), (0, .ref 0), (1, .int (nI s))]) (st' := [.int (lg_cmp (wt &&& (μ.2.1 (18 + 8 * s) 3)) 0)]) (μ' := μ) (by rfl) ?_
              refine zq_if hc hH (by rfl) (tg := 87) (by rfl) (fun h7 => ?_) (fun h7 => ?_)
              · have h7 : (decide ((lg_cmp (wt &&& (μ.2.1 (18 + 8 * s) 3)) 0) = 0)) = true := decide_eq_true (cm_eq9.mp h7)
                refine z_rcs hc hH 3 (pc' := 90) (lv' := [(3, .long wt), (2, .ref (18 + 8 * s)), (0, .ref 0), (1, .int (nI s))]) (st' := [.int 0, .int (nI s), .ref 0]) (μ' := μ) (by rfl) ?_
                refine zq_call hc (z_cx_ok hH (by rfl)) (hwg d' (by omega)) (by decide +kernel) (fun r9 μ9 hq => ?_)
                obtain ⟨μj, hJ, rfl, rfl⟩ := hq
                show Z 0 93 [(3, .long wt), (2, .ref (18 + 8 * s)), (0, .ref 0), (1, .int (nI s))] [.int (μj.1 4 0)] (pS μj s c (-1))
                refine zq_if hc hH (by rfl) (tg := 98) (by rfl) (fun h8 => ?_) (fun h8 => ?_)
                · have h8 : (decide ((μj.1 4 0) = 0)) = false := decide_eq_false (cm_ne.mp h8)
                  refine z_rcs hc hH 2 (pc' := 100) (lv' := [(3, .long wt), (2, .ref (18 + 8 * s)), (0, .ref 0), (1, .int (nI s))]) (st' := [.int 1, .ref (18 + 8 * s)]) (μ' := pS μj s c (-1)) (by rfl) ?_
                  refine zq_pfb hc hH (by rfl) (ci := 1) (f := 9) (by rfl) (sj (P := fun i => okf 79 1 9 (18 + 8 * i)) hs4 (by decide +kernel)) (by rfl) (by decide) ?_
                  show Z 0 103 [(3, .long wt), (2, .ref (18 + 8 * s)), (0, .ref 0), (1, .int (nI s))] [] (z_ui (pS μj s c (-1)) (18 + 8 * s) 9 1)
                  refine z_rcs0 hc hH 1 (pc' := 104) (lv' := [(3, .long wt), (2, .ref (18 + 8 * s)), (0, .ref 0), (1, .int (nI s))]) (st' := [.int 1]) (by rfl) ?_
                  exact hr 0 104 _ _ _ (some (.int 1)) (by decide +kernel) (z_rx_ok hH (by rfl)) (Or.inr ⟨by simp only [clC, h1, h3, h4, h5, h6, h7, Bool.true_or, Bool.or_true, Bool.false_or, Bool.or_false, Bool.true_and, Bool.and_true, Bool.false_and, Bool.and_false, Bool.not_true, Bool.not_false], μj, hJ, Or.inr ⟨h8, rfl, rfl⟩⟩)
                · have h8 : (decide ((μj.1 4 0) = 0)) = true := decide_eq_true (cn_ne.mp h8)
                  refine z_rcs hc hH 1 (pc' := 97) (lv' := [(3, .long wt), (2, .ref (18 + 8 * s)), (0, .ref 0), (1, .int (nI s))]) (st' := [.int 0]) (μ' := pS μj s c (-1)) (by rfl) ?_
                  exact hr 0 97 _ _ _ (some (.int 0)) (by decide +kernel) (z_rx_ok hH (by rfl)) (Or.inr ⟨by simp only [clC, h1, h3, h4, h5, h6, h7, Bool.true_or, Bool.or_true, Bool.false_or, Bool.or_false, Bool.true_and, Bool.and_true, Bool.false_and, Bool.and_false, Bool.not_true, Bool.not_false], μj, hJ, Or.inl ⟨h8, rfl, rfl⟩⟩)
              · have h7 : (decide ((lg_cmp (wt &&& (μ.2.1 (18 + 8 * s) 3)) 0) = 0)) = false := decide_eq_false (cn_eq.mp h7)
                refine z_rcs hc hH 1 (pc' := 86) (lv' := [(3, .long wt), (2, .ref (18 + 8 * s)), (0, .ref 0), (1, .int (nI s))]) (st' := [.int 0]) (μ' := μ) (by rfl) ?_
                exact hr 0 86 _ _ _ (some (.int 0)) (by decide +kernel) (z_rx_ok hH (by rfl)) (Or.inl ⟨by simp only [clC, h1, h3, h4, h5, h6, h7, Bool.true_or, Bool.or_true, Bool.false_or, Bool.or_false, Bool.true_and, Bool.and_true, Bool.false_and, Bool.and_false, Bool.not_true, Bool.not_false], rfl, rfl⟩)
          · have h5 : (decide ((μ.1 (18 + 8 * s) 8) = 0)) = false := decide_eq_false (cn_eq.mp h5)
            refine z_rcs hc hH 1 (pc' := 54) (lv' := [(2, .ref (18 + 8 * s)), (0, .ref 0), (1, .int (nI s))]) (st' := [.int 0]) (μ' := μ) (by rfl) ?_
            exact hr 0 54 _ _ _ (some (.int 0)) (by decide +kernel) (z_rx_ok hH (by rfl)) (Or.inl ⟨by simp only [clC, h1, h3, h4, h5, Bool.true_or, Bool.or_true, Bool.false_or, Bool.or_false, Bool.true_and, Bool.and_true, Bool.false_and, Bool.and_false, Bool.not_true, Bool.not_false], rfl, rfl⟩)
      · have h3 : (decide ((nI s) = (nI t))) = true := decide_eq_true (cn_ne.mp h3)
        refine z_rcs hc hH 1 (pc' := 32) (lv' := [(0, .ref 0), (1, .int (nI s))]) (st' := [.int 0]) (μ' := μ) (by rfl) ?_
        exact hr 0 32 _ _ _ (some (.int 0)) (by decide +kernel) (z_rx_ok hH (by rfl)) (Or.inl ⟨by simp only [clC, h1, h3, Bool.true_or, Bool.or_true, Bool.false_or, Bool.or_false, Bool.true_and, Bool.and_true, Bool.false_and, Bool.and_false, Bool.not_true, Bool.not_false], rfl, rfl⟩)
  · have h1 : (decide ((μ.1 0 7) = 2)) = false := decide_eq_false (cn_eq.mp h1)
    refine z_rcs hc hH 1 (pc' := 9) (lv' := [(0, .ref 0), (1, .int (nI s))]) (st' := [.ref 0]) (μ' := μ) (by rfl) ?_
    refine zq_gfi hc hH (by rfl) (ci := 5) (f := 7) (by rfl) (by decide +kernel) (by rfl) ?_
    refine z_rcs hc hH 1 (pc' := 13) (lv' := [(0, .ref 0), (1, .int (nI s))]) (st' := [.int 3, .int (μ.1 0 7)]) (μ' := μ) (by rfl) ?_
    refine zq_ic hc hH (by rfl) (tg := 31) (by rfl) (fun h9 => ?_) (fun h9 => ?_)
    · have h9 : (decide ((μ.1 0 7) = 3)) = false := decide_eq_false (cm_ne.mp h9)
      refine z_rcs hc hH 1 (pc' := 32) (lv' := [(0, .ref 0), (1, .int (nI s))]) (st' := [.int 0]) (μ' := μ) (by rfl) ?_
      exact hr 0 32 _ _ _ (some (.int 0)) (by decide +kernel) (z_rx_ok hH (by rfl)) (Or.inl ⟨by simp only [clC, h1, h9, Bool.true_or, Bool.or_true, Bool.false_or, Bool.or_false, Bool.true_and, Bool.and_true, Bool.false_and, Bool.and_false, Bool.not_true, Bool.not_false], rfl, rfl⟩)
    · have h9 : (decide ((μ.1 0 7) = 3)) = true := decide_eq_true (cn_ne.mp h9)
      refine z_rcs hc hH 1 (pc' := 17) (lv' := [(0, .ref 0), (1, .int (nI s))]) (st' := [.int (nI s)]) (μ' := μ) (by rfl) ?_
      refine zq_call hc (z_cx_ok hH (by rfl)) (gc_isSeat d' (by omega) μ (nI s)) (by decide +kernel) (fun r9 μ9 hq => ?_)
      obtain ⟨hμ9, rfl⟩ := hq
      rw [hμ9]
      clear hμ9 μ9
      show Z 0 20 [(0, .ref 0), (1, .int (nI s))] [.int (nB (sI (nI s)))] μ
      refine zq_if hc hH (by rfl) (tg := 31) (by rfl) (fun h10 => ?_) (fun h10 => ?_)
      · have h10 : (sI (nI s)) = false := nB_z.mp (cm_eq9.mp h10)
        exact absurd (Eq.trans (Eq.symm (sI_n hs4)) h10) (by decide)
      · have h10 : (sI (nI s)) = true := nB_n.mp (cn_eq.mp h10)
        refine z_rcs hc hH 2 (pc' := 25) (lv' := [(0, .ref 0), (1, .int (nI s))]) (st' := [.ref 0, .int (nI s)]) (μ' := μ) (by rfl) ?_
        refine zq_gfi hc hH (by rfl) (ci := 5) (f := 8) (by rfl) (by decide +kernel) (by rfl) ?_
        rw [ht]
        refine zq_ic hc hH (by rfl) (tg := 33) (by rfl) (fun h11 => ?_) (fun h11 => ?_)
        · have h11 : (decide ((nI s) = (nI t))) = false := decide_eq_false (cm_ne.mp h11)
          refine z_rcs hc hH 2 (pc' := 35) (lv' := [(0, .ref 0), (1, .int (nI s))]) (st' := [.int (nI s), .ref 0]) (μ' := μ) (by rfl) ?_
          refine zq_call hc (z_cx_ok hH (by rfl)) (gc_at4 d' (by omega) μ s hs4) (by decide +kernel) (fun r9 μ9 hq => ?_)
          obtain ⟨hμ9, rfl⟩ := hq
          rw [hμ9]
          clear hμ9 μ9
          show Z 0 38 [(0, .ref 0), (1, .int (nI s))] [.ref (18 + 8 * s)] μ
          refine z_rcs hc hH 2 (pc' := 40) (lv' := [(2, .ref (18 + 8 * s)), (0, .ref 0), (1, .int (nI s))]) (st' := [.ref (18 + 8 * s)]) (μ' := μ) (by rfl) ?_
          refine zq_gfi hc hH (by rfl) (ci := 1) (f := 9) (by rfl) (sj (P := fun i => okf 79 1 9 (18 + 8 * i)) hs4 (by decide +kernel)) (by rfl) ?_
          refine zq_if hc hH (by rfl) (tg := 53) (by rfl) (fun h12 => ?_) (fun h12 => ?_)
          · have h12 : (decide ((μ.1 (18 + 8 * s) 9) = 0)) = false := decide_eq_false (cm_ne.mp h12)
            refine z_rcs hc hH 1 (pc' := 54) (lv' := [(2, .ref (18 + 8 * s)), (0, .ref 0), (1, .int (nI s))]) (st' := [.int 0]) (μ' := μ) (by rfl) ?_
            exact hr 0 54 _ _ _ (some (.int 0)) (by decide +kernel) (z_rx_ok hH (by rfl)) (Or.inl ⟨by simp only [clC, h1, h9, h11, h12, Bool.true_or, Bool.or_true, Bool.false_or, Bool.or_false, Bool.true_and, Bool.and_true, Bool.false_and, Bool.and_false, Bool.not_true, Bool.not_false], rfl, rfl⟩)
          · have h12 : (decide ((μ.1 (18 + 8 * s) 9) = 0)) = true := decide_eq_true (cn_ne.mp h12)
            refine z_rcs hc hH 1 (pc' := 47) (lv' := [(2, .ref (18 + 8 * s)), (0, .ref 0), (1, .int (nI s))]) (st' := [.ref (18 + 8 * s)]) (μ' := μ) (by rfl) ?_
            refine zq_gfi hc hH (by rfl) (ci := 1) (f := 8) (by rfl) (sj (P := fun i => okf 79 1 8 (18 + 8 * i)) hs4 (by decide +kernel)) (by rfl) ?_
            refine zq_if hc hH (by rfl) (tg := 55) (by rfl) (fun h13 => ?_) (fun h13 => ?_)
            · have h13 : (decide ((μ.1 (18 + 8 * s) 8) = 0)) = true := decide_eq_true (cm_eq9.mp h13)
              refine z_rcs hc hH 1 (pc' := 56) (lv' := [(2, .ref (18 + 8 * s)), (0, .ref 0), (1, .int (nI s))]) (st' := [.ref (18 + 8 * s)]) (μ' := μ) (by rfl) ?_
              refine zq_gfr hc hH (by rfl) (ci := 1) (f := 0) (q := 19 + 8 * s) (by rfl) (sj (P := fun i => okf 79 1 0 (18 + 8 * i)) hs4 (by decide +kernel)) (by rfl) (sj (P := fun i => Nat.beq (z_gr (18 + 8 * i) 0) (19 + 8 * i)) hs4 (by decide +kernel)) ?_
              refine zq_call hc (z_clv9 hH (by rfl) (by rfl) (by rfl) (by rfl) (sj (P := fun i => okr 79 2 (19 + 8 * i)) hs4 (by decide +kernel)) (by rfl) (by rfl)) (hwt d' (by omega)) (by decide +kernel) (fun r9 μ9 hq => ?_)
              obtain ⟨hμ9, rfl⟩ := hq
              rw [hμ9]
              clear hμ9 μ9
              show Z 0 62 [(2, .ref (18 + 8 * s)), (0, .ref 0), (1, .int (nI s))] [.long wt] μ
              refine z_rcs hc hH 3 (pc' := 65) (lv' := [(3, .long wt), (2, .ref (18 + 8 * s)), (0, .ref 0), (1, .int (nI s))]) (st' := [.ref 0, .long wt]) (μ' := μ) (by rfl) ?_
              refine zq_gfi hc hH (by rfl) (ci := 5) (f := 15) (by rfl) (by decide +kernel) (by rfl) ?_
              rw [hc15]
              refine zq_call hc (z_cx_ok hH (by rfl)) (fb_X6_holds d' (by omega) μ wt (nI c)) (by decide +kernel) (fun r9 μ9 hq => ?_)
              obtain ⟨hμ9, rfl⟩ := hq
              rw [hμ9]
              clear hμ9 μ9
              show Z 0 71 [(3, .long wt), (2, .ref (18 + 8 * s)), (0, .ref 0), (1, .int (nI s))] [.int (nB (xHd wt (nI c)))] μ
              refine zq_if hc hH (by rfl) (tg := 85) (by rfl) (fun h14 => ?_) (fun h14 => ?_)
              · have h14 : (xHd wt (nI c)) = false := nB_z.mp (cm_eq9.mp h14)
                refine z_rcs hc hH 1 (pc' := 86) (lv' := [(3, .long wt), (2, .ref (18 + 8 * s)), (0, .ref 0), (1, .int (nI s))]) (st' := [.int 0]) (μ' := μ) (by rfl) ?_
                exact hr 0 86 _ _ _ (some (.int 0)) (by decide +kernel) (z_rx_ok hH (by rfl)) (Or.inl ⟨by simp only [clC, h1, h9, h11, h12, h13, h14, Bool.true_or, Bool.or_true, Bool.false_or, Bool.or_false, Bool.true_and, Bool.and_true, Bool.false_and, Bool.and_false, Bool.not_true, Bool.not_false], rfl, rfl⟩)
              · have h14 : (xHd wt (nI c)) = true := nB_n.mp (cn_eq.mp h14)
                refine z_rcs hc hH 2 (pc' := 76) (lv' := [(3, .long wt), (2, .ref (18 + 8 * s)), (0, .ref 0), (1, .int (nI s))]) (st' := [.ref (18 + 8 * s), .long wt]) (μ' := μ) (by rfl) ?_
                refine zq_gfl hc hH (by rfl) (ci := 1) (f := 3) (by rfl) (sj (P := fun i => okf 79 1 3 (18 + 8 * i)) hs4 (by decide +kernel)) (by rfl) ?_
                refine z_rcs hc hH 3 (pc' := 82) (lv' := [(3, .long wt), (2, .ref (18 + 8 * s)), (0, .ref 0), (1, .int (nI s))]) (st' := [.int (lg_cmp (wt &&& (μ.2.1 (18 + 8 * s) 3)) 0)]) (μ' := μ) (by rfl) ?_
                refine zq_if hc hH (by rfl) (tg := 87) (by rfl) (fun h15 => ?_) (fun h15 => ?_)
                · have h15 : (decide ((lg_cmp (wt &&& (μ.2.1 (18 + 8 * s) 3)) 0) = 0)) = true := decide_eq_true (cm_eq9.mp h15)
                  refine z_rcs hc hH 3 (pc' := 90) (lv' := [(3, .long wt), (2, .ref (18 + 8 * s)), (0, .ref 0), (1, .int (nI s))]) (st' := [.int 0, .int (nI s), .ref 0]) (μ' := μ) (by rfl) ?_
                  refine zq_call hc (z_cx_ok hH (by rfl)) (hwg d' (by omega)) (by decide +kernel) (fun r9 μ9 hq => ?_)
                  obtain ⟨μj, hJ, rfl, rfl⟩ := hq
                  show Z 0 93 [(3, .long wt), (2, .ref (18 + 8 * s)), (0, .ref 0), (1, .int (nI s))] [.int (μj.1 4 0)] (pS μj s c (-1))
                  refine zq_if hc hH (by rfl) (tg := 98) (by rfl) (fun h16 => ?_) (fun h16 => ?_)
                  · have h16 : (decide ((μj.1 4 0) = 0)) = false := decide_eq_false (cm_ne.mp h16)
                    refine z_rcs hc hH 2 (pc' := 100) (lv' := [(3, .long wt), (2, .ref (18 + 8 * s)), (0, .ref 0), (1, .int (nI s))]) (st' := [.int 1, .ref (18 + 8 * s)]) (μ' := pS μj s c (-1)) (by rfl) ?_
                    refine zq_pfb hc hH (by rfl) (ci := 1) (f := 9) (by rfl) (sj (P := fun i => okf 79 1 9 (18 + 8 * i)) hs4 (by decide +kernel)) (by rfl) (by decide) ?_
                    show Z 0 103 [(3, .long wt), (2, .ref (18 + 8 * s)), (0, .ref 0), (1, .int (nI s))] [] (z_ui (pS μj s c (-1)) (18 + 8 * s) 9 1)
                    refine z_rcs0 hc hH 1 (pc' := 104) (lv' := [(3, .long wt), (2, .ref (18 + 8 * s)), (0, .ref 0), (1, .int (nI s))]) (st' := [.int 1]) (by rfl) ?_
                    exact hr 0 104 _ _ _ (some (.int 1)) (by decide +kernel) (z_rx_ok hH (by rfl)) (Or.inr ⟨by simp only [clC, h1, h9, h11, h12, h13, h14, h15, Bool.true_or, Bool.or_true, Bool.false_or, Bool.or_false, Bool.true_and, Bool.and_true, Bool.false_and, Bool.and_false, Bool.not_true, Bool.not_false], μj, hJ, Or.inr ⟨h16, rfl, rfl⟩⟩)
                  · have h16 : (decide ((μj.1 4 0) = 0)) = true := decide_eq_true (cn_ne.mp h16)
                    refine z_rcs hc hH 1 (pc' := 97) (lv' := [(3, .long wt), (2, .ref (18 + 8 * s)), (0, .ref 0), (1, .int (nI s))]) (st' := [.int 0]) (μ' := pS μj s c (-1)) (by rfl) ?_
                    exact hr 0 97 _ _ _ (some (.int 0)) (by decide +kernel) (z_rx_ok hH (by rfl)) (Or.inr ⟨by simp only [clC, h1, h9, h11, h12, h13, h14, h15, Bool.true_or, Bool.or_true, Bool.false_or, Bool.or_false, Bool.true_and, Bool.and_true, Bool.false_and, Bool.and_false, Bool.not_true, Bool.not_false], μj, hJ, Or.inl ⟨h16, rfl, rfl⟩⟩)
                · have h15 : (decide ((lg_cmp (wt &&& (μ.2.1 (18 + 8 * s) 3)) 0) = 0)) = false := decide_eq_false (cn_eq.mp h15)
                  refine z_rcs hc hH 1 (pc' := 86) (lv' := [(3, .long wt), (2, .ref (18 + 8 * s)), (0, .ref 0), (1, .int (nI s))]) (st' := [.int 0]) (μ' := μ) (by rfl) ?_
                  exact hr 0 86 _ _ _ (some (.int 0)) (by decide +kernel) (z_rx_ok hH (by rfl)) (Or.inl ⟨by simp only [clC, h1, h9, h11, h12, h13, h14, h15, Bool.true_or, Bool.or_true, Bool.false_or, Bool.or_false, Bool.true_and, Bool.and_true, Bool.false_and, Bool.and_false, Bool.not_true, Bool.not_false], rfl, rfl⟩)
            · have h13 : (decide ((μ.1 (18 + 8 * s) 8) = 0)) = false := decide_eq_false (cn_eq.mp h13)
              refine z_rcs hc hH 1 (pc' := 54) (lv' := [(2, .ref (18 + 8 * s)), (0, .ref 0), (1, .int (nI s))]) (st' := [.int 0]) (μ' := μ) (by rfl) ?_
              exact hr 0 54 _ _ _ (some (.int 0)) (by decide +kernel) (z_rx_ok hH (by rfl)) (Or.inl ⟨by simp only [clC, h1, h9, h11, h12, h13, Bool.true_or, Bool.or_true, Bool.false_or, Bool.or_false, Bool.true_and, Bool.and_true, Bool.false_and, Bool.and_false, Bool.not_true, Bool.not_false], rfl, rfl⟩)
        · have h11 : (decide ((nI s) = (nI t))) = true := decide_eq_true (cn_ne.mp h11)
          refine z_rcs hc hH 1 (pc' := 32) (lv' := [(0, .ref 0), (1, .int (nI s))]) (st' := [.int 0]) (μ' := μ) (by rfl) ?_
          exact hr 0 32 _ _ _ (some (.int 0)) (by decide +kernel) (z_rx_ok hH (by rfl)) (Or.inl ⟨by simp only [clC, h1, h9, h11, Bool.true_or, Bool.or_true, Bool.false_or, Bool.or_false, Bool.true_and, Bool.and_true, Bool.false_and, Bool.and_false, Bool.not_true, Bool.not_false], rfl, rfl⟩)

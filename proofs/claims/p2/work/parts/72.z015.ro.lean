/-! the game: dear tiles, records, the end of a hand -/
set_option maxRecDepth 8000
theorem gc_all (d : Nat) (hd : 2 ≤ d) (μ : zM) (j : Nat) (hj : j < 4) (k : Int32) : z_C d mi_X3_all [.ref (19 + 8 * j), .int k] μ (zR μ (.int (fr μ (21 + 8 * j) k))) := by
  refine z_C_mono (sM_pure hj μ (by decide) (sg9 hj rfl) (fc_X3_all d hd (sMm j μ) k)) (fun r μ' z => ⟨z.1, ?_⟩)
  rcases z.2 with ⟨h1, h2⟩ | ⟨h1, h2⟩
  · rw [sM11 hj] at h2
    rw [map_int h2]; unfold fr; rw [z_in_iff.mpr h1]; rfl
  · rw [map_int h2]; unfold fr
    have e : z_in k 34 = false := by cases e : z_in k 34 with | false => rfl | true => exact absurd (z_in_iff.mp e) h1
    rw [e]; rfl
abbrev bhd (x : Int32) : Int32 := bif decide (27 ≤ x) then bif decide (x = 30) then (27 : Int32) else bif decide (x = 33) then (31 : Int32) else x + 1 else bif decide ((x - x / 9 * 9) = 8) then x - 8 else x + 1
theorem gc_signsN (d : Nat) (hd : 1 ≤ d) (μ : zM) (f : Nat) (h1 : μ.1 2 1 = 1) (hf : μ.1 2 3 = nI f) : z_C d mi_X4_signs [.ref 2] μ (zR μ (.int (nI (1 + f)))) := by
  have z := gc_signs d hd μ
  rw [h1, hf, show decide ((1 : Int32) = 0) = false from by decide, cond_false, show (1 : Int32) + nI f = nI (1 + f) from by rw [show (1 : Int32) = nI 1 from rfl, nI_add]] at z
  exact z
theorem kn_gt {n m : Nat} {M : Int32} (hM : M.toInt = (m : Int)) (h : n < 2147483648) (hm : m < n) : decide (nI n ≤ M) = false := decide_eq_false (by rw [Int32.le_iff_toInt_le, nI_toInt h, hM]; omega)
theorem kn_ge {n m : Nat} {M : Int32} (hM : M.toInt = (m : Int)) (h : n < 2147483648) (hm : n ≤ m) : decide (nI n ≤ M) = true := decide_eq_true (by rw [Int32.le_iff_toInt_le, nI_toInt h, hM]; omega)
theorem gc_dearTiles (d : Nat) (hd : 3 ≤ d) (μ : zM) (j : Nat) (hj : j < 4) (hd9 : Bool) (f : Nat) (hf4 : f ≤ 4) (hS1 : μ.1 2 1 = 1) (hf : μ.1 2 3 = nI f) : z_C d mi_X4_dearTiles [.ref 2, .ref (19 + 8 * j), .int (nB hd9)] μ (zR μ (.int (bif decide ((nI (1 + f)) ≤ (1 : Int32)) then (0 + (fr μ (21 + 8 * j) (bhd (μ.1 3 126)))) + (bif hd9 then fr μ (21 + 8 * j) (bhd (μ.1 3 127)) else (0 : Int32)) else bif decide ((nI (1 + f)) ≤ (2 : Int32)) then (((0 + (fr μ (21 + 8 * j) (bhd (μ.1 3 126)))) + (bif hd9 then fr μ (21 + 8 * j) (bhd (μ.1 3 127)) else (0 : Int32))) + (fr μ (21 + 8 * j) (bhd (μ.1 3 128)))) + (bif hd9 then fr μ (21 + 8 * j) (bhd (μ.1 3 129)) else (0 : Int32)) else bif decide ((nI (1 + f)) ≤ (3 : Int32)) then (((((0 + (fr μ (21 + 8 * j) (bhd (μ.1 3 126)))) + (bif hd9 then fr μ (21 + 8 * j) (bhd (μ.1 3 127)) else (0 : Int32))) + (fr μ (21 + 8 * j) (bhd (μ.1 3 128)))) + (bif hd9 then fr μ (21 + 8 * j) (bhd (μ.1 3 129)) else (0 : Int32))) + (fr μ (21 + 8 * j) (bhd (μ.1 3 130)))) + (bif hd9 then fr μ (21 + 8 * j) (bhd (μ.1 3 131)) else (0 : Int32)) else bif decide ((nI (1 + f)) ≤ (4 : Int32)) then (((((((0 + (fr μ (21 + 8 * j) (bhd (μ.1 3 126)))) + (bif hd9 then fr μ (21 + 8 * j) (bhd (μ.1 3 127)) else (0 : Int32))) + (fr μ (21 + 8 * j) (bhd (μ.1 3 128)))) + (bif hd9 then fr μ (21 + 8 * j) (bhd (μ.1 3 129)) else (0 : Int32))) + (fr μ (21 + 8 * j) (bhd (μ.1 3 130)))) + (bif hd9 then fr μ (21 + 8 * j) (bhd (μ.1 3 131)) else (0 : Int32))) + (fr μ (21 + 8 * j) (bhd (μ.1 3 132)))) + (bif hd9 then fr μ (21 + 8 * j) (bhd (μ.1 3 133)) else (0 : Int32)) else (((((((((0 + (fr μ (21 + 8 * j) (bhd (μ.1 3 126)))) + (bif hd9 then fr μ (21 + 8 * j) (bhd (μ.1 3 127)) else (0 : Int32))) + (fr μ (21 + 8 * j) (bhd (μ.1 3 128)))) + (bif hd9 then fr μ (21 + 8 * j) (bhd (μ.1 3 129)) else (0 : Int32))) + (fr μ (21 + 8 * j) (bhd (μ.1 3 130)))) + (bif hd9 then fr μ (21 + 8 * j) (bhd (μ.1 3 131)) else (0 : Int32))) + (fr μ (21 + 8 * j) (bhd (μ.1 3 132)))) + (bif hd9 then fr μ (21 + 8 * j) (bhd (μ.1 3 133)) else (0 : Int32))) + (fr μ (21 + 8 * j) (bhd (μ.1 3 134)))) + (bif hd9 then fr μ (21 + 8 * j) (bhd (μ.1 3 135)) else (0 : Int32))))) := by
  refine z_C_in (by decide) (by omega) (fun d' Z ed hc hr => ?_)
  have hH : zH mi_X4_dearTiles zc_X4_dearTiles 79 4 6 := ⟨by rfl, by rfl, by rfl, by rfl⟩
  refine z_rcs hc hH 6 (pc' := 8) (lv' := [(4, .int 0), (3, .int 0), (0, .ref 2), (1, .ref (19 + 8 * j)), (2, .int (nB hd9))]) (st' := [.ref 2, .int 0]) (μ' := μ) (by rfl) ?_
  refine zq_call hc (by rfl) (gc_signsN d' (by omega) μ f hS1 hf) (by decide +kernel) (fun r9 μ9 hq => ?_)
  obtain ⟨hμ9, rfl⟩ := hq
  rw [hμ9]
  clear hμ9 μ9
  show Z 0 11 [(4, .int 0), (3, .int 0), (0, .ref 2), (1, .ref (19 + 8 * j)), (2, .int (nB hd9))] [.int (nI (1 + f)), .int 0] μ
  refine zq_ic hc hH (by rfl) (tg := 67) (by rfl) (fun h1 => ?_) (fun h1 => ?_)
  · have h1 : (decide ((nI (1 + f)) ≤ (0 : Int32))) = true := decide_eq_true (cm_ge.mp h1)
    exact absurd (Eq.trans (Eq.symm (kn_gt (m := 0) rfl (by omega) (by omega))) h1) (by decide)
  · have h1 : (decide ((nI (1 + f)) ≤ (0 : Int32))) = false := decide_eq_false (cn_ge.mp h1)
    refine z_rcs hc hH 10 (pc' := 28) (lv' := [(5, .int 126), (4, .int 0), (3, .int 0), (0, .ref 2), (1, .ref (19 + 8 * j)), (2, .int (nB hd9))]) (st' := [.int 126, .ref 2, .ref (19 + 8 * j), .int 0]) (μ' := μ) (by rfl) ?_
    refine zq_call hc (by rfl) (gc_kindAtN d' (by omega) μ 126 (by decide) hS1) (by decide +kernel) (fun r9 μ9 hq => ?_)
    obtain ⟨hμ9, rfl⟩ := hq
    rw [hμ9]
    clear hμ9 μ9
    show Z 0 31 [(5, .int 126), (4, .int 0), (3, .int 0), (0, .ref 2), (1, .ref (19 + 8 * j)), (2, .int (nB hd9))] [.int (μ.1 3 126), .ref (19 + 8 * j), .int 0] μ
    refine zq_call hc (by rfl) (gc_behind d' (by omega) μ (μ.1 3 126)) (by decide +kernel) (fun r9 μ9 hq => ?_)
    obtain ⟨hμ9, rfl⟩ := hq
    rw [hμ9]
    clear hμ9 μ9
    show Z 0 34 [(5, .int 126), (4, .int 0), (3, .int 0), (0, .ref 2), (1, .ref (19 + 8 * j)), (2, .int (nB hd9))] [.int (bhd (μ.1 3 126)), .ref (19 + 8 * j), .int 0] μ
    refine zq_call hc (z_clv (by rfl) (by rfl) (by rfl) (by rfl) (by rfl) (by rfl) (sj (P := fun i => okr 79 2 (19 + 8 * i)) hj (by decide +kernel)) (by rfl) (by rfl)) (gc_all d' (by omega) μ j hj (bhd (μ.1 3 126))) (by decide +kernel) (fun r9 μ9 hq => ?_)
    obtain ⟨hμ9, rfl⟩ := hq
    rw [hμ9]
    clear hμ9 μ9
    show Z 0 37 [(5, .int 126), (4, .int 0), (3, .int 0), (0, .ref 2), (1, .ref (19 + 8 * j)), (2, .int (nB hd9))] [.int (fr μ (21 + 8 * j) (bhd (μ.1 3 126))), .int 0] μ
    refine z_rcs hc hH 3 (pc' := 40) (lv' := [(3, .int (0 + (fr μ (21 + 8 * j) (bhd (μ.1 3 126))))), (5, .int 126), (4, .int 0), (0, .ref 2), (1, .ref (19 + 8 * j)), (2, .int (nB hd9))]) (st' := [.int (nB hd9)]) (μ' := μ) (by rfl) ?_
    have hJ2 : Z 0 61 [(3, .int ((0 + (fr μ (21 + 8 * j) (bhd (μ.1 3 126)))) + (bif hd9 then fr μ (21 + 8 * j) (bhd (μ.1 3 127)) else (0 : Int32)))), (5, .int 126), (4, .int 0), (0, .ref 2), (1, .ref (19 + 8 * j)), (2, .int (nB hd9))] [] μ := by
      generalize hyy3 : ((0 + (fr μ (21 + 8 * j) (bhd (μ.1 3 126)))) + (bif hd9 then fr μ (21 + 8 * j) (bhd (μ.1 3 127)) else (0 : Int32)) : Int32) = yy3
      refine z_rcs hc hH 4 (pc' := 8) (lv' := [(4, .int 1), (3, .int yy3), (5, .int 126), (0, .ref 2), (1, .ref (19 + 8 * j)), (2, .int (nB hd9))]) (st' := [.ref 2, .int 1]) (μ' := μ) (by rfl) ?_
      refine zq_call hc (by rfl) (gc_signsN d' (by omega) μ f hS1 hf) (by decide +kernel) (fun r9 μ9 hq => ?_)
      obtain ⟨hμ9, rfl⟩ := hq
      rw [hμ9]
      clear hμ9 μ9
      show Z 0 11 [(4, .int 1), (3, .int yy3), (5, .int 126), (0, .ref 2), (1, .ref (19 + 8 * j)), (2, .int (nB hd9))] [.int (nI (1 + f)), .int 1] μ
      have hJ4 : Z 0 67 [(4, .int (bif decide ((nI (1 + f)) ≤ (1 : Int32)) then (1 : Int32) else bif decide ((nI (1 + f)) ≤ (2 : Int32)) then (2 : Int32) else bif decide ((nI (1 + f)) ≤ (3 : Int32)) then (3 : Int32) else bif decide ((nI (1 + f)) ≤ (4 : Int32)) then (4 : Int32) else 5)), (3, .int (bif decide ((nI (1 + f)) ≤ (1 : Int32)) then yy3 else bif decide ((nI (1 + f)) ≤ (2 : Int32)) then (yy3 + (fr μ (21 + 8 * j) (bhd (μ.1 3 128)))) + (bif hd9 then fr μ (21 + 8 * j) (bhd (μ.1 3 129)) else (0 : Int32)) else bif decide ((nI (1 + f)) ≤ (3 : Int32)) then (((yy3 + (fr μ (21 + 8 * j) (bhd (μ.1 3 128)))) + (bif hd9 then fr μ (21 + 8 * j) (bhd (μ.1 3 129)) else (0 : Int32))) + (fr μ (21 + 8 * j) (bhd (μ.1 3 130)))) + (bif hd9 then fr μ (21 + 8 * j) (bhd (μ.1 3 131)) else (0 : Int32)) else bif decide ((nI (1 + f)) ≤ (4 : Int32)) then (((((yy3 + (fr μ (21 + 8 * j) (bhd (μ.1 3 128)))) + (bif hd9 then fr μ (21 + 8 * j) (bhd (μ.1 3 129)) else (0 : Int32))) + (fr μ (21 + 8 * j) (bhd (μ.1 3 130)))) + (bif hd9 then fr μ (21 + 8 * j) (bhd (μ.1 3 131)) else (0 : Int32))) + (fr μ (21 + 8 * j) (bhd (μ.1 3 132)))) + (bif hd9 then fr μ (21 + 8 * j) (bhd (μ.1 3 133)) else (0 : Int32)) else (((((((yy3 + (fr μ (21 + 8 * j) (bhd (μ.1 3 128)))) + (bif hd9 then fr μ (21 + 8 * j) (bhd (μ.1 3 129)) else (0 : Int32))) + (fr μ (21 + 8 * j) (bhd (μ.1 3 130)))) + (bif hd9 then fr μ (21 + 8 * j) (bhd (μ.1 3 131)) else (0 : Int32))) + (fr μ (21 + 8 * j) (bhd (μ.1 3 132)))) + (bif hd9 then fr μ (21 + 8 * j) (bhd (μ.1 3 133)) else (0 : Int32))) + (fr μ (21 + 8 * j) (bhd (μ.1 3 134)))) + (bif hd9 then fr μ (21 + 8 * j) (bhd (μ.1 3 135)) else (0 : Int32)))), (5, .int (bif decide ((nI (1 + f)) ≤ (1 : Int32)) then (126 : Int32) else bif decide ((nI (1 + f)) ≤ (2 : Int32)) then (128 : Int32) else bif decide ((nI (1 + f)) ≤ (3 : Int32)) then (130 : Int32) else bif decide ((nI (1 + f)) ≤ (4 : Int32)) then (132 : Int32) else 134)), (0, .ref 2), (1, .ref (19 + 8 * j)), (2, .int (nB hd9))] [] μ := by
        generalize hyy5 : (bif decide ((nI (1 + f)) ≤ (1 : Int32)) then (1 : Int32) else bif decide ((nI (1 + f)) ≤ (2 : Int32)) then (2 : Int32) else bif decide ((nI (1 + f)) ≤ (3 : Int32)) then (3 : Int32) else bif decide ((nI (1 + f)) ≤ (4 : Int32)) then (4 : Int32) else 5 : Int32) = yy5
        generalize hyy6 : (bif decide ((nI (1 + f)) ≤ (1 : Int32)) then yy3 else bif decide ((nI (1 + f)) ≤ (2 : Int32)) then (yy3 + (fr μ (21 + 8 * j) (bhd (μ.1 3 128)))) + (bif hd9 then fr μ (21 + 8 * j) (bhd (μ.1 3 129)) else (0 : Int32)) else bif decide ((nI (1 + f)) ≤ (3 : Int32)) then (((yy3 + (fr μ (21 + 8 * j) (bhd (μ.1 3 128)))) + (bif hd9 then fr μ (21 + 8 * j) (bhd (μ.1 3 129)) else (0 : Int32))) + (fr μ (21 + 8 * j) (bhd (μ.1 3 130)))) + (bif hd9 then fr μ (21 + 8 * j) (bhd (μ.1 3 131)) else (0 : Int32)) else bif decide ((nI (1 + f)) ≤ (4 : Int32)) then (((((yy3 + (fr μ (21 + 8 * j) (bhd (μ.1 3 128)))) + (bif hd9 then fr μ (21 + 8 * j) (bhd (μ.1 3 129)) else (0 : Int32))) + (fr μ (21 + 8 * j) (bhd (μ.1 3 130)))) + (bif hd9 then fr μ (21 + 8 * j) (bhd (μ.1 3 131)) else (0 : Int32))) + (fr μ (21 + 8 * j) (bhd (μ.1 3 132)))) + (bif hd9 then fr μ (21 + 8 * j) (bhd (μ.1 3 133)) else (0 : Int32)) else (((((((yy3 + (fr μ (21 + 8 * j) (bhd (μ.1 3 128)))) + (bif hd9 then fr μ (21 + 8 * j) (bhd (μ.1 3 129)) else (0 : Int32))) + (fr μ (21 + 8 * j) (bhd (μ.1 3 130)))) + (bif hd9 then fr μ (21 + 8 * j) (bhd (μ.1 3 131)) else (0 : Int32))) + (fr μ (21 + 8 * j) (bhd (μ.1 3 132)))) + (bif hd9 then fr μ (21 + 8 * j) (bhd (μ.1 3 133)) else (0 : Int32))) + (fr μ (21 + 8 * j) (bhd (μ.1 3 134)))) + (bif hd9 then fr μ (21 + 8 * j) (bhd (μ.1 3 135)) else (0 : Int32)) : Int32) = yy6
        generalize hyy7 : (bif decide ((nI (1 + f)) ≤ (1 : Int32)) then (126 : Int32) else bif decide ((nI (1 + f)) ≤ (2 : Int32)) then (128 : Int32) else bif decide ((nI (1 + f)) ≤ (3 : Int32)) then (130 : Int32) else bif decide ((nI (1 + f)) ≤ (4 : Int32)) then (132 : Int32) else 134 : Int32) = yy7
        refine z_rcs hc hH 1 (pc' := 68) (lv' := [(4, .int yy5), (3, .int yy6), (5, .int yy7), (0, .ref 2), (1, .ref (19 + 8 * j)), (2, .int (nB hd9))]) (st' := [.int yy6]) (μ' := μ) (by rfl) ?_
        exact hr 0 68 _ _ _ (some (.int yy6)) (by decide +kernel) (by rfl) (⟨rfl, (by subst hyy7; subst hyy6; subst hyy5; subst hyy3; rfl)⟩)
      refine zq_ic hc hH (by rfl) (tg := 67) (by rfl) (fun h8 => ?_) (fun h8 => ?_)
      · have h8 : (decide ((nI (1 + f)) ≤ (1 : Int32))) = true := decide_eq_true (cm_ge.mp h8)
        exact zJ hJ4 (by first | rfl | simp only [h8, lb_f, Int64.or_zero, Int32.add_zero, nB_t, nB_f, Bool.not_true, Bool.not_false, Bool.and_true, Bool.true_and, Bool.false_and, Bool.and_false, Bool.or_true, Bool.true_or, Bool.false_or, Bool.or_false, cond_true, cond_false]) rfl rfl
      · have h8 : (decide ((nI (1 + f)) ≤ (1 : Int32))) = false := decide_eq_false (cn_ge.mp h8)
        refine z_rcs hc hH 10 (pc' := 28) (lv' := [(5, .int 128), (4, .int 1), (3, .int yy3), (0, .ref 2), (1, .ref (19 + 8 * j)), (2, .int (nB hd9))]) (st' := [.int 128, .ref 2, .ref (19 + 8 * j), .int yy3]) (μ' := μ) (by rfl) ?_
        refine zq_call hc (by rfl) (gc_kindAtN d' (by omega) μ 128 (by decide) hS1) (by decide +kernel) (fun r9 μ9 hq => ?_)
        obtain ⟨hμ9, rfl⟩ := hq
        rw [hμ9]
        clear hμ9 μ9
        show Z 0 31 [(5, .int 128), (4, .int 1), (3, .int yy3), (0, .ref 2), (1, .ref (19 + 8 * j)), (2, .int (nB hd9))] [.int (μ.1 3 128), .ref (19 + 8 * j), .int yy3] μ
        refine zq_call hc (by rfl) (gc_behind d' (by omega) μ (μ.1 3 128)) (by decide +kernel) (fun r9 μ9 hq => ?_)
        obtain ⟨hμ9, rfl⟩ := hq
        rw [hμ9]
        clear hμ9 μ9
        show Z 0 34 [(5, .int 128), (4, .int 1), (3, .int yy3), (0, .ref 2), (1, .ref (19 + 8 * j)), (2, .int (nB hd9))] [.int (bhd (μ.1 3 128)), .ref (19 + 8 * j), .int yy3] μ
        refine zq_call hc (z_clv (by rfl) (by rfl) (by rfl) (by rfl) (by rfl) (by rfl) (sj (P := fun i => okr 79 2 (19 + 8 * i)) hj (by decide +kernel)) (by rfl) (by rfl)) (gc_all d' (by omega) μ j hj (bhd (μ.1 3 128))) (by decide +kernel) (fun r9 μ9 hq => ?_)
        obtain ⟨hμ9, rfl⟩ := hq
        rw [hμ9]
        clear hμ9 μ9
        show Z 0 37 [(5, .int 128), (4, .int 1), (3, .int yy3), (0, .ref 2), (1, .ref (19 + 8 * j)), (2, .int (nB hd9))] [.int (fr μ (21 + 8 * j) (bhd (μ.1 3 128))), .int yy3] μ
        refine z_rcs hc hH 3 (pc' := 40) (lv' := [(3, .int (yy3 + (fr μ (21 + 8 * j) (bhd (μ.1 3 128))))), (5, .int 128), (4, .int 1), (0, .ref 2), (1, .ref (19 + 8 * j)), (2, .int (nB hd9))]) (st' := [.int (nB hd9)]) (μ' := μ) (by rfl) ?_
        have hJ9 : Z 0 61 [(3, .int ((yy3 + (fr μ (21 + 8 * j) (bhd (μ.1 3 128)))) + (bif hd9 then fr μ (21 + 8 * j) (bhd (μ.1 3 129)) else (0 : Int32)))), (5, .int 128), (4, .int 1), (0, .ref 2), (1, .ref (19 + 8 * j)), (2, .int (nB hd9))] [] μ := by
          generalize hyy10 : ((yy3 + (fr μ (21 + 8 * j) (bhd (μ.1 3 128)))) + (bif hd9 then fr μ (21 + 8 * j) (bhd (μ.1 3 129)) else (0 : Int32)) : Int32) = yy10
          refine z_rcs hc hH 4 (pc' := 8) (lv' := [(4, .int 2), (3, .int yy10), (5, .int 128), (0, .ref 2), (1, .ref (19 + 8 * j)), (2, .int (nB hd9))]) (st' := [.ref 2, .int 2]) (μ' := μ) (by rfl) ?_
          refine zq_call hc (by rfl) (gc_signsN d' (by omega) μ f hS1 hf) (by decide +kernel) (fun r9 μ9 hq => ?_)
          obtain ⟨hμ9, rfl⟩ := hq
          rw [hμ9]
          clear hμ9 μ9
          show Z 0 11 [(4, .int 2), (3, .int yy10), (5, .int 128), (0, .ref 2), (1, .ref (19 + 8 * j)), (2, .int (nB hd9))] [.int (nI (1 + f)), .int 2] μ
          refine zq_ic hc hH (by rfl) (tg := 67) (by rfl) (fun h11 => ?_) (fun h11 => ?_)
          · have h11 : (decide ((nI (1 + f)) ≤ (2 : Int32))) = true := decide_eq_true (cm_ge.mp h11)
            subst hyy10
            exact zJ hJ4 (by first | rfl | simp only [h8, h11, lb_f, Int64.or_zero, Int32.add_zero, nB_t, nB_f, Bool.not_true, Bool.not_false, Bool.and_true, Bool.true_and, Bool.false_and, Bool.and_false, Bool.or_true, Bool.true_or, Bool.false_or, Bool.or_false, cond_true, cond_false]) rfl rfl
          · have h11 : (decide ((nI (1 + f)) ≤ (2 : Int32))) = false := decide_eq_false (cn_ge.mp h11)
            refine z_rcs hc hH 10 (pc' := 28) (lv' := [(5, .int 130), (4, .int 2), (3, .int yy10), (0, .ref 2), (1, .ref (19 + 8 * j)), (2, .int (nB hd9))]) (st' := [.int 130, .ref 2, .ref (19 + 8 * j), .int yy10]) (μ' := μ) (by rfl) ?_
            refine zq_call hc (by rfl) (gc_kindAtN d' (by omega) μ 130 (by decide) hS1) (by decide +kernel) (fun r9 μ9 hq => ?_)
            obtain ⟨hμ9, rfl⟩ := hq
            rw [hμ9]
            clear hμ9 μ9
            show Z 0 31 [(5, .int 130), (4, .int 2), (3, .int yy10), (0, .ref 2), (1, .ref (19 + 8 * j)), (2, .int (nB hd9))] [.int (μ.1 3 130), .ref (19 + 8 * j), .int yy10] μ
            refine zq_call hc (by rfl) (gc_behind d' (by omega) μ (μ.1 3 130)) (by decide +kernel) (fun r9 μ9 hq => ?_)
            obtain ⟨hμ9, rfl⟩ := hq
            rw [hμ9]
            clear hμ9 μ9
            show Z 0 34 [(5, .int 130), (4, .int 2), (3, .int yy10), (0, .ref 2), (1, .ref (19 + 8 * j)), (2, .int (nB hd9))] [.int (bhd (μ.1 3 130)), .ref (19 + 8 * j), .int yy10] μ
            refine zq_call hc (z_clv (by rfl) (by rfl) (by rfl) (by rfl) (by rfl) (by rfl) (sj (P := fun i => okr 79 2 (19 + 8 * i)) hj (by decide +kernel)) (by rfl) (by rfl)) (gc_all d' (by omega) μ j hj (bhd (μ.1 3 130))) (by decide +kernel) (fun r9 μ9 hq => ?_)
            obtain ⟨hμ9, rfl⟩ := hq
            rw [hμ9]
            clear hμ9 μ9
            show Z 0 37 [(5, .int 130), (4, .int 2), (3, .int yy10), (0, .ref 2), (1, .ref (19 + 8 * j)), (2, .int (nB hd9))] [.int (fr μ (21 + 8 * j) (bhd (μ.1 3 130))), .int yy10] μ
            refine z_rcs hc hH 3 (pc' := 40) (lv' := [(3, .int (yy10 + (fr μ (21 + 8 * j) (bhd (μ.1 3 130))))), (5, .int 130), (4, .int 2), (0, .ref 2), (1, .ref (19 + 8 * j)), (2, .int (nB hd9))]) (st' := [.int (nB hd9)]) (μ' := μ) (by rfl) ?_
            have hJ12 : Z 0 61 [(3, .int ((yy10 + (fr μ (21 + 8 * j) (bhd (μ.1 3 130)))) + (bif hd9 then fr μ (21 + 8 * j) (bhd (μ.1 3 131)) else (0 : Int32)))), (5, .int 130), (4, .int 2), (0, .ref 2), (1, .ref (19 + 8 * j)), (2, .int (nB hd9))] [] μ := by
              generalize hyy13 : ((yy10 + (fr μ (21 + 8 * j) (bhd (μ.1 3 130)))) + (bif hd9 then fr μ (21 + 8 * j) (bhd (μ.1 3 131)) else (0 : Int32)) : Int32) = yy13
              refine z_rcs hc hH 4 (pc' := 8) (lv' := [(4, .int 3), (3, .int yy13), (5, .int 130), (0, .ref 2), (1, .ref (19 + 8 * j)), (2, .int (nB hd9))]) (st' := [.ref 2, .int 3]) (μ' := μ) (by rfl) ?_
              refine zq_call hc (by rfl) (gc_signsN d' (by omega) μ f hS1 hf) (by decide +kernel) (fun r9 μ9 hq => ?_)
              obtain ⟨hμ9, rfl⟩ := hq
              rw [hμ9]
              clear hμ9 μ9
              show Z 0 11 [(4, .int 3), (3, .int yy13), (5, .int 130), (0, .ref 2), (1, .ref (19 + 8 * j)), (2, .int (nB hd9))] [.int (nI (1 + f)), .int 3] μ
              refine zq_ic hc hH (by rfl) (tg := 67) (by rfl) (fun h14 => ?_) (fun h14 => ?_)
              · have h14 : (decide ((nI (1 + f)) ≤ (3 : Int32))) = true := decide_eq_true (cm_ge.mp h14)
                subst hyy13
                subst hyy10
                exact zJ hJ4 (by first | rfl | simp only [h8, h11, h14, lb_f, Int64.or_zero, Int32.add_zero, nB_t, nB_f, Bool.not_true, Bool.not_false, Bool.and_true, Bool.true_and, Bool.false_and, Bool.and_false, Bool.or_true, Bool.true_or, Bool.false_or, Bool.or_false, cond_true, cond_false]) rfl rfl
              · have h14 : (decide ((nI (1 + f)) ≤ (3 : Int32))) = false := decide_eq_false (cn_ge.mp h14)
                refine z_rcs hc hH 10 (pc' := 28) (lv' := [(5, .int 132), (4, .int 3), (3, .int yy13), (0, .ref 2), (1, .ref (19 + 8 * j)), (2, .int (nB hd9))]) (st' := [.int 132, .ref 2, .ref (19 + 8 * j), .int yy13]) (μ' := μ) (by rfl) ?_
                refine zq_call hc (by rfl) (gc_kindAtN d' (by omega) μ 132 (by decide) hS1) (by decide +kernel) (fun r9 μ9 hq => ?_)
                obtain ⟨hμ9, rfl⟩ := hq
                rw [hμ9]
                clear hμ9 μ9
                show Z 0 31 [(5, .int 132), (4, .int 3), (3, .int yy13), (0, .ref 2), (1, .ref (19 + 8 * j)), (2, .int (nB hd9))] [.int (μ.1 3 132), .ref (19 + 8 * j), .int yy13] μ
                refine zq_call hc (by rfl) (gc_behind d' (by omega) μ (μ.1 3 132)) (by decide +kernel) (fun r9 μ9 hq => ?_)
                obtain ⟨hμ9, rfl⟩ := hq
                rw [hμ9]
                clear hμ9 μ9
                show Z 0 34 [(5, .int 132), (4, .int 3), (3, .int yy13), (0, .ref 2), (1, .ref (19 + 8 * j)), (2, .int (nB hd9))] [.int (bhd (μ.1 3 132)), .ref (19 + 8 * j), .int yy13] μ
                refine zq_call hc (z_clv (by rfl) (by rfl) (by rfl) (by rfl) (by rfl) (by rfl) (sj (P := fun i => okr 79 2 (19 + 8 * i)) hj (by decide +kernel)) (by rfl) (by rfl)) (gc_all d' (by omega) μ j hj (bhd (μ.1 3 132))) (by decide +kernel) (fun r9 μ9 hq => ?_)
                obtain ⟨hμ9, rfl⟩ := hq
                rw [hμ9]
                clear hμ9 μ9
                show Z 0 37 [(5, .int 132), (4, .int 3), (3, .int yy13), (0, .ref 2), (1, .ref (19 + 8 * j)), (2, .int (nB hd9))] [.int (fr μ (21 + 8 * j) (bhd (μ.1 3 132))), .int yy13] μ
                refine z_rcs hc hH 3 (pc' := 40) (lv' := [(3, .int (yy13 + (fr μ (21 + 8 * j) (bhd (μ.1 3 132))))), (5, .int 132), (4, .int 3), (0, .ref 2), (1, .ref (19 + 8 * j)), (2, .int (nB hd9))]) (st' := [.int (nB hd9)]) (μ' := μ) (by rfl) ?_
                have hJ15 : Z 0 61 [(3, .int ((yy13 + (fr μ (21 + 8 * j) (bhd (μ.1 3 132)))) + (bif hd9 then fr μ (21 + 8 * j) (bhd (μ.1 3 133)) else (0 : Int32)))), (5, .int 132), (4, .int 3), (0, .ref 2), (1, .ref (19 + 8 * j)), (2, .int (nB hd9))] [] μ := by
                  generalize hyy16 : ((yy13 + (fr μ (21 + 8 * j) (bhd (μ.1 3 132)))) + (bif hd9 then fr μ (21 + 8 * j) (bhd (μ.1 3 133)) else (0 : Int32)) : Int32) = yy16
                  refine z_rcs hc hH 4 (pc' := 8) (lv' := [(4, .int 4), (3, .int yy16), (5, .int 132), (0, .ref 2), (1, .ref (19 + 8 * j)), (2, .int (nB hd9))]) (st' := [.ref 2, .int 4]) (μ' := μ) (by rfl) ?_
                  refine zq_call hc (by rfl) (gc_signsN d' (by omega) μ f hS1 hf) (by decide +kernel) (fun r9 μ9 hq => ?_)
                  obtain ⟨hμ9, rfl⟩ := hq
                  rw [hμ9]
                  clear hμ9 μ9
                  show Z 0 11 [(4, .int 4), (3, .int yy16), (5, .int 132), (0, .ref 2), (1, .ref (19 + 8 * j)), (2, .int (nB hd9))] [.int (nI (1 + f)), .int 4] μ
                  refine zq_ic hc hH (by rfl) (tg := 67) (by rfl) (fun h17 => ?_) (fun h17 => ?_)
                  · have h17 : (decide ((nI (1 + f)) ≤ (4 : Int32))) = true := decide_eq_true (cm_ge.mp h17)
                    subst hyy16
                    subst hyy13
                    subst hyy10
                    exact zJ hJ4 (by first | rfl | simp only [h8, h11, h14, h17, lb_f, Int64.or_zero, Int32.add_zero, nB_t, nB_f, Bool.not_true, Bool.not_false, Bool.and_true, Bool.true_and, Bool.false_and, Bool.and_false, Bool.or_true, Bool.true_or, Bool.false_or, Bool.or_false, cond_true, cond_false]) rfl rfl
                  · have h17 : (decide ((nI (1 + f)) ≤ (4 : Int32))) = false := decide_eq_false (cn_ge.mp h17)
                    refine z_rcs hc hH 10 (pc' := 28) (lv' := [(5, .int 134), (4, .int 4), (3, .int yy16), (0, .ref 2), (1, .ref (19 + 8 * j)), (2, .int (nB hd9))]) (st' := [.int 134, .ref 2, .ref (19 + 8 * j), .int yy16]) (μ' := μ) (by rfl) ?_
                    refine zq_call hc (by rfl) (gc_kindAtN d' (by omega) μ 134 (by decide) hS1) (by decide +kernel) (fun r9 μ9 hq => ?_)
                    obtain ⟨hμ9, rfl⟩ := hq
                    rw [hμ9]
                    clear hμ9 μ9
                    show Z 0 31 [(5, .int 134), (4, .int 4), (3, .int yy16), (0, .ref 2), (1, .ref (19 + 8 * j)), (2, .int (nB hd9))] [.int (μ.1 3 134), .ref (19 + 8 * j), .int yy16] μ
                    refine zq_call hc (by rfl) (gc_behind d' (by omega) μ (μ.1 3 134)) (by decide +kernel) (fun r9 μ9 hq => ?_)
                    obtain ⟨hμ9, rfl⟩ := hq
                    rw [hμ9]
                    clear hμ9 μ9
                    show Z 0 34 [(5, .int 134), (4, .int 4), (3, .int yy16), (0, .ref 2), (1, .ref (19 + 8 * j)), (2, .int (nB hd9))] [.int (bhd (μ.1 3 134)), .ref (19 + 8 * j), .int yy16] μ
                    refine zq_call hc (z_clv (by rfl) (by rfl) (by rfl) (by rfl) (by rfl) (by rfl) (sj (P := fun i => okr 79 2 (19 + 8 * i)) hj (by decide +kernel)) (by rfl) (by rfl)) (gc_all d' (by omega) μ j hj (bhd (μ.1 3 134))) (by decide +kernel) (fun r9 μ9 hq => ?_)
                    obtain ⟨hμ9, rfl⟩ := hq
                    rw [hμ9]
                    clear hμ9 μ9
                    show Z 0 37 [(5, .int 134), (4, .int 4), (3, .int yy16), (0, .ref 2), (1, .ref (19 + 8 * j)), (2, .int (nB hd9))] [.int (fr μ (21 + 8 * j) (bhd (μ.1 3 134))), .int yy16] μ
                    refine z_rcs hc hH 3 (pc' := 40) (lv' := [(3, .int (yy16 + (fr μ (21 + 8 * j) (bhd (μ.1 3 134))))), (5, .int 134), (4, .int 4), (0, .ref 2), (1, .ref (19 + 8 * j)), (2, .int (nB hd9))]) (st' := [.int (nB hd9)]) (μ' := μ) (by rfl) ?_
                    have hJ18 : Z 0 61 [(3, .int ((yy16 + (fr μ (21 + 8 * j) (bhd (μ.1 3 134)))) + (bif hd9 then fr μ (21 + 8 * j) (bhd (μ.1 3 135)) else (0 : Int32)))), (5, .int 134), (4, .int 4), (0, .ref 2), (1, .ref (19 + 8 * j)), (2, .int (nB hd9))] [] μ := by
                      generalize hyy19 : ((yy16 + (fr μ (21 + 8 * j) (bhd (μ.1 3 134)))) + (bif hd9 then fr μ (21 + 8 * j) (bhd (μ.1 3 135)) else (0 : Int32)) : Int32) = yy19
                      refine z_rcs hc hH 4 (pc' := 8) (lv' := [(4, .int 5), (3, .int yy19), (5, .int 134), (0, .ref 2), (1, .ref (19 + 8 * j)), (2, .int (nB hd9))]) (st' := [.ref 2, .int 5]) (μ' := μ) (by rfl) ?_
                      refine zq_call hc (by rfl) (gc_signsN d' (by omega) μ f hS1 hf) (by decide +kernel) (fun r9 μ9 hq => ?_)
                      obtain ⟨hμ9, rfl⟩ := hq
                      rw [hμ9]
                      clear hμ9 μ9
                      show Z 0 11 [(4, .int 5), (3, .int yy19), (5, .int 134), (0, .ref 2), (1, .ref (19 + 8 * j)), (2, .int (nB hd9))] [.int (nI (1 + f)), .int 5] μ
                      refine zq_ic hc hH (by rfl) (tg := 67) (by rfl) (fun h20 => ?_) (fun h20 => ?_)
                      · have h20 : (decide ((nI (1 + f)) ≤ (5 : Int32))) = true := decide_eq_true (cm_ge.mp h20)
                        subst hyy19
                        subst hyy16
                        subst hyy13
                        subst hyy10
                        exact zJ hJ4 (by first | rfl | simp only [h8, h11, h14, h17, lb_f, Int64.or_zero, Int32.add_zero, nB_t, nB_f, Bool.not_true, Bool.not_false, Bool.and_true, Bool.true_and, Bool.false_and, Bool.and_false, Bool.or_true, Bool.true_or, Bool.false_or, Bool.or_false, cond_true, cond_false]) rfl rfl
                      · have h20 : (decide ((nI (1 + f)) ≤ (5 : Int32))) = false := decide_eq_false (cn_ge.mp h20)
                        exact absurd (Eq.trans (Eq.symm (kn_ge (m := 5) rfl (by omega) (by omega))) h20) (by decide)
                    refine zq_if hc hH (by rfl) (tg := 61) (by rfl) (fun h21 => ?_) (fun h21 => ?_)
                    · have h21 : (hd9) = false := nB_z.mp (cm_eq9.mp h21)
                      exact zJ hJ18 (by first | rfl | simp only [h21, lb_f, Int64.or_zero, Int32.add_zero, nB_t, nB_f, Bool.not_true, Bool.not_false, Bool.and_true, Bool.true_and, Bool.false_and, Bool.and_false, Bool.or_true, Bool.true_or, Bool.false_or, Bool.or_false, cond_true, cond_false]) rfl rfl
                    · have h21 : (hd9) = true := nB_n.mp (cn_eq.mp h21)
                      refine z_rcs hc hH 6 (pc' := 50) (lv' := [(3, .int (yy16 + (fr μ (21 + 8 * j) (bhd (μ.1 3 134))))), (5, .int 134), (4, .int 4), (0, .ref 2), (1, .ref (19 + 8 * j)), (2, .int (nB hd9))]) (st' := [.int 135, .ref 2, .ref (19 + 8 * j), .int (yy16 + (fr μ (21 + 8 * j) (bhd (μ.1 3 134))))]) (μ' := μ) (by rfl) ?_
                      refine zq_call hc (by rfl) (gc_kindAtN d' (by omega) μ 135 (by decide) hS1) (by decide +kernel) (fun r9 μ9 hq => ?_)
                      obtain ⟨hμ9, rfl⟩ := hq
                      rw [hμ9]
                      clear hμ9 μ9
                      show Z 0 53 [(3, .int (yy16 + (fr μ (21 + 8 * j) (bhd (μ.1 3 134))))), (5, .int 134), (4, .int 4), (0, .ref 2), (1, .ref (19 + 8 * j)), (2, .int (nB hd9))] [.int (μ.1 3 135), .ref (19 + 8 * j), .int (yy16 + (fr μ (21 + 8 * j) (bhd (μ.1 3 134))))] μ
                      refine zq_call hc (by rfl) (gc_behind d' (by omega) μ (μ.1 3 135)) (by decide +kernel) (fun r9 μ9 hq => ?_)
                      obtain ⟨hμ9, rfl⟩ := hq
                      rw [hμ9]
                      clear hμ9 μ9
                      show Z 0 56 [(3, .int (yy16 + (fr μ (21 + 8 * j) (bhd (μ.1 3 134))))), (5, .int 134), (4, .int 4), (0, .ref 2), (1, .ref (19 + 8 * j)), (2, .int (nB hd9))] [.int (bhd (μ.1 3 135)), .ref (19 + 8 * j), .int (yy16 + (fr μ (21 + 8 * j) (bhd (μ.1 3 134))))] μ
                      refine zq_call hc (z_clv (by rfl) (by rfl) (by rfl) (by rfl) (by rfl) (by rfl) (sj (P := fun i => okr 79 2 (19 + 8 * i)) hj (by decide +kernel)) (by rfl) (by rfl)) (gc_all d' (by omega) μ j hj (bhd (μ.1 3 135))) (by decide +kernel) (fun r9 μ9 hq => ?_)
                      obtain ⟨hμ9, rfl⟩ := hq
                      rw [hμ9]
                      clear hμ9 μ9
                      show Z 0 59 [(3, .int (yy16 + (fr μ (21 + 8 * j) (bhd (μ.1 3 134))))), (5, .int 134), (4, .int 4), (0, .ref 2), (1, .ref (19 + 8 * j)), (2, .int (nB hd9))] [.int (fr μ (21 + 8 * j) (bhd (μ.1 3 135))), .int (yy16 + (fr μ (21 + 8 * j) (bhd (μ.1 3 134))))] μ
                      refine z_rcs hc hH 2 (pc' := 61) (lv' := [(3, .int ((yy16 + (fr μ (21 + 8 * j) (bhd (μ.1 3 134)))) + (fr μ (21 + 8 * j) (bhd (μ.1 3 135))))), (5, .int 134), (4, .int 4), (0, .ref 2), (1, .ref (19 + 8 * j)), (2, .int (nB hd9))]) (st' := []) (μ' := μ) (by rfl) ?_
                      exact zJ hJ18 (by first | rfl | simp only [h21, lb_f, Int64.or_zero, Int32.add_zero, nB_t, nB_f, Bool.not_true, Bool.not_false, Bool.and_true, Bool.true_and, Bool.false_and, Bool.and_false, Bool.or_true, Bool.true_or, Bool.false_or, Bool.or_false, cond_true, cond_false]) rfl rfl
                refine zq_if hc hH (by rfl) (tg := 61) (by rfl) (fun h22 => ?_) (fun h22 => ?_)
                · have h22 : (hd9) = false := nB_z.mp (cm_eq9.mp h22)
                  exact zJ hJ15 (by first | rfl | simp only [h22, lb_f, Int64.or_zero, Int32.add_zero, nB_t, nB_f, Bool.not_true, Bool.not_false, Bool.and_true, Bool.true_and, Bool.false_and, Bool.and_false, Bool.or_true, Bool.true_or, Bool.false_or, Bool.or_false, cond_true, cond_false]) rfl rfl
                · have h22 : (hd9) = true := nB_n.mp (cn_eq.mp h22)
                  refine z_rcs hc hH 6 (pc' := 50) (lv' := [(3, .int (yy13 + (fr μ (21 + 8 * j) (bhd (μ.1 3 132))))), (5, .int 132), (4, .int 3), (0, .ref 2), (1, .ref (19 + 8 * j)), (2, .int (nB hd9))]) (st' := [.int 133, .ref 2, .ref (19 + 8 * j), .int (yy13 + (fr μ (21 + 8 * j) (bhd (μ.1 3 132))))]) (μ' := μ) (by rfl) ?_
                  refine zq_call hc (by rfl) (gc_kindAtN d' (by omega) μ 133 (by decide) hS1) (by decide +kernel) (fun r9 μ9 hq => ?_)
                  obtain ⟨hμ9, rfl⟩ := hq
                  rw [hμ9]
                  clear hμ9 μ9
                  show Z 0 53 [(3, .int (yy13 + (fr μ (21 + 8 * j) (bhd (μ.1 3 132))))), (5, .int 132), (4, .int 3), (0, .ref 2), (1, .ref (19 + 8 * j)), (2, .int (nB hd9))] [.int (μ.1 3 133), .ref (19 + 8 * j), .int (yy13 + (fr μ (21 + 8 * j) (bhd (μ.1 3 132))))] μ
                  refine zq_call hc (by rfl) (gc_behind d' (by omega) μ (μ.1 3 133)) (by decide +kernel) (fun r9 μ9 hq => ?_)
                  obtain ⟨hμ9, rfl⟩ := hq
                  rw [hμ9]
                  clear hμ9 μ9
                  show Z 0 56 [(3, .int (yy13 + (fr μ (21 + 8 * j) (bhd (μ.1 3 132))))), (5, .int 132), (4, .int 3), (0, .ref 2), (1, .ref (19 + 8 * j)), (2, .int (nB hd9))] [.int (bhd (μ.1 3 133)), .ref (19 + 8 * j), .int (yy13 + (fr μ (21 + 8 * j) (bhd (μ.1 3 132))))] μ
                  refine zq_call hc (z_clv (by rfl) (by rfl) (by rfl) (by rfl) (by rfl) (by rfl) (sj (P := fun i => okr 79 2 (19 + 8 * i)) hj (by decide +kernel)) (by rfl) (by rfl)) (gc_all d' (by omega) μ j hj (bhd (μ.1 3 133))) (by decide +kernel) (fun r9 μ9 hq => ?_)
                  obtain ⟨hμ9, rfl⟩ := hq
                  rw [hμ9]
                  clear hμ9 μ9
                  show Z 0 59 [(3, .int (yy13 + (fr μ (21 + 8 * j) (bhd (μ.1 3 132))))), (5, .int 132), (4, .int 3), (0, .ref 2), (1, .ref (19 + 8 * j)), (2, .int (nB hd9))] [.int (fr μ (21 + 8 * j) (bhd (μ.1 3 133))), .int (yy13 + (fr μ (21 + 8 * j) (bhd (μ.1 3 132))))] μ
                  refine z_rcs hc hH 2 (pc' := 61) (lv' := [(3, .int ((yy13 + (fr μ (21 + 8 * j) (bhd (μ.1 3 132)))) + (fr μ (21 + 8 * j) (bhd (μ.1 3 133))))), (5, .int 132), (4, .int 3), (0, .ref 2), (1, .ref (19 + 8 * j)), (2, .int (nB hd9))]) (st' := []) (μ' := μ) (by rfl) ?_
                  exact zJ hJ15 (by first | rfl | simp only [h22, lb_f, Int64.or_zero, Int32.add_zero, nB_t, nB_f, Bool.not_true, Bool.not_false, Bool.and_true, Bool.true_and, Bool.false_and, Bool.and_false, Bool.or_true, Bool.true_or, Bool.false_or, Bool.or_false, cond_true, cond_false]) rfl rfl
            refine zq_if hc hH (by rfl) (tg := 61) (by rfl) (fun h23 => ?_) (fun h23 => ?_)
            · have h23 : (hd9) = false := nB_z.mp (cm_eq9.mp h23)
              exact zJ hJ12 (by first | rfl | simp only [h23, lb_f, Int64.or_zero, Int32.add_zero, nB_t, nB_f, Bool.not_true, Bool.not_false, Bool.and_true, Bool.true_and, Bool.false_and, Bool.and_false, Bool.or_true, Bool.true_or, Bool.false_or, Bool.or_false, cond_true, cond_false]) rfl rfl
            · have h23 : (hd9) = true := nB_n.mp (cn_eq.mp h23)
              refine z_rcs hc hH 6 (pc' := 50) (lv' := [(3, .int (yy10 + (fr μ (21 + 8 * j) (bhd (μ.1 3 130))))), (5, .int 130), (4, .int 2), (0, .ref 2), (1, .ref (19 + 8 * j)), (2, .int (nB hd9))]) (st' := [.int 131, .ref 2, .ref (19 + 8 * j), .int (yy10 + (fr μ (21 + 8 * j) (bhd (μ.1 3 130))))]) (μ' := μ) (by rfl) ?_
              refine zq_call hc (by rfl) (gc_kindAtN d' (by omega) μ 131 (by decide) hS1) (by decide +kernel) (fun r9 μ9 hq => ?_)
              obtain ⟨hμ9, rfl⟩ := hq
              rw [hμ9]
              clear hμ9 μ9
              show Z 0 53 [(3, .int (yy10 + (fr μ (21 + 8 * j) (bhd (μ.1 3 130))))), (5, .int 130), (4, .int 2), (0, .ref 2), (1, .ref (19 + 8 * j)), (2, .int (nB hd9))] [.int (μ.1 3 131), .ref (19 + 8 * j), .int (yy10 + (fr μ (21 + 8 * j) (bhd (μ.1 3 130))))] μ
              refine zq_call hc (by rfl) (gc_behind d' (by omega) μ (μ.1 3 131)) (by decide +kernel) (fun r9 μ9 hq => ?_)
              obtain ⟨hμ9, rfl⟩ := hq
              rw [hμ9]
              clear hμ9 μ9
              show Z 0 56 [(3, .int (yy10 + (fr μ (21 + 8 * j) (bhd (μ.1 3 130))))), (5, .int 130), (4, .int 2), (0, .ref 2), (1, .ref (19 + 8 * j)), (2, .int (nB hd9))] [.int (bhd (μ.1 3 131)), .ref (19 + 8 * j), .int (yy10 + (fr μ (21 + 8 * j) (bhd (μ.1 3 130))))] μ
              refine zq_call hc (z_clv (by rfl) (by rfl) (by rfl) (by rfl) (by rfl) (by rfl) (sj (P := fun i => okr 79 2 (19 + 8 * i)) hj (by decide +kernel)) (by rfl) (by rfl)) (gc_all d' (by omega) μ j hj (bhd (μ.1 3 131))) (by decide +kernel) (fun r9 μ9 hq => ?_)
              obtain ⟨hμ9, rfl⟩ := hq
              rw [hμ9]
              clear hμ9 μ9
              show Z 0 59 [(3, .int (yy10 + (fr μ (21 + 8 * j) (bhd (μ.1 3 130))))), (5, .int 130), (4, .int 2), (0, .ref 2), (1, .ref (19 + 8 * j)), (2, .int (nB hd9))] [.int (fr μ (21 + 8 * j) (bhd (μ.1 3 131))), .int (yy10 + (fr μ (21 + 8 * j) (bhd (μ.1 3 130))))] μ
              refine z_rcs hc hH 2 (pc' := 61) (lv' := [(3, .int ((yy10 + (fr μ (21 + 8 * j) (bhd (μ.1 3 130)))) + (fr μ (21 + 8 * j) (bhd (μ.1 3 131))))), (5, .int 130), (4, .int 2), (0, .ref 2), (1, .ref (19 + 8 * j)), (2, .int (nB hd9))]) (st' := []) (μ' := μ) (by rfl) ?_
              exact zJ hJ12 (by first | rfl | simp only [h23, lb_f, Int64.or_zero, Int32.add_zero, nB_t, nB_f, Bool.not_true, Bool.not_false, Bool.and_true, Bool.true_and, Bool.false_and, Bool.and_false, Bool.or_true, Bool.true_or, Bool.false_or, Bool.or_false, cond_true, cond_false]) rfl rfl
        refine zq_if hc hH (by rfl) (tg := 61) (by rfl) (fun h24 => ?_) (fun h24 => ?_)
        · have h24 : (hd9) = false := nB_z.mp (cm_eq9.mp h24)
          exact zJ hJ9 (by first | rfl | simp only [h24, lb_f, Int64.or_zero, Int32.add_zero, nB_t, nB_f, Bool.not_true, Bool.not_false, Bool.and_true, Bool.true_and, Bool.false_and, Bool.and_false, Bool.or_true, Bool.true_or, Bool.false_or, Bool.or_false, cond_true, cond_false]) rfl rfl
        · have h24 : (hd9) = true := nB_n.mp (cn_eq.mp h24)
          refine z_rcs hc hH 6 (pc' := 50) (lv' := [(3, .int (yy3 + (fr μ (21 + 8 * j) (bhd (μ.1 3 128))))), (5, .int 128), (4, .int 1), (0, .ref 2), (1, .ref (19 + 8 * j)), (2, .int (nB hd9))]) (st' := [.int 129, .ref 2, .ref (19 + 8 * j), .int (yy3 + (fr μ (21 + 8 * j) (bhd (μ.1 3 128))))]) (μ' := μ) (by rfl) ?_
          refine zq_call hc (by rfl) (gc_kindAtN d' (by omega) μ 129 (by decide) hS1) (by decide +kernel) (fun r9 μ9 hq => ?_)
          obtain ⟨hμ9, rfl⟩ := hq
          rw [hμ9]
          clear hμ9 μ9
          show Z 0 53 [(3, .int (yy3 + (fr μ (21 + 8 * j) (bhd (μ.1 3 128))))), (5, .int 128), (4, .int 1), (0, .ref 2), (1, .ref (19 + 8 * j)), (2, .int (nB hd9))] [.int (μ.1 3 129), .ref (19 + 8 * j), .int (yy3 + (fr μ (21 + 8 * j) (bhd (μ.1 3 128))))] μ
          refine zq_call hc (by rfl) (gc_behind d' (by omega) μ (μ.1 3 129)) (by decide +kernel) (fun r9 μ9 hq => ?_)
          obtain ⟨hμ9, rfl⟩ := hq
          rw [hμ9]
          clear hμ9 μ9
          show Z 0 56 [(3, .int (yy3 + (fr μ (21 + 8 * j) (bhd (μ.1 3 128))))), (5, .int 128), (4, .int 1), (0, .ref 2), (1, .ref (19 + 8 * j)), (2, .int (nB hd9))] [.int (bhd (μ.1 3 129)), .ref (19 + 8 * j), .int (yy3 + (fr μ (21 + 8 * j) (bhd (μ.1 3 128))))] μ
          refine zq_call hc (z_clv (by rfl) (by rfl) (by rfl) (by rfl) (by rfl) (by rfl) (sj (P := fun i => okr 79 2 (19 + 8 * i)) hj (by decide +kernel)) (by rfl) (by rfl)) (gc_all d' (by omega) μ j hj (bhd (μ.1 3 129))) (by decide +kernel) (fun r9 μ9 hq => ?_)
          obtain ⟨hμ9, rfl⟩ := hq
          rw [hμ9]
          clear hμ9 μ9
          show Z 0 59 [(3, .int (yy3 + (fr μ (21 + 8 * j) (bhd (μ.1 3 128))))), (5, .int 128), (4, .int 1), (0, .ref 2), (1, .ref (19 + 8 * j)), (2, .int (nB hd9))] [.int (fr μ (21 + 8 * j) (bhd (μ.1 3 129))), .int (yy3 + (fr μ (21 + 8 * j) (bhd (μ.1 3 128))))] μ
          refine z_rcs hc hH 2 (pc' := 61) (lv' := [(3, .int ((yy3 + (fr μ (21 + 8 * j) (bhd (μ.1 3 128)))) + (fr μ (21 + 8 * j) (bhd (μ.1 3 129))))), (5, .int 128), (4, .int 1), (0, .ref 2), (1, .ref (19 + 8 * j)), (2, .int (nB hd9))]) (st' := []) (μ' := μ) (by rfl) ?_
          exact zJ hJ9 (by first | rfl | simp only [h24, lb_f, Int64.or_zero, Int32.add_zero, nB_t, nB_f, Bool.not_true, Bool.not_false, Bool.and_true, Bool.true_and, Bool.false_and, Bool.and_false, Bool.or_true, Bool.true_or, Bool.false_or, Bool.or_false, cond_true, cond_false]) rfl rfl
    refine zq_if hc hH (by rfl) (tg := 61) (by rfl) (fun h25 => ?_) (fun h25 => ?_)
    · have h25 : (hd9) = false := nB_z.mp (cm_eq9.mp h25)
      exact zJ hJ2 (by first | rfl | simp only [h25, lb_f, Int64.or_zero, Int32.add_zero, nB_t, nB_f, Bool.not_true, Bool.not_false, Bool.and_true, Bool.true_and, Bool.false_and, Bool.and_false, Bool.or_true, Bool.true_or, Bool.false_or, Bool.or_false, cond_true, cond_false]) rfl rfl
    · have h25 : (hd9) = true := nB_n.mp (cn_eq.mp h25)
      refine z_rcs hc hH 6 (pc' := 50) (lv' := [(3, .int (0 + (fr μ (21 + 8 * j) (bhd (μ.1 3 126))))), (5, .int 126), (4, .int 0), (0, .ref 2), (1, .ref (19 + 8 * j)), (2, .int (nB hd9))]) (st' := [.int 127, .ref 2, .ref (19 + 8 * j), .int (0 + (fr μ (21 + 8 * j) (bhd (μ.1 3 126))))]) (μ' := μ) (by rfl) ?_
      refine zq_call hc (by rfl) (gc_kindAtN d' (by omega) μ 127 (by decide) hS1) (by decide +kernel) (fun r9 μ9 hq => ?_)
      obtain ⟨hμ9, rfl⟩ := hq
      rw [hμ9]
      clear hμ9 μ9
      show Z 0 53 [(3, .int (0 + (fr μ (21 + 8 * j) (bhd (μ.1 3 126))))), (5, .int 126), (4, .int 0), (0, .ref 2), (1, .ref (19 + 8 * j)), (2, .int (nB hd9))] [.int (μ.1 3 127), .ref (19 + 8 * j), .int (0 + (fr μ (21 + 8 * j) (bhd (μ.1 3 126))))] μ
      refine zq_call hc (by rfl) (gc_behind d' (by omega) μ (μ.1 3 127)) (by decide +kernel) (fun r9 μ9 hq => ?_)
      obtain ⟨hμ9, rfl⟩ := hq
      rw [hμ9]
      clear hμ9 μ9
      show Z 0 56 [(3, .int (0 + (fr μ (21 + 8 * j) (bhd (μ.1 3 126))))), (5, .int 126), (4, .int 0), (0, .ref 2), (1, .ref (19 + 8 * j)), (2, .int (nB hd9))] [.int (bhd (μ.1 3 127)), .ref (19 + 8 * j), .int (0 + (fr μ (21 + 8 * j) (bhd (μ.1 3 126))))] μ
      refine zq_call hc (z_clv (by rfl) (by rfl) (by rfl) (by rfl) (by rfl) (by rfl) (sj (P := fun i => okr 79 2 (19 + 8 * i)) hj (by decide +kernel)) (by rfl) (by rfl)) (gc_all d' (by omega) μ j hj (bhd (μ.1 3 127))) (by decide +kernel) (fun r9 μ9 hq => ?_)
      obtain ⟨hμ9, rfl⟩ := hq
      rw [hμ9]
      clear hμ9 μ9
      show Z 0 59 [(3, .int (0 + (fr μ (21 + 8 * j) (bhd (μ.1 3 126))))), (5, .int 126), (4, .int 0), (0, .ref 2), (1, .ref (19 + 8 * j)), (2, .int (nB hd9))] [.int (fr μ (21 + 8 * j) (bhd (μ.1 3 127))), .int (0 + (fr μ (21 + 8 * j) (bhd (μ.1 3 126))))] μ
      refine z_rcs hc hH 2 (pc' := 61) (lv' := [(3, .int ((0 + (fr μ (21 + 8 * j) (bhd (μ.1 3 126)))) + (fr μ (21 + 8 * j) (bhd (μ.1 3 127))))), (5, .int 126), (4, .int 0), (0, .ref 2), (1, .ref (19 + 8 * j)), (2, .int (nB hd9))]) (st' := []) (μ' := μ) (by rfl) ?_
      exact zJ hJ2 (by first | rfl | simp only [h25, lb_f, Int64.or_zero, Int32.add_zero, nB_t, nB_f, Bool.not_true, Bool.not_false, Bool.and_true, Bool.true_and, Bool.false_and, Bool.and_false, Bool.or_true, Bool.true_or, Bool.false_or, Bool.or_false, cond_true, cond_false]) rfl rfl
def rcW (μ : zM) (wc : Nat) (s pa go : Int32) : zM := z_ui (z_ui (z_uj (z_ui (z_ui (z_ui (z_ui (z_ui (z_ui μ 0 6 (nI (wc + 1))) (25 + 8 * wc) 0 s) (25 + 8 * wc) 1 pa) (25 + 8 * wc) 2 (μ.1 4 0)) (25 + 8 * wc) 3 (μ.1 4 1)) (25 + 8 * wc) 4 (μ.1 4 2)) (25 + 8 * wc) 7 (μ.2.1 4 3)) (25 + 8 * wc) 5 go) (25 + 8 * wc) 6 (μ.1 0 15)
theorem gc_recordWin (d : Nat) (hd : 1 ≤ d) (μ : zM) (wc : Nat) (hwc4 : wc < 4) (hwc : μ.1 0 6 = nI wc) (s pa go : Int32) : z_C d mi_X6_recordWin [.ref 0, .int s, .int pa, .int go] μ (fun r μ' => r = none ∧ μ' = rcW μ wc s pa go) := by
  refine z_C_in (by decide) (by omega) (fun d' Z ed hc hr => ?_)
  have hH : zH mi_X6_recordWin zc_X6_recordWin 79 6 5 := ⟨by rfl, by rfl, by rfl, by rfl⟩
  refine z_rcs hc hH 1 (pc' := 1) (lv' := [(0, .ref 0), (1, .int s), (2, .int pa), (3, .int go)]) (st' := [.ref 0]) (μ' := μ) (by rfl) ?_
  refine zq_gfi hc hH (by rfl) (ci := 5) (f := 6) (by rfl) (by decide +kernel) (by rfl) ?_
  rw [hwc]
  refine zq_if hc hH (by rfl) (tg := 15) (by rfl) (fun h1 => ?_) (fun h1 => ?_)
  · have h1 : (decide ((nI wc) < 0)) = true := decide_eq_true (cm_lt.mp h1)
    exact absurd (Eq.trans (Eq.symm (kn_l0 (by omega))) h1) (by decide)
  · have h1 : (decide ((nI wc) < 0)) = false := decide_eq_false (cn_lt.mp h1)
    refine z_rcs hc hH 1 (pc' := 8) (lv' := [(0, .ref 0), (1, .int s), (2, .int pa), (3, .int go)]) (st' := [.ref 0]) (μ' := μ) (by rfl) ?_
    refine zq_gfi hc hH (by rfl) (ci := 5) (f := 6) (by rfl) (by decide +kernel) (by rfl) ?_
    rw [hwc]
    refine z_rcs hc hH 1 (pc' := 12) (lv' := [(0, .ref 0), (1, .int s), (2, .int pa), (3, .int go)]) (st' := [.int 4, .int (nI wc)]) (μ' := μ) (by rfl) ?_
    refine zq_ic hc hH (by rfl) (tg := 16) (by rfl) (fun h2 => ?_) (fun h2 => ?_)
    · have h2 : (decide ((nI wc) < 4)) = true := decide_eq_true (cm_lt.mp h2)
      refine z_rcs hc hH 1 (pc' := 17) (lv' := [(0, .ref 0), (1, .int s), (2, .int pa), (3, .int go)]) (st' := [.ref 0]) (μ' := μ) (by rfl) ?_
      refine zq_gfr hc hH (by rfl) (ci := 5) (f := 3) (q := 8) (by rfl) (by decide +kernel) (by rfl) (by decide +kernel) ?_
      refine z_rcs hc hH 1 (pc' := 21) (lv' := [(0, .ref 0), (1, .int s), (2, .int pa), (3, .int go)]) (st' := [.ref 0, .ref 8]) (μ' := μ) (by rfl) ?_
      refine zq_gfi hc hH (by rfl) (ci := 5) (f := 6) (by rfl) (by decide +kernel) (by rfl) ?_
      rw [hwc]
      refine zq_aald hc hH (by rfl) (i := wc) (q := 25 + 8 * wc) hwc4 (by decide +kernel) (sj (P := fun i => Nat.beq (z_gr 8 i) (25 + 8 * i)) hwc4 (by decide +kernel)) ?_
      refine z_rcs hc hH 3 (pc' := 29) (lv' := [(4, .ref (25 + 8 * wc)), (0, .ref 0), (1, .int s), (2, .int pa), (3, .int go)]) (st' := [.ref 0, .ref 0]) (μ' := μ) (by rfl) ?_
      refine zq_gfi hc hH (by rfl) (ci := 5) (f := 6) (by rfl) (by decide +kernel) (by rfl) ?_
      rw [hwc]
      refine z_rcs hc hH 2 (pc' := 34) (lv' := [(4, .ref (25 + 8 * wc)), (0, .ref 0), (1, .int s), (2, .int pa), (3, .int go)]) (st' := [.int ((nI wc) + 1), .ref 0]) (μ' := μ) (by rfl) ?_
      rw [nI_s1]
      refine zq_pfi hc hH (by rfl) (ci := 5) (f := 6) (by rfl) (by decide +kernel) (by rfl) ?_
      show Z 0 37 [(4, .ref (25 + 8 * wc)), (0, .ref 0), (1, .int s), (2, .int pa), (3, .int go)] [] (z_ui μ 0 6 (nI (wc + 1)))
      refine z_rcs hc hH 2 (pc' := 40) (lv' := [(4, .ref (25 + 8 * wc)), (0, .ref 0), (1, .int s), (2, .int pa), (3, .int go)]) (st' := [.int s, .ref (25 + 8 * wc)]) (μ' := z_ui μ 0 6 (nI (wc + 1))) (by rfl) ?_
      refine zq_pfi hc hH (by rfl) (ci := 4) (f := 0) (by rfl) (sj (P := fun i => okf 79 4 0 (25 + 8 * i)) hwc4 (by decide +kernel)) (by rfl) ?_
      show Z 0 43 [(4, .ref (25 + 8 * wc)), (0, .ref 0), (1, .int s), (2, .int pa), (3, .int go)] [] (z_ui (z_ui μ 0 6 (nI (wc + 1))) (25 + 8 * wc) 0 s)
      refine z_rcs hc hH 2 (pc' := 46) (lv' := [(4, .ref (25 + 8 * wc)), (0, .ref 0), (1, .int s), (2, .int pa), (3, .int go)]) (st' := [.int pa, .ref (25 + 8 * wc)]) (μ' := z_ui (z_ui μ 0 6 (nI (wc + 1))) (25 + 8 * wc) 0 s) (by rfl) ?_
      refine zq_pfi hc hH (by rfl) (ci := 4) (f := 1) (by rfl) (sj (P := fun i => okf 79 4 1 (25 + 8 * i)) hwc4 (by decide +kernel)) (by rfl) ?_
      show Z 0 49 [(4, .ref (25 + 8 * wc)), (0, .ref 0), (1, .int s), (2, .int pa), (3, .int go)] [] (z_ui (z_ui (z_ui μ 0 6 (nI (wc + 1))) (25 + 8 * wc) 0 s) (25 + 8 * wc) 1 pa)
      refine z_rcs hc hH 2 (pc' := 52) (lv' := [(4, .ref (25 + 8 * wc)), (0, .ref 0), (1, .int s), (2, .int pa), (3, .int go)]) (st' := [.ref 0, .ref (25 + 8 * wc)]) (μ' := z_ui (z_ui (z_ui μ 0 6 (nI (wc + 1))) (25 + 8 * wc) 0 s) (25 + 8 * wc) 1 pa) (by rfl) ?_
      refine zq_gfr hc hH (by rfl) (ci := 5) (f := 2) (q := 4) (by rfl) (by decide +kernel) (by rfl) (by decide +kernel) ?_
      refine zq_gfi hc hH (by rfl) (ci := 0) (f := 0) (by rfl) (by decide +kernel) (by rfl) ?_
      rw [ui_o (by omega), ui_o (by omega), ui_o (by omega)]
      refine zq_pfi hc hH (by rfl) (ci := 4) (f := 2) (by rfl) (sj (P := fun i => okf 79 4 2 (25 + 8 * i)) hwc4 (by decide +kernel)) (by rfl) ?_
      show Z 0 61 [(4, .ref (25 + 8 * wc)), (0, .ref 0), (1, .int s), (2, .int pa), (3, .int go)] [] (z_ui (z_ui (z_ui (z_ui μ 0 6 (nI (wc + 1))) (25 + 8 * wc) 0 s) (25 + 8 * wc) 1 pa) (25 + 8 * wc) 2 (μ.1 4 0))
      refine z_rcs hc hH 2 (pc' := 64) (lv' := [(4, .ref (25 + 8 * wc)), (0, .ref 0), (1, .int s), (2, .int pa), (3, .int go)]) (st' := [.ref 0, .ref (25 + 8 * wc)]) (μ' := z_ui (z_ui (z_ui (z_ui μ 0 6 (nI (wc + 1))) (25 + 8 * wc) 0 s) (25 + 8 * wc) 1 pa) (25 + 8 * wc) 2 (μ.1 4 0)) (by rfl) ?_
      refine zq_gfr hc hH (by rfl) (ci := 5) (f := 2) (q := 4) (by rfl) (by decide +kernel) (by rfl) (by decide +kernel) ?_
      refine zq_gfi hc hH (by rfl) (ci := 0) (f := 1) (by rfl) (by decide +kernel) (by rfl) ?_
      rw [ui_o (by omega), ui_o (by omega), ui_o (by omega), ui_o (by omega)]
      refine zq_pfi hc hH (by rfl) (ci := 4) (f := 3) (by rfl) (sj (P := fun i => okf 79 4 3 (25 + 8 * i)) hwc4 (by decide +kernel)) (by rfl) ?_
      show Z 0 73 [(4, .ref (25 + 8 * wc)), (0, .ref 0), (1, .int s), (2, .int pa), (3, .int go)] [] (z_ui (z_ui (z_ui (z_ui (z_ui μ 0 6 (nI (wc + 1))) (25 + 8 * wc) 0 s) (25 + 8 * wc) 1 pa) (25 + 8 * wc) 2 (μ.1 4 0)) (25 + 8 * wc) 3 (μ.1 4 1))
      refine z_rcs hc hH 2 (pc' := 76) (lv' := [(4, .ref (25 + 8 * wc)), (0, .ref 0), (1, .int s), (2, .int pa), (3, .int go)]) (st' := [.ref 0, .ref (25 + 8 * wc)]) (μ' := z_ui (z_ui (z_ui (z_ui (z_ui μ 0 6 (nI (wc + 1))) (25 + 8 * wc) 0 s) (25 + 8 * wc) 1 pa) (25 + 8 * wc) 2 (μ.1 4 0)) (25 + 8 * wc) 3 (μ.1 4 1)) (by rfl) ?_
      refine zq_gfr hc hH (by rfl) (ci := 5) (f := 2) (q := 4) (by rfl) (by decide +kernel) (by rfl) (by decide +kernel) ?_
      refine zq_gfi hc hH (by rfl) (ci := 0) (f := 2) (by rfl) (by decide +kernel) (by rfl) ?_
      rw [ui_o (by omega), ui_o (by omega), ui_o (by omega), ui_o (by omega), ui_o (by omega)]
      refine zq_pfi hc hH (by rfl) (ci := 4) (f := 4) (by rfl) (sj (P := fun i => okf 79 4 4 (25 + 8 * i)) hwc4 (by decide +kernel)) (by rfl) ?_
      show Z 0 85 [(4, .ref (25 + 8 * wc)), (0, .ref 0), (1, .int s), (2, .int pa), (3, .int go)] [] (z_ui (z_ui (z_ui (z_ui (z_ui (z_ui μ 0 6 (nI (wc + 1))) (25 + 8 * wc) 0 s) (25 + 8 * wc) 1 pa) (25 + 8 * wc) 2 (μ.1 4 0)) (25 + 8 * wc) 3 (μ.1 4 1)) (25 + 8 * wc) 4 (μ.1 4 2))
      refine z_rcs hc hH 2 (pc' := 88) (lv' := [(4, .ref (25 + 8 * wc)), (0, .ref 0), (1, .int s), (2, .int pa), (3, .int go)]) (st' := [.ref 0, .ref (25 + 8 * wc)]) (μ' := z_ui (z_ui (z_ui (z_ui (z_ui (z_ui μ 0 6 (nI (wc + 1))) (25 + 8 * wc) 0 s) (25 + 8 * wc) 1 pa) (25 + 8 * wc) 2 (μ.1 4 0)) (25 + 8 * wc) 3 (μ.1 4 1)) (25 + 8 * wc) 4 (μ.1 4 2)) (by rfl) ?_
      refine zq_gfr hc hH (by rfl) (ci := 5) (f := 2) (q := 4) (by rfl) (by decide +kernel) (by rfl) (by decide +kernel) ?_
      refine zq_gfl hc hH (by rfl) (ci := 0) (f := 3) (by rfl) (by decide +kernel) (by rfl) ?_
      rw [ui_j, ui_j, ui_j, ui_j, ui_j, ui_j]
      refine zq_pfl hc hH (by rfl) (ci := 4) (f := 7) (by rfl) (sj (P := fun i => okf 79 4 7 (25 + 8 * i)) hwc4 (by decide +kernel)) (by rfl) ?_
      show Z 0 97 [(4, .ref (25 + 8 * wc)), (0, .ref 0), (1, .int s), (2, .int pa), (3, .int go)] [] (z_uj (z_ui (z_ui (z_ui (z_ui (z_ui (z_ui μ 0 6 (nI (wc + 1))) (25 + 8 * wc) 0 s) (25 + 8 * wc) 1 pa) (25 + 8 * wc) 2 (μ.1 4 0)) (25 + 8 * wc) 3 (μ.1 4 1)) (25 + 8 * wc) 4 (μ.1 4 2)) (25 + 8 * wc) 7 (μ.2.1 4 3))
      refine z_rcs hc hH 2 (pc' := 100) (lv' := [(4, .ref (25 + 8 * wc)), (0, .ref 0), (1, .int s), (2, .int pa), (3, .int go)]) (st' := [.int go, .ref (25 + 8 * wc)]) (μ' := z_uj (z_ui (z_ui (z_ui (z_ui (z_ui (z_ui μ 0 6 (nI (wc + 1))) (25 + 8 * wc) 0 s) (25 + 8 * wc) 1 pa) (25 + 8 * wc) 2 (μ.1 4 0)) (25 + 8 * wc) 3 (μ.1 4 1)) (25 + 8 * wc) 4 (μ.1 4 2)) (25 + 8 * wc) 7 (μ.2.1 4 3)) (by rfl) ?_
      refine zq_pfi hc hH (by rfl) (ci := 4) (f := 5) (by rfl) (sj (P := fun i => okf 79 4 5 (25 + 8 * i)) hwc4 (by decide +kernel)) (by rfl) ?_
      show Z 0 103 [(4, .ref (25 + 8 * wc)), (0, .ref 0), (1, .int s), (2, .int pa), (3, .int go)] [] (z_ui (z_uj (z_ui (z_ui (z_ui (z_ui (z_ui (z_ui μ 0 6 (nI (wc + 1))) (25 + 8 * wc) 0 s) (25 + 8 * wc) 1 pa) (25 + 8 * wc) 2 (μ.1 4 0)) (25 + 8 * wc) 3 (μ.1 4 1)) (25 + 8 * wc) 4 (μ.1 4 2)) (25 + 8 * wc) 7 (μ.2.1 4 3)) (25 + 8 * wc) 5 go)
      refine z_rcs hc hH 2 (pc' := 106) (lv' := [(4, .ref (25 + 8 * wc)), (0, .ref 0), (1, .int s), (2, .int pa), (3, .int go)]) (st' := [.ref 0, .ref (25 + 8 * wc)]) (μ' := z_ui (z_uj (z_ui (z_ui (z_ui (z_ui (z_ui (z_ui μ 0 6 (nI (wc + 1))) (25 + 8 * wc) 0 s) (25 + 8 * wc) 1 pa) (25 + 8 * wc) 2 (μ.1 4 0)) (25 + 8 * wc) 3 (μ.1 4 1)) (25 + 8 * wc) 4 (μ.1 4 2)) (25 + 8 * wc) 7 (μ.2.1 4 3)) (25 + 8 * wc) 5 go) (by rfl) ?_
      refine zq_gfi hc hH (by rfl) (ci := 5) (f := 15) (by rfl) (by decide +kernel) (by rfl) ?_
      rw [ui_o (by omega), uj_i, ui_o (by omega), ui_o (by omega), ui_o (by omega), ui_o (by omega), ui_o (by omega), ui_k (by omega)]
      refine zq_pfi hc hH (by rfl) (ci := 4) (f := 6) (by rfl) (sj (P := fun i => okf 79 4 6 (25 + 8 * i)) hwc4 (by decide +kernel)) (by rfl) ?_
      show Z 0 112 [(4, .ref (25 + 8 * wc)), (0, .ref 0), (1, .int s), (2, .int pa), (3, .int go)] [] (z_ui (z_ui (z_uj (z_ui (z_ui (z_ui (z_ui (z_ui (z_ui μ 0 6 (nI (wc + 1))) (25 + 8 * wc) 0 s) (25 + 8 * wc) 1 pa) (25 + 8 * wc) 2 (μ.1 4 0)) (25 + 8 * wc) 3 (μ.1 4 1)) (25 + 8 * wc) 4 (μ.1 4 2)) (25 + 8 * wc) 7 (μ.2.1 4 3)) (25 + 8 * wc) 5 go) (25 + 8 * wc) 6 (μ.1 0 15))
      exact hr 0 112 _ _ _ none (by decide +kernel) (by rfl) (⟨rfl, rfl⟩)
    · have h2 : (decide ((nI wc) < 4)) = false := decide_eq_false (cn_lt.mp h2)
      exact absurd (Eq.trans (Eq.symm (kn_lt (m := 4) rfl (by omega) (by omega))) h2) (by decide)
theorem gc_someoneIsBroke (d : Nat) (hd : 2 ≤ d) (μ : zM) : z_C d mi_X6_someoneIsBroke [.ref 0] μ (zR μ (.int (nB (!(decide (0 ≤ (μ.1 18 4))) || (!(decide (0 ≤ (μ.1 26 4))) || (!(decide (0 ≤ (μ.1 34 4))) || (!(decide (0 ≤ (μ.1 42 4)))))))))) := by
  refine z_C_in (by decide) (by omega) (fun d' Z ed hc hr => ?_)
  have hH : zH mi_X6_someoneIsBroke zc_X6_someoneIsBroke 79 6 2 := ⟨by rfl, by rfl, by rfl, by rfl⟩
  refine z_rcs hc hH 7 (pc' := 9) (lv' := [(1, .int 0), (0, .ref 0)]) (st' := [.int 0, .ref 0]) (μ' := μ) (by rfl) ?_
  refine zq_call hc (by rfl) (gc_at d' (by omega) μ 0 (by decide)) (by decide +kernel) (fun r9 μ9 hq => ?_)
  obtain ⟨hμ9, rfl⟩ := hq
  rw [hμ9]
  clear hμ9 μ9
  show Z 0 12 [(1, .int 0), (0, .ref 0)] [.ref 18] μ
  refine zq_gfi hc hH (by rfl) (ci := 1) (f := 4) (by rfl) (by decide +kernel) (by rfl) ?_
  refine zq_if hc hH (by rfl) (tg := 20) (by rfl) (fun h1 => ?_) (fun h1 => ?_)
  · have h1 : (decide (0 ≤ (μ.1 18 4))) = true := decide_eq_true (cm_ge.mp h1)
    refine z_rcs hc hH 7 (pc' := 9) (lv' := [(1, .int 1), (0, .ref 0)]) (st' := [.int 1, .ref 0]) (μ' := μ) (by rfl) ?_
    refine zq_call hc (by rfl) (gc_at d' (by omega) μ 1 (by decide)) (by decide +kernel) (fun r9 μ9 hq => ?_)
    obtain ⟨hμ9, rfl⟩ := hq
    rw [hμ9]
    clear hμ9 μ9
    show Z 0 12 [(1, .int 1), (0, .ref 0)] [.ref 26] μ
    refine zq_gfi hc hH (by rfl) (ci := 1) (f := 4) (by rfl) (by decide +kernel) (by rfl) ?_
    refine zq_if hc hH (by rfl) (tg := 20) (by rfl) (fun h2 => ?_) (fun h2 => ?_)
    · have h2 : (decide (0 ≤ (μ.1 26 4))) = true := decide_eq_true (cm_ge.mp h2)
      refine z_rcs hc hH 7 (pc' := 9) (lv' := [(1, .int 2), (0, .ref 0)]) (st' := [.int 2, .ref 0]) (μ' := μ) (by rfl) ?_
      refine zq_call hc (by rfl) (gc_at d' (by omega) μ 2 (by decide)) (by decide +kernel) (fun r9 μ9 hq => ?_)
      obtain ⟨hμ9, rfl⟩ := hq
      rw [hμ9]
      clear hμ9 μ9
      show Z 0 12 [(1, .int 2), (0, .ref 0)] [.ref 34] μ
      refine zq_gfi hc hH (by rfl) (ci := 1) (f := 4) (by rfl) (by decide +kernel) (by rfl) ?_
      refine zq_if hc hH (by rfl) (tg := 20) (by rfl) (fun h3 => ?_) (fun h3 => ?_)
      · have h3 : (decide (0 ≤ (μ.1 34 4))) = true := decide_eq_true (cm_ge.mp h3)
        refine z_rcs hc hH 7 (pc' := 9) (lv' := [(1, .int 3), (0, .ref 0)]) (st' := [.int 3, .ref 0]) (μ' := μ) (by rfl) ?_
        refine zq_call hc (by rfl) (gc_at d' (by omega) μ 3 (by decide)) (by decide +kernel) (fun r9 μ9 hq => ?_)
        obtain ⟨hμ9, rfl⟩ := hq
        rw [hμ9]
        clear hμ9 μ9
        show Z 0 12 [(1, .int 3), (0, .ref 0)] [.ref 42] μ
        refine zq_gfi hc hH (by rfl) (ci := 1) (f := 4) (by rfl) (by decide +kernel) (by rfl) ?_
        refine zq_if hc hH (by rfl) (tg := 20) (by rfl) (fun h4 => ?_) (fun h4 => ?_)
        · have h4 : (decide (0 ≤ (μ.1 42 4))) = true := decide_eq_true (cm_ge.mp h4)
          refine z_rcs hc hH 6 (pc' := 27) (lv' := [(1, .int 4), (0, .ref 0)]) (st' := [.int 0]) (μ' := μ) (by rfl) ?_
          exact hr 0 27 _ _ _ (some (.int 0)) (by decide +kernel) (by rfl) (⟨rfl, (by simp only [h1, h2, h3, h4, lb_f, Int64.or_zero, Int32.add_zero, nB_t, nB_f, Bool.not_true, Bool.not_false, Bool.and_true, Bool.true_and, Bool.false_and, Bool.and_false, Bool.or_true, Bool.true_or, Bool.false_or, Bool.or_false, cond_true, cond_false])⟩)
        · have h4 : (decide (0 ≤ (μ.1 42 4))) = false := decide_eq_false (cn_ge.mp h4)
          refine z_rcs hc hH 1 (pc' := 19) (lv' := [(1, .int 3), (0, .ref 0)]) (st' := [.int 1]) (μ' := μ) (by rfl) ?_
          exact hr 0 19 _ _ _ (some (.int 1)) (by decide +kernel) (by rfl) (⟨rfl, (by simp only [h1, h2, h3, h4, lb_f, Int64.or_zero, Int32.add_zero, nB_t, nB_f, Bool.not_true, Bool.not_false, Bool.and_true, Bool.true_and, Bool.false_and, Bool.and_false, Bool.or_true, Bool.true_or, Bool.false_or, Bool.or_false, cond_true, cond_false])⟩)
      · have h3 : (decide (0 ≤ (μ.1 34 4))) = false := decide_eq_false (cn_ge.mp h3)
        refine z_rcs hc hH 1 (pc' := 19) (lv' := [(1, .int 2), (0, .ref 0)]) (st' := [.int 1]) (μ' := μ) (by rfl) ?_
        exact hr 0 19 _ _ _ (some (.int 1)) (by decide +kernel) (by rfl) (⟨rfl, (by simp only [h1, h2, h3, lb_f, Int64.or_zero, Int32.add_zero, nB_t, nB_f, Bool.not_true, Bool.not_false, Bool.and_true, Bool.true_and, Bool.false_and, Bool.and_false, Bool.or_true, Bool.true_or, Bool.false_or, Bool.or_false, cond_true, cond_false])⟩)
    · have h2 : (decide (0 ≤ (μ.1 26 4))) = false := decide_eq_false (cn_ge.mp h2)
      refine z_rcs hc hH 1 (pc' := 19) (lv' := [(1, .int 1), (0, .ref 0)]) (st' := [.int 1]) (μ' := μ) (by rfl) ?_
      exact hr 0 19 _ _ _ (some (.int 1)) (by decide +kernel) (by rfl) (⟨rfl, (by simp only [h1, h2, lb_f, Int64.or_zero, Int32.add_zero, nB_t, nB_f, Bool.not_true, Bool.not_false, Bool.and_true, Bool.true_and, Bool.false_and, Bool.and_false, Bool.or_true, Bool.true_or, Bool.false_or, Bool.or_false, cond_true, cond_false])⟩)
  · have h1 : (decide (0 ≤ (μ.1 18 4))) = false := decide_eq_false (cn_ge.mp h1)
    refine z_rcs hc hH 1 (pc' := 19) (lv' := [(1, .int 0), (0, .ref 0)]) (st' := [.int 1]) (μ' := μ) (by rfl) ?_
    exact hr 0 19 _ _ _ (some (.int 1)) (by decide +kernel) (by rfl) (⟨rfl, (by simp only [h1, lb_f, Int64.or_zero, Int32.add_zero, nB_t, nB_f, Bool.not_true, Bool.not_false, Bool.and_true, Bool.true_and, Bool.false_and, Bool.and_false, Bool.or_true, Bool.true_or, Bool.false_or, Bool.or_false, cond_true, cond_false])⟩)
theorem gc_richest (d : Nat) (hd : 2 ≤ d) (μ : zM) : z_C d mi_X6_richest [.ref 0] μ (fun r μ' => r = some ((bif decide ((μ.1 26 4) ≤ (μ.1 18 4)) then (bif decide ((μ.1 34 4) ≤ (μ.1 18 4)) then (bif decide ((μ.1 42 4) ≤ (μ.1 18 4)) then .int 0 else .int 3) else (bif decide ((μ.1 42 4) ≤ (μ.1 34 4)) then .int 2 else .int 3)) else (bif decide ((μ.1 34 4) ≤ (μ.1 26 4)) then (bif decide ((μ.1 42 4) ≤ (μ.1 26 4)) then .int 1 else .int 3) else (bif decide ((μ.1 42 4) ≤ (μ.1 34 4)) then .int 2 else .int 3)))) ∧ μ' = μ) := by
  refine z_C_in (by decide) (by omega) (fun d' Z ed hc hr => ?_)
  have hH : zH mi_X6_richest zc_X6_richest 79 6 3 := ⟨by rfl, by rfl, by rfl, by rfl⟩
  refine z_rcs hc hH 9 (pc' := 11) (lv' := [(2, .int 1), (1, .int 0), (0, .ref 0)]) (st' := [.int 1, .ref 0]) (μ' := μ) (by rfl) ?_
  refine zq_call hc (by rfl) (gc_at d' (by omega) μ 1 (by decide)) (by decide +kernel) (fun r9 μ9 hq => ?_)
  obtain ⟨hμ9, rfl⟩ := hq
  rw [hμ9]
  clear hμ9 μ9
  show Z 0 14 [(2, .int 1), (1, .int 0), (0, .ref 0)] [.ref 26] μ
  refine zq_gfi hc hH (by rfl) (ci := 1) (f := 4) (by rfl) (by decide +kernel) (by rfl) ?_
  refine z_rcs hc hH 2 (pc' := 19) (lv' := [(2, .int 1), (1, .int 0), (0, .ref 0)]) (st' := [.int 0, .ref 0, .int (μ.1 26 4)]) (μ' := μ) (by rfl) ?_
  refine zq_call hc (by rfl) (gc_at d' (by omega) μ 0 (by decide)) (by decide +kernel) (fun r9 μ9 hq => ?_)
  obtain ⟨hμ9, rfl⟩ := hq
  rw [hμ9]
  clear hμ9 μ9
  show Z 0 22 [(2, .int 1), (1, .int 0), (0, .ref 0)] [.ref 18, .int (μ.1 26 4)] μ
  refine zq_gfi hc hH (by rfl) (ci := 1) (f := 4) (by rfl) (by decide +kernel) (by rfl) ?_
  refine zq_ic hc hH (by rfl) (tg := 30) (by rfl) (fun h1 => ?_) (fun h1 => ?_)
  · have h1 : (decide ((μ.1 26 4) ≤ (μ.1 18 4))) = true := decide_eq_true (cm_le.mp h1)
    refine z_rcs hc hH 7 (pc' := 11) (lv' := [(2, .int 2), (1, .int 0), (0, .ref 0)]) (st' := [.int 2, .ref 0]) (μ' := μ) (by rfl) ?_
    refine zq_call hc (by rfl) (gc_at d' (by omega) μ 2 (by decide)) (by decide +kernel) (fun r9 μ9 hq => ?_)
    obtain ⟨hμ9, rfl⟩ := hq
    rw [hμ9]
    clear hμ9 μ9
    show Z 0 14 [(2, .int 2), (1, .int 0), (0, .ref 0)] [.ref 34] μ
    refine zq_gfi hc hH (by rfl) (ci := 1) (f := 4) (by rfl) (by decide +kernel) (by rfl) ?_
    refine z_rcs hc hH 2 (pc' := 19) (lv' := [(2, .int 2), (1, .int 0), (0, .ref 0)]) (st' := [.int 0, .ref 0, .int (μ.1 34 4)]) (μ' := μ) (by rfl) ?_
    refine zq_call hc (by rfl) (gc_at d' (by omega) μ 0 (by decide)) (by decide +kernel) (fun r9 μ9 hq => ?_)
    obtain ⟨hμ9, rfl⟩ := hq
    rw [hμ9]
    clear hμ9 μ9
    show Z 0 22 [(2, .int 2), (1, .int 0), (0, .ref 0)] [.ref 18, .int (μ.1 34 4)] μ
    refine zq_gfi hc hH (by rfl) (ci := 1) (f := 4) (by rfl) (by decide +kernel) (by rfl) ?_
    refine zq_ic hc hH (by rfl) (tg := 30) (by rfl) (fun h2 => ?_) (fun h2 => ?_)
    · have h2 : (decide ((μ.1 34 4) ≤ (μ.1 18 4))) = true := decide_eq_true (cm_le.mp h2)
      refine z_rcs hc hH 7 (pc' := 11) (lv' := [(2, .int 3), (1, .int 0), (0, .ref 0)]) (st' := [.int 3, .ref 0]) (μ' := μ) (by rfl) ?_
      refine zq_call hc (by rfl) (gc_at d' (by omega) μ 3 (by decide)) (by decide +kernel) (fun r9 μ9 hq => ?_)
      obtain ⟨hμ9, rfl⟩ := hq
      rw [hμ9]
      clear hμ9 μ9
      show Z 0 14 [(2, .int 3), (1, .int 0), (0, .ref 0)] [.ref 42] μ
      refine zq_gfi hc hH (by rfl) (ci := 1) (f := 4) (by rfl) (by decide +kernel) (by rfl) ?_
      refine z_rcs hc hH 2 (pc' := 19) (lv' := [(2, .int 3), (1, .int 0), (0, .ref 0)]) (st' := [.int 0, .ref 0, .int (μ.1 42 4)]) (μ' := μ) (by rfl) ?_
      refine zq_call hc (by rfl) (gc_at d' (by omega) μ 0 (by decide)) (by decide +kernel) (fun r9 μ9 hq => ?_)
      obtain ⟨hμ9, rfl⟩ := hq
      rw [hμ9]
      clear hμ9 μ9
      show Z 0 22 [(2, .int 3), (1, .int 0), (0, .ref 0)] [.ref 18, .int (μ.1 42 4)] μ
      refine zq_gfi hc hH (by rfl) (ci := 1) (f := 4) (by rfl) (by decide +kernel) (by rfl) ?_
      refine zq_ic hc hH (by rfl) (tg := 30) (by rfl) (fun h3 => ?_) (fun h3 => ?_)
      · have h3 : (decide ((μ.1 42 4) ≤ (μ.1 18 4))) = true := decide_eq_true (cm_le.mp h3)
        refine z_rcs hc hH 6 (pc' := 37) (lv' := [(2, .int 4), (1, .int 0), (0, .ref 0)]) (st' := [.int 0]) (μ' := μ) (by rfl) ?_
        exact hr 0 37 _ _ _ (some (.int 0)) (by decide +kernel) (by rfl) (⟨(by first | rfl | simp only [h1, h2, h3, cond_true, cond_false]), (by simp only [h1, h2, h3, cond_true, cond_false])⟩)
      · have h3 : (decide ((μ.1 42 4) ≤ (μ.1 18 4))) = false := decide_eq_false (cn_le.mp h3)
        refine z_rcs hc hH 8 (pc' := 37) (lv' := [(2, .int 4), (1, .int 3), (0, .ref 0)]) (st' := [.int 3]) (μ' := μ) (by rfl) ?_
        exact hr 0 37 _ _ _ (some (.int 3)) (by decide +kernel) (by rfl) (⟨(by first | rfl | simp only [h1, h2, h3, cond_true, cond_false]), (by simp only [h1, h2, h3, cond_true, cond_false])⟩)
    · have h2 : (decide ((μ.1 34 4) ≤ (μ.1 18 4))) = false := decide_eq_false (cn_le.mp h2)
      refine z_rcs hc hH 9 (pc' := 11) (lv' := [(2, .int 3), (1, .int 2), (0, .ref 0)]) (st' := [.int 3, .ref 0]) (μ' := μ) (by rfl) ?_
      refine zq_call hc (by rfl) (gc_at d' (by omega) μ 3 (by decide)) (by decide +kernel) (fun r9 μ9 hq => ?_)
      obtain ⟨hμ9, rfl⟩ := hq
      rw [hμ9]
      clear hμ9 μ9
      show Z 0 14 [(2, .int 3), (1, .int 2), (0, .ref 0)] [.ref 42] μ
      refine zq_gfi hc hH (by rfl) (ci := 1) (f := 4) (by rfl) (by decide +kernel) (by rfl) ?_
      refine z_rcs hc hH 2 (pc' := 19) (lv' := [(2, .int 3), (1, .int 2), (0, .ref 0)]) (st' := [.int 2, .ref 0, .int (μ.1 42 4)]) (μ' := μ) (by rfl) ?_
      refine zq_call hc (by rfl) (gc_at d' (by omega) μ 2 (by decide)) (by decide +kernel) (fun r9 μ9 hq => ?_)
      obtain ⟨hμ9, rfl⟩ := hq
      rw [hμ9]
      clear hμ9 μ9
      show Z 0 22 [(2, .int 3), (1, .int 2), (0, .ref 0)] [.ref 34, .int (μ.1 42 4)] μ
      refine zq_gfi hc hH (by rfl) (ci := 1) (f := 4) (by rfl) (by decide +kernel) (by rfl) ?_
      refine zq_ic hc hH (by rfl) (tg := 30) (by rfl) (fun h4 => ?_) (fun h4 => ?_)
      · have h4 : (decide ((μ.1 42 4) ≤ (μ.1 34 4))) = true := decide_eq_true (cm_le.mp h4)
        refine z_rcs hc hH 6 (pc' := 37) (lv' := [(2, .int 4), (1, .int 2), (0, .ref 0)]) (st' := [.int 2]) (μ' := μ) (by rfl) ?_
        exact hr 0 37 _ _ _ (some (.int 2)) (by decide +kernel) (by rfl) (⟨(by first | rfl | simp only [h1, h2, h4, cond_true, cond_false]), (by simp only [h1, h2, h4, cond_true, cond_false])⟩)
      · have h4 : (decide ((μ.1 42 4) ≤ (μ.1 34 4))) = false := decide_eq_false (cn_le.mp h4)
        refine z_rcs hc hH 8 (pc' := 37) (lv' := [(2, .int 4), (1, .int 3), (0, .ref 0)]) (st' := [.int 3]) (μ' := μ) (by rfl) ?_
        exact hr 0 37 _ _ _ (some (.int 3)) (by decide +kernel) (by rfl) (⟨(by first | rfl | simp only [h1, h2, h4, cond_true, cond_false]), (by simp only [h1, h2, h4, cond_true, cond_false])⟩)
  · have h1 : (decide ((μ.1 26 4) ≤ (μ.1 18 4))) = false := decide_eq_false (cn_le.mp h1)
    refine z_rcs hc hH 9 (pc' := 11) (lv' := [(2, .int 2), (1, .int 1), (0, .ref 0)]) (st' := [.int 2, .ref 0]) (μ' := μ) (by rfl) ?_
    refine zq_call hc (by rfl) (gc_at d' (by omega) μ 2 (by decide)) (by decide +kernel) (fun r9 μ9 hq => ?_)
    obtain ⟨hμ9, rfl⟩ := hq
    rw [hμ9]
    clear hμ9 μ9
    show Z 0 14 [(2, .int 2), (1, .int 1), (0, .ref 0)] [.ref 34] μ
    refine zq_gfi hc hH (by rfl) (ci := 1) (f := 4) (by rfl) (by decide +kernel) (by rfl) ?_
    refine z_rcs hc hH 2 (pc' := 19) (lv' := [(2, .int 2), (1, .int 1), (0, .ref 0)]) (st' := [.int 1, .ref 0, .int (μ.1 34 4)]) (μ' := μ) (by rfl) ?_
    refine zq_call hc (by rfl) (gc_at d' (by omega) μ 1 (by decide)) (by decide +kernel) (fun r9 μ9 hq => ?_)
    obtain ⟨hμ9, rfl⟩ := hq
    rw [hμ9]
    clear hμ9 μ9
    show Z 0 22 [(2, .int 2), (1, .int 1), (0, .ref 0)] [.ref 26, .int (μ.1 34 4)] μ
    refine zq_gfi hc hH (by rfl) (ci := 1) (f := 4) (by rfl) (by decide +kernel) (by rfl) ?_
    refine zq_ic hc hH (by rfl) (tg := 30) (by rfl) (fun h5 => ?_) (fun h5 => ?_)
    · have h5 : (decide ((μ.1 34 4) ≤ (μ.1 26 4))) = true := decide_eq_true (cm_le.mp h5)
      refine z_rcs hc hH 7 (pc' := 11) (lv' := [(2, .int 3), (1, .int 1), (0, .ref 0)]) (st' := [.int 3, .ref 0]) (μ' := μ) (by rfl) ?_
      refine zq_call hc (by rfl) (gc_at d' (by omega) μ 3 (by decide)) (by decide +kernel) (fun r9 μ9 hq => ?_)
      obtain ⟨hμ9, rfl⟩ := hq
      rw [hμ9]
      clear hμ9 μ9
      show Z 0 14 [(2, .int 3), (1, .int 1), (0, .ref 0)] [.ref 42] μ
      refine zq_gfi hc hH (by rfl) (ci := 1) (f := 4) (by rfl) (by decide +kernel) (by rfl) ?_
      refine z_rcs hc hH 2 (pc' := 19) (lv' := [(2, .int 3), (1, .int 1), (0, .ref 0)]) (st' := [.int 1, .ref 0, .int (μ.1 42 4)]) (μ' := μ) (by rfl) ?_
      refine zq_call hc (by rfl) (gc_at d' (by omega) μ 1 (by decide)) (by decide +kernel) (fun r9 μ9 hq => ?_)
      obtain ⟨hμ9, rfl⟩ := hq
      rw [hμ9]
      clear hμ9 μ9
      show Z 0 22 [(2, .int 3), (1, .int 1), (0, .ref 0)] [.ref 26, .int (μ.1 42 4)] μ
      refine zq_gfi hc hH (by rfl) (ci := 1) (f := 4) (by rfl) (by decide +kernel) (by rfl) ?_
      refine zq_ic hc hH (by rfl) (tg := 30) (by rfl) (fun h6 => ?_) (fun h6 => ?_)
      · have h6 : (decide ((μ.1 42 4) ≤ (μ.1 26 4))) = true := decide_eq_true (cm_le.mp h6)
        refine z_rcs hc hH 6 (pc' := 37) (lv' := [(2, .int 4), (1, .int 1), (0, .ref 0)]) (st' := [.int 1]) (μ' := μ) (by rfl) ?_
        exact hr 0 37 _ _ _ (some (.int 1)) (by decide +kernel) (by rfl) (⟨(by first | rfl | simp only [h1, h5, h6, cond_true, cond_false]), (by simp only [h1, h5, h6, cond_true, cond_false])⟩)
      · have h6 : (decide ((μ.1 42 4) ≤ (μ.1 26 4))) = false := decide_eq_false (cn_le.mp h6)
        refine z_rcs hc hH 8 (pc' := 37) (lv' := [(2, .int 4), (1, .int 3), (0, .ref 0)]) (st' := [.int 3]) (μ' := μ) (by rfl) ?_
        exact hr 0 37 _ _ _ (some (.int 3)) (by decide +kernel) (by rfl) (⟨(by first | rfl | simp only [h1, h5, h6, cond_true, cond_false]), (by simp only [h1, h5, h6, cond_true, cond_false])⟩)
    · have h5 : (decide ((μ.1 34 4) ≤ (μ.1 26 4))) = false := decide_eq_false (cn_le.mp h5)
      refine z_rcs hc hH 9 (pc' := 11) (lv' := [(2, .int 3), (1, .int 2), (0, .ref 0)]) (st' := [.int 3, .ref 0]) (μ' := μ) (by rfl) ?_
      refine zq_call hc (by rfl) (gc_at d' (by omega) μ 3 (by decide)) (by decide +kernel) (fun r9 μ9 hq => ?_)
      obtain ⟨hμ9, rfl⟩ := hq
      rw [hμ9]
      clear hμ9 μ9
      show Z 0 14 [(2, .int 3), (1, .int 2), (0, .ref 0)] [.ref 42] μ
      refine zq_gfi hc hH (by rfl) (ci := 1) (f := 4) (by rfl) (by decide +kernel) (by rfl) ?_
      refine z_rcs hc hH 2 (pc' := 19) (lv' := [(2, .int 3), (1, .int 2), (0, .ref 0)]) (st' := [.int 2, .ref 0, .int (μ.1 42 4)]) (μ' := μ) (by rfl) ?_
      refine zq_call hc (by rfl) (gc_at d' (by omega) μ 2 (by decide)) (by decide +kernel) (fun r9 μ9 hq => ?_)
      obtain ⟨hμ9, rfl⟩ := hq
      rw [hμ9]
      clear hμ9 μ9
      show Z 0 22 [(2, .int 3), (1, .int 2), (0, .ref 0)] [.ref 34, .int (μ.1 42 4)] μ
      refine zq_gfi hc hH (by rfl) (ci := 1) (f := 4) (by rfl) (by decide +kernel) (by rfl) ?_
      refine zq_ic hc hH (by rfl) (tg := 30) (by rfl) (fun h7 => ?_) (fun h7 => ?_)
      · have h7 : (decide ((μ.1 42 4) ≤ (μ.1 34 4))) = true := decide_eq_true (cm_le.mp h7)
        refine z_rcs hc hH 6 (pc' := 37) (lv' := [(2, .int 4), (1, .int 2), (0, .ref 0)]) (st' := [.int 2]) (μ' := μ) (by rfl) ?_
        exact hr 0 37 _ _ _ (some (.int 2)) (by decide +kernel) (by rfl) (⟨(by first | rfl | simp only [h1, h5, h7, cond_true, cond_false]), (by simp only [h1, h5, h7, cond_true, cond_false])⟩)
      · have h7 : (decide ((μ.1 42 4) ≤ (μ.1 34 4))) = false := decide_eq_false (cn_le.mp h7)
        refine z_rcs hc hH 8 (pc' := 37) (lv' := [(2, .int 4), (1, .int 3), (0, .ref 0)]) (st' := [.int 3]) (μ' := μ) (by rfl) ?_
        exact hr 0 37 _ _ _ (some (.int 3)) (by decide +kernel) (by rfl) (⟨(by first | rfl | simp only [h1, h5, h7, cond_true, cond_false]), (by simp only [h1, h5, h7, cond_true, cond_false])⟩)
def rcB (p0 p1 p2 p3 : Int32) : Nat := bif decide (p1 ≤ p0) then (bif decide (p2 ≤ p0) then (bif decide (p3 ≤ p0) then 0 else 3) else (bif decide (p3 ≤ p2) then 2 else 3)) else (bif decide (p2 ≤ p1) then (bif decide (p3 ≤ p1) then 1 else 3) else (bif decide (p3 ≤ p2) then 2 else 3))
theorem rcB_lt (p0 p1 p2 p3 : Int32) : rcB p0 p1 p2 p3 < 4 := by
  unfold rcB
  cases decide (p1 ≤ p0) <;> cases decide (p2 ≤ p0) <;> cases decide (p3 ≤ p0) <;> cases decide (p2 ≤ p1) <;> cases decide (p3 ≤ p1) <;> cases decide (p3 ≤ p2) <;> decide
abbrev rcM (μ : zM) : Nat := rcB (μ.1 18 4) (μ.1 26 4) (μ.1 34 4) (μ.1 42 4)
theorem gc_rich (d : Nat) (hd : 2 ≤ d) (μ : zM) (b : Nat) (hb : rcM μ = b) : z_C d mi_X6_richest [.ref 0] μ (zR μ (.int (nI b))) := by
  refine z_C_mono (gc_richest d hd μ) (fun r μ' z => ⟨z.2, ?_⟩)
  rw [z.1, ← hb]
  show _ = some (Value.int (nI (rcB _ _ _ _)))
  unfold rcB
  cases decide (μ.1 26 4 ≤ μ.1 18 4) <;> cases decide (μ.1 34 4 ≤ μ.1 18 4) <;> cases decide (μ.1 42 4 ≤ μ.1 18 4) <;> cases decide (μ.1 34 4 ≤ μ.1 26 4) <;> cases decide (μ.1 42 4 ≤ μ.1 26 4) <;> cases decide (μ.1 42 4 ≤ μ.1 34 4) <;> rfl
abbrev xBk (μ : zM) : Bool := !(decide (0 ≤ (μ.1 18 4))) || (!(decide (0 ≤ (μ.1 26 4))) || (!(decide (0 ≤ (μ.1 34 4))) || (!(decide (0 ≤ (μ.1 42 4))))))
theorem gc_brk (d : Nat) (hd : 2 ≤ d) (μ : zM) (b : Bool) (h : xBk μ = b) : z_C d mi_X6_someoneIsBroke [.ref 0] μ (zR μ (.int (nB b))) := by
  rw [← h]; exact gc_someoneIsBroke d hd μ
def eH0 (μ : zM) (ow bk : Bool) (dl e b : Nat) : zM := (bif decide ((nI e) = 0) then (bif bk then z_ui (z_ui (z_ui (z_ui (z_ui μ 0 7 0) 0 14 ((μ.1 0 14) + 1)) 0 13 1) (18 + 8 * b) 4 ((μ.1 (18 + 8 * b) 4) + ((μ.1 0 12) * 1000))) 0 12 0 else (bif decide (((μ.1 0 10) + 1) ≤ 1) then (bif ow then z_ui (z_ui (z_ui (z_ui (z_ui μ 0 7 0) 0 14 ((μ.1 0 14) + 1)) 0 9 (nI e)) 0 10 ((μ.1 0 10) + 1)) 0 11 0 else z_ui (z_ui (z_ui (z_ui (z_ui μ 0 7 0) 0 14 ((μ.1 0 14) + 1)) 0 9 (nI e)) 0 10 ((μ.1 0 10) + 1)) 0 11 ((μ.1 0 11) + 1)) else z_ui (z_ui (z_ui (z_ui (z_ui μ 0 7 0) 0 14 ((μ.1 0 14) + 1)) 0 13 1) (18 + 8 * b) 4 ((μ.1 (18 + 8 * b) 4) + ((μ.1 0 12) * 1000))) 0 12 0)) else (bif bk then z_ui (z_ui (z_ui (z_ui (z_ui μ 0 7 0) 0 14 ((μ.1 0 14) + 1)) 0 13 1) (18 + 8 * b) 4 ((μ.1 (18 + 8 * b) 4) + ((μ.1 0 12) * 1000))) 0 12 0 else (bif decide ((μ.1 0 10) ≤ 1) then (bif ow then z_ui (z_ui (z_ui (z_ui (z_ui μ 0 7 0) 0 14 ((μ.1 0 14) + 1)) 0 9 (nI e)) 0 10 (μ.1 0 10)) 0 11 0 else z_ui (z_ui (z_ui (z_ui (z_ui μ 0 7 0) 0 14 ((μ.1 0 14) + 1)) 0 9 (nI e)) 0 10 (μ.1 0 10)) 0 11 ((μ.1 0 11) + 1)) else z_ui (z_ui (z_ui (z_ui (z_ui μ 0 7 0) 0 14 ((μ.1 0 14) + 1)) 0 13 1) (18 + 8 * b) 4 ((μ.1 (18 + 8 * b) 4) + ((μ.1 0 12) * 1000))) 0 12 0)))
theorem gc_endHand0 (d : Nat) (hd : 3 ≤ d) (μ : zM) (ow bk : Bool) (dl e b : Nat) (hbk : xBk μ = bk) (hdl : μ.1 0 9 = nI dl) (hdl4 : dl < 4) (he : (dl + 1) % 4 = e) (hb4 : b < 4) (hb : rcM μ = b) : z_C d mi_X6_endHand [.ref 0, .int 0, .int (nB ow)] μ (fun r μ' => r = none ∧ μ' = eH0 μ ow bk dl e b) := by
  refine z_C_in (by decide) (by omega) (fun d' Z ed hc hr => ?_)
  have hH : zH mi_X6_endHand zc_X6_endHand 79 6 5 := ⟨by rfl, by rfl, by rfl, by rfl⟩
  refine z_rcs hc hH 2 (pc' := 2) (lv' := [(0, .ref 0), (1, .int 0), (2, .int (nB ow))]) (st' := [.int 0, .ref 0]) (μ' := μ) (by rfl) ?_
  refine zq_pfi hc hH (by rfl) (ci := 5) (f := 7) (by rfl) (by decide +kernel) (by rfl) ?_
  show Z 0 5 [(0, .ref 0), (1, .int 0), (2, .int (nB ow))] [] (z_ui μ 0 7 0)
  refine z_rcs hc hH 2 (pc' := 7) (lv' := [(0, .ref 0), (1, .int 0), (2, .int (nB ow))]) (st' := [.ref 0, .ref 0]) (μ' := z_ui μ 0 7 0) (by rfl) ?_
  refine zq_gfi hc hH (by rfl) (ci := 5) (f := 14) (by rfl) (by decide +kernel) (by rfl) ?_
  rw [ui_k (by omega)]
  refine z_rcs hc hH 2 (pc' := 12) (lv' := [(0, .ref 0), (1, .int 0), (2, .int (nB ow))]) (st' := [.int ((μ.1 0 14) + 1), .ref 0]) (μ' := z_ui μ 0 7 0) (by rfl) ?_
  refine zq_pfi hc hH (by rfl) (ci := 5) (f := 14) (by rfl) (by decide +kernel) (by rfl) ?_
  show Z 0 15 [(0, .ref 0), (1, .int 0), (2, .int (nB ow))] [] (z_ui (z_ui μ 0 7 0) 0 14 ((μ.1 0 14) + 1))
  refine z_rcs hc hH 3 (pc' := 27) (lv' := [(0, .ref 0), (1, .int 0), (2, .int (nB ow))]) (st' := [.ref 0]) (μ' := z_ui (z_ui μ 0 7 0) 0 14 ((μ.1 0 14) + 1)) (by rfl) ?_
  refine zq_gfi hc hH (by rfl) (ci := 5) (f := 9) (by rfl) (by decide +kernel) (by rfl) ?_
  rw [ui_k (by omega), ui_k (by omega)]
  rw [hdl]
  refine z_rcs hc hH 2 (pc' := 32) (lv' := [(0, .ref 0), (1, .int 0), (2, .int (nB ow))]) (st' := [.int ((nI dl) + 1)]) (μ' := z_ui (z_ui μ 0 7 0) 0 14 ((μ.1 0 14) + 1)) (by rfl) ?_
  rw [nI_s1]
  refine z_rcs hc hH 2 (pc' := 34) (lv' := [(0, .ref 0), (1, .int 0), (2, .int (nB ow))]) (st' := [.int ((nI (dl + 1)) &&& 3)]) (μ' := z_ui (z_ui μ 0 7 0) 0 14 ((μ.1 0 14) + 1)) (by rfl) ?_
  rw [show nI (dl + 1) &&& 3 = nI e from by rw [and3 (by omega), he]]
  refine z_rcs hc hH 4 (pc' := 40) (lv' := [(3, .int (nI e)), (0, .ref 0), (1, .int 0), (2, .int (nB ow))]) (st' := [.int (nI e)]) (μ' := z_ui (z_ui μ 0 7 0) 0 14 ((μ.1 0 14) + 1)) (by rfl) ?_
  refine zq_if hc hH (by rfl) (tg := 52) (by rfl) (fun h1 => ?_) (fun h1 => ?_)
  · have h1 : (decide ((nI e) = 0)) = false := decide_eq_false (cm_ne.mp h1)
    refine z_rcs hc hH 1 (pc' := 53) (lv' := [(3, .int (nI e)), (0, .ref 0), (1, .int 0), (2, .int (nB ow))]) (st' := [.ref 0]) (μ' := z_ui (z_ui μ 0 7 0) 0 14 ((μ.1 0 14) + 1)) (by rfl) ?_
    refine zq_gfi hc hH (by rfl) (ci := 5) (f := 10) (by rfl) (by decide +kernel) (by rfl) ?_
    rw [ui_k (by omega), ui_k (by omega)]
    refine z_rcs hc hH 2 (pc' := 59) (lv' := [(4, .int (μ.1 0 10)), (3, .int (nI e)), (0, .ref 0), (1, .int 0), (2, .int (nB ow))]) (st' := [.ref 0]) (μ' := z_ui (z_ui μ 0 7 0) 0 14 ((μ.1 0 14) + 1)) (by rfl) ?_
    refine zq_call hc (by rfl) (gc_brk d' (by omega) (z_ui (z_ui μ 0 7 0) 0 14 ((μ.1 0 14) + 1)) bk hbk) (by decide +kernel) (fun r9 μ9 hq => ?_)
    obtain ⟨hμ9, rfl⟩ := hq
    rw [hμ9]
    clear hμ9 μ9
    show Z 0 62 [(4, .int (μ.1 0 10)), (3, .int (nI e)), (0, .ref 0), (1, .int 0), (2, .int (nB ow))] [.int (nB bk)] (z_ui (z_ui μ 0 7 0) 0 14 ((μ.1 0 14) + 1))
    refine zq_if hc hH (by rfl) (tg := 71) (by rfl) (fun h2 => ?_) (fun h2 => ?_)
    · have h2 : (bk) = true := nB_n.mp (cm_ne.mp h2)
      refine z_rcs hc hH 2 (pc' := 73) (lv' := [(4, .int (μ.1 0 10)), (3, .int (nI e)), (0, .ref 0), (1, .int 0), (2, .int (nB ow))]) (st' := [.int 1, .ref 0]) (μ' := z_ui (z_ui μ 0 7 0) 0 14 ((μ.1 0 14) + 1)) (by rfl) ?_
      refine zq_pfb hc hH (by rfl) (ci := 5) (f := 13) (by rfl) (by decide +kernel) (by rfl) (by decide) ?_
      show Z 0 76 [(4, .int (μ.1 0 10)), (3, .int (nI e)), (0, .ref 0), (1, .int 0), (2, .int (nB ow))] [] (z_ui (z_ui (z_ui μ 0 7 0) 0 14 ((μ.1 0 14) + 1)) 0 13 1)
      refine z_rcs hc hH 2 (pc' := 78) (lv' := [(4, .int (μ.1 0 10)), (3, .int (nI e)), (0, .ref 0), (1, .int 0), (2, .int (nB ow))]) (st' := [.ref 0, .ref 0]) (μ' := z_ui (z_ui (z_ui μ 0 7 0) 0 14 ((μ.1 0 14) + 1)) 0 13 1) (by rfl) ?_
      refine zq_call hc (by rfl) (gc_rich d' (by omega) (z_ui (z_ui (z_ui μ 0 7 0) 0 14 ((μ.1 0 14) + 1)) 0 13 1) b hb) (by decide +kernel) (fun r9 μ9 hq => ?_)
      obtain ⟨hμ9, rfl⟩ := hq
      rw [hμ9]
      clear hμ9 μ9
      show Z 0 81 [(4, .int (μ.1 0 10)), (3, .int (nI e)), (0, .ref 0), (1, .int 0), (2, .int (nB ow))] [.int (nI b), .ref 0] (z_ui (z_ui (z_ui μ 0 7 0) 0 14 ((μ.1 0 14) + 1)) 0 13 1)
      refine zq_call hc (by rfl) (gc_at4 d' (by omega) (z_ui (z_ui (z_ui μ 0 7 0) 0 14 ((μ.1 0 14) + 1)) 0 13 1) b hb4) (by decide +kernel) (fun r9 μ9 hq => ?_)
      obtain ⟨hμ9, rfl⟩ := hq
      rw [hμ9]
      clear hμ9 μ9
      show Z 0 84 [(4, .int (μ.1 0 10)), (3, .int (nI e)), (0, .ref 0), (1, .int 0), (2, .int (nB ow))] [.ref (18 + 8 * b)] (z_ui (z_ui (z_ui μ 0 7 0) 0 14 ((μ.1 0 14) + 1)) 0 13 1)
      refine z_rcs hc hH 1 (pc' := 85) (lv' := [(4, .int (μ.1 0 10)), (3, .int (nI e)), (0, .ref 0), (1, .int 0), (2, .int (nB ow))]) (st' := [.ref (18 + 8 * b), .ref (18 + 8 * b)]) (μ' := z_ui (z_ui (z_ui μ 0 7 0) 0 14 ((μ.1 0 14) + 1)) 0 13 1) (by rfl) ?_
      refine zq_gfi hc hH (by rfl) (ci := 1) (f := 4) (by rfl) (sj (P := fun i => okf 79 1 4 (18 + 8 * i)) hb4 (by decide +kernel)) (by rfl) ?_
      rw [ui_o (by omega), ui_o (by omega), ui_o (by omega)]
      refine z_rcs hc hH 1 (pc' := 89) (lv' := [(4, .int (μ.1 0 10)), (3, .int (nI e)), (0, .ref 0), (1, .int 0), (2, .int (nB ow))]) (st' := [.ref 0, .int (μ.1 (18 + 8 * b) 4), .ref (18 + 8 * b)]) (μ' := z_ui (z_ui (z_ui μ 0 7 0) 0 14 ((μ.1 0 14) + 1)) 0 13 1) (by rfl) ?_
      refine zq_gfi hc hH (by rfl) (ci := 5) (f := 12) (by rfl) (by decide +kernel) (by rfl) ?_
      rw [ui_k (by omega), ui_k (by omega), ui_k (by omega)]
      refine z_rcs hc hH 3 (pc' := 97) (lv' := [(4, .int (μ.1 0 10)), (3, .int (nI e)), (0, .ref 0), (1, .int 0), (2, .int (nB ow))]) (st' := [.int ((μ.1 (18 + 8 * b) 4) + ((μ.1 0 12) * 1000)), .ref (18 + 8 * b)]) (μ' := z_ui (z_ui (z_ui μ 0 7 0) 0 14 ((μ.1 0 14) + 1)) 0 13 1) (by rfl) ?_
      refine zq_pfi hc hH (by rfl) (ci := 1) (f := 4) (by rfl) (sj (P := fun i => okf 79 1 4 (18 + 8 * i)) hb4 (by decide +kernel)) (by rfl) ?_
      show Z 0 100 [(4, .int (μ.1 0 10)), (3, .int (nI e)), (0, .ref 0), (1, .int 0), (2, .int (nB ow))] [] (z_ui (z_ui (z_ui (z_ui μ 0 7 0) 0 14 ((μ.1 0 14) + 1)) 0 13 1) (18 + 8 * b) 4 ((μ.1 (18 + 8 * b) 4) + ((μ.1 0 12) * 1000)))
      refine z_rcs hc hH 2 (pc' := 102) (lv' := [(4, .int (μ.1 0 10)), (3, .int (nI e)), (0, .ref 0), (1, .int 0), (2, .int (nB ow))]) (st' := [.int 0, .ref 0]) (μ' := z_ui (z_ui (z_ui (z_ui μ 0 7 0) 0 14 ((μ.1 0 14) + 1)) 0 13 1) (18 + 8 * b) 4 ((μ.1 (18 + 8 * b) 4) + ((μ.1 0 12) * 1000))) (by rfl) ?_
      refine zq_pfi hc hH (by rfl) (ci := 5) (f := 12) (by rfl) (by decide +kernel) (by rfl) ?_
      show Z 0 105 [(4, .int (μ.1 0 10)), (3, .int (nI e)), (0, .ref 0), (1, .int 0), (2, .int (nB ow))] [] (z_ui (z_ui (z_ui (z_ui (z_ui μ 0 7 0) 0 14 ((μ.1 0 14) + 1)) 0 13 1) (18 + 8 * b) 4 ((μ.1 (18 + 8 * b) 4) + ((μ.1 0 12) * 1000))) 0 12 0)
      exact hr 0 105 _ _ _ none (by decide +kernel) (by rfl) (⟨rfl, (by unfold eH0; simp only [h1, h2, cond_true, cond_false])⟩)
    · have h2 : (bk) = false := nB_z.mp (cn_ne.mp h2)
      refine z_rcs hc hH 2 (pc' := 68) (lv' := [(4, .int (μ.1 0 10)), (3, .int (nI e)), (0, .ref 0), (1, .int 0), (2, .int (nB ow))]) (st' := [.int 1, .int (μ.1 0 10)]) (μ' := z_ui (z_ui μ 0 7 0) 0 14 ((μ.1 0 14) + 1)) (by rfl) ?_
      refine zq_ic hc hH (by rfl) (tg := 106) (by rfl) (fun h3 => ?_) (fun h3 => ?_)
      · have h3 : (decide ((μ.1 0 10) ≤ 1)) = true := decide_eq_true (cm_le.mp h3)
        refine z_rcs hc hH 2 (pc' := 108) (lv' := [(4, .int (μ.1 0 10)), (3, .int (nI e)), (0, .ref 0), (1, .int 0), (2, .int (nB ow))]) (st' := [.int (nI e), .ref 0]) (μ' := z_ui (z_ui μ 0 7 0) 0 14 ((μ.1 0 14) + 1)) (by rfl) ?_
        refine zq_pfi hc hH (by rfl) (ci := 5) (f := 9) (by rfl) (by decide +kernel) (by rfl) ?_
        show Z 0 111 [(4, .int (μ.1 0 10)), (3, .int (nI e)), (0, .ref 0), (1, .int 0), (2, .int (nB ow))] [] (z_ui (z_ui (z_ui μ 0 7 0) 0 14 ((μ.1 0 14) + 1)) 0 9 (nI e))
        refine z_rcs hc hH 2 (pc' := 114) (lv' := [(4, .int (μ.1 0 10)), (3, .int (nI e)), (0, .ref 0), (1, .int 0), (2, .int (nB ow))]) (st' := [.int (μ.1 0 10), .ref 0]) (μ' := z_ui (z_ui (z_ui μ 0 7 0) 0 14 ((μ.1 0 14) + 1)) 0 9 (nI e)) (by rfl) ?_
        refine zq_pfi hc hH (by rfl) (ci := 5) (f := 10) (by rfl) (by decide +kernel) (by rfl) ?_
        show Z 0 117 [(4, .int (μ.1 0 10)), (3, .int (nI e)), (0, .ref 0), (1, .int 0), (2, .int (nB ow))] [] (z_ui (z_ui (z_ui (z_ui μ 0 7 0) 0 14 ((μ.1 0 14) + 1)) 0 9 (nI e)) 0 10 (μ.1 0 10))
        refine z_rcs hc hH 2 (pc' := 119) (lv' := [(4, .int (μ.1 0 10)), (3, .int (nI e)), (0, .ref 0), (1, .int 0), (2, .int (nB ow))]) (st' := [.int (nB ow), .ref 0]) (μ' := z_ui (z_ui (z_ui (z_ui μ 0 7 0) 0 14 ((μ.1 0 14) + 1)) 0 9 (nI e)) 0 10 (μ.1 0 10)) (by rfl) ?_
        refine zq_if hc hH (by rfl) (tg := 126) (by rfl) (fun h4 => ?_) (fun h4 => ?_)
        · have h4 : (ow) = false := nB_z.mp (cm_eq9.mp h4)
          refine z_rcs hc hH 1 (pc' := 127) (lv' := [(4, .int (μ.1 0 10)), (3, .int (nI e)), (0, .ref 0), (1, .int 0), (2, .int (nB ow))]) (st' := [.ref 0, .ref 0]) (μ' := z_ui (z_ui (z_ui (z_ui μ 0 7 0) 0 14 ((μ.1 0 14) + 1)) 0 9 (nI e)) 0 10 (μ.1 0 10)) (by rfl) ?_
          refine zq_gfi hc hH (by rfl) (ci := 5) (f := 11) (by rfl) (by decide +kernel) (by rfl) ?_
          rw [ui_k (by omega), ui_k (by omega), ui_k (by omega), ui_k (by omega)]
          refine z_rcs hc hH 2 (pc' := 132) (lv' := [(4, .int (μ.1 0 10)), (3, .int (nI e)), (0, .ref 0), (1, .int 0), (2, .int (nB ow))]) (st' := [.int ((μ.1 0 11) + 1), .ref 0]) (μ' := z_ui (z_ui (z_ui (z_ui μ 0 7 0) 0 14 ((μ.1 0 14) + 1)) 0 9 (nI e)) 0 10 (μ.1 0 10)) (by rfl) ?_
          refine zq_pfi hc hH (by rfl) (ci := 5) (f := 11) (by rfl) (by decide +kernel) (by rfl) ?_
          show Z 0 135 [(4, .int (μ.1 0 10)), (3, .int (nI e)), (0, .ref 0), (1, .int 0), (2, .int (nB ow))] [] (z_ui (z_ui (z_ui (z_ui (z_ui μ 0 7 0) 0 14 ((μ.1 0 14) + 1)) 0 9 (nI e)) 0 10 (μ.1 0 10)) 0 11 ((μ.1 0 11) + 1))
          exact hr 0 135 _ _ _ none (by decide +kernel) (by rfl) (⟨rfl, (by unfold eH0; simp only [h1, h2, h3, h4, cond_true, cond_false])⟩)
        · have h4 : (ow) = true := nB_n.mp (cn_eq.mp h4)
          refine z_rcs hc hH 2 (pc' := 132) (lv' := [(4, .int (μ.1 0 10)), (3, .int (nI e)), (0, .ref 0), (1, .int 0), (2, .int (nB ow))]) (st' := [.int 0, .ref 0]) (μ' := z_ui (z_ui (z_ui (z_ui μ 0 7 0) 0 14 ((μ.1 0 14) + 1)) 0 9 (nI e)) 0 10 (μ.1 0 10)) (by rfl) ?_
          refine zq_pfi hc hH (by rfl) (ci := 5) (f := 11) (by rfl) (by decide +kernel) (by rfl) ?_
          show Z 0 135 [(4, .int (μ.1 0 10)), (3, .int (nI e)), (0, .ref 0), (1, .int 0), (2, .int (nB ow))] [] (z_ui (z_ui (z_ui (z_ui (z_ui μ 0 7 0) 0 14 ((μ.1 0 14) + 1)) 0 9 (nI e)) 0 10 (μ.1 0 10)) 0 11 0)
          exact hr 0 135 _ _ _ none (by decide +kernel) (by rfl) (⟨rfl, (by unfold eH0; simp only [h1, h2, h3, h4, cond_true, cond_false])⟩)
      · have h3 : (decide ((μ.1 0 10) ≤ 1)) = false := decide_eq_false (cn_le.mp h3)
        refine z_rcs hc hH 2 (pc' := 73) (lv' := [(4, .int (μ.1 0 10)), (3, .int (nI e)), (0, .ref 0), (1, .int 0), (2, .int (nB ow))]) (st' := [.int 1, .ref 0]) (μ' := z_ui (z_ui μ 0 7 0) 0 14 ((μ.1 0 14) + 1)) (by rfl) ?_
        refine zq_pfb hc hH (by rfl) (ci := 5) (f := 13) (by rfl) (by decide +kernel) (by rfl) (by decide) ?_
        show Z 0 76 [(4, .int (μ.1 0 10)), (3, .int (nI e)), (0, .ref 0), (1, .int 0), (2, .int (nB ow))] [] (z_ui (z_ui (z_ui μ 0 7 0) 0 14 ((μ.1 0 14) + 1)) 0 13 1)
        refine z_rcs hc hH 2 (pc' := 78) (lv' := [(4, .int (μ.1 0 10)), (3, .int (nI e)), (0, .ref 0), (1, .int 0), (2, .int (nB ow))]) (st' := [.ref 0, .ref 0]) (μ' := z_ui (z_ui (z_ui μ 0 7 0) 0 14 ((μ.1 0 14) + 1)) 0 13 1) (by rfl) ?_
        refine zq_call hc (by rfl) (gc_rich d' (by omega) (z_ui (z_ui (z_ui μ 0 7 0) 0 14 ((μ.1 0 14) + 1)) 0 13 1) b hb) (by decide +kernel) (fun r9 μ9 hq => ?_)
        obtain ⟨hμ9, rfl⟩ := hq
        rw [hμ9]
        clear hμ9 μ9
        show Z 0 81 [(4, .int (μ.1 0 10)), (3, .int (nI e)), (0, .ref 0), (1, .int 0), (2, .int (nB ow))] [.int (nI b), .ref 0] (z_ui (z_ui (z_ui μ 0 7 0) 0 14 ((μ.1 0 14) + 1)) 0 13 1)
        refine zq_call hc (by rfl) (gc_at4 d' (by omega) (z_ui (z_ui (z_ui μ 0 7 0) 0 14 ((μ.1 0 14) + 1)) 0 13 1) b hb4) (by decide +kernel) (fun r9 μ9 hq => ?_)
        obtain ⟨hμ9, rfl⟩ := hq
        rw [hμ9]
        clear hμ9 μ9
        show Z 0 84 [(4, .int (μ.1 0 10)), (3, .int (nI e)), (0, .ref 0), (1, .int 0), (2, .int (nB ow))] [.ref (18 + 8 * b)] (z_ui (z_ui (z_ui μ 0 7 0) 0 14 ((μ.1 0 14) + 1)) 0 13 1)
        refine z_rcs hc hH 1 (pc' := 85) (lv' := [(4, .int (μ.1 0 10)), (3, .int (nI e)), (0, .ref 0), (1, .int 0), (2, .int (nB ow))]) (st' := [.ref (18 + 8 * b), .ref (18 + 8 * b)]) (μ' := z_ui (z_ui (z_ui μ 0 7 0) 0 14 ((μ.1 0 14) + 1)) 0 13 1) (by rfl) ?_
        refine zq_gfi hc hH (by rfl) (ci := 1) (f := 4) (by rfl) (sj (P := fun i => okf 79 1 4 (18 + 8 * i)) hb4 (by decide +kernel)) (by rfl) ?_
        rw [ui_o (by omega), ui_o (by omega), ui_o (by omega)]
        refine z_rcs hc hH 1 (pc' := 89) (lv' := [(4, .int (μ.1 0 10)), (3, .int (nI e)), (0, .ref 0), (1, .int 0), (2, .int (nB ow))]) (st' := [.ref 0, .int (μ.1 (18 + 8 * b) 4), .ref (18 + 8 * b)]) (μ' := z_ui (z_ui (z_ui μ 0 7 0) 0 14 ((μ.1 0 14) + 1)) 0 13 1) (by rfl) ?_
        refine zq_gfi hc hH (by rfl) (ci := 5) (f := 12) (by rfl) (by decide +kernel) (by rfl) ?_
        rw [ui_k (by omega), ui_k (by omega), ui_k (by omega)]
        refine z_rcs hc hH 3 (pc' := 97) (lv' := [(4, .int (μ.1 0 10)), (3, .int (nI e)), (0, .ref 0), (1, .int 0), (2, .int (nB ow))]) (st' := [.int ((μ.1 (18 + 8 * b) 4) + ((μ.1 0 12) * 1000)), .ref (18 + 8 * b)]) (μ' := z_ui (z_ui (z_ui μ 0 7 0) 0 14 ((μ.1 0 14) + 1)) 0 13 1) (by rfl) ?_
        refine zq_pfi hc hH (by rfl) (ci := 1) (f := 4) (by rfl) (sj (P := fun i => okf 79 1 4 (18 + 8 * i)) hb4 (by decide +kernel)) (by rfl) ?_
        show Z 0 100 [(4, .int (μ.1 0 10)), (3, .int (nI e)), (0, .ref 0), (1, .int 0), (2, .int (nB ow))] [] (z_ui (z_ui (z_ui (z_ui μ 0 7 0) 0 14 ((μ.1 0 14) + 1)) 0 13 1) (18 + 8 * b) 4 ((μ.1 (18 + 8 * b) 4) + ((μ.1 0 12) * 1000)))
        refine z_rcs hc hH 2 (pc' := 102) (lv' := [(4, .int (μ.1 0 10)), (3, .int (nI e)), (0, .ref 0), (1, .int 0), (2, .int (nB ow))]) (st' := [.int 0, .ref 0]) (μ' := z_ui (z_ui (z_ui (z_ui μ 0 7 0) 0 14 ((μ.1 0 14) + 1)) 0 13 1) (18 + 8 * b) 4 ((μ.1 (18 + 8 * b) 4) + ((μ.1 0 12) * 1000))) (by rfl) ?_
        refine zq_pfi hc hH (by rfl) (ci := 5) (f := 12) (by rfl) (by decide +kernel) (by rfl) ?_
        show Z 0 105 [(4, .int (μ.1 0 10)), (3, .int (nI e)), (0, .ref 0), (1, .int 0), (2, .int (nB ow))] [] (z_ui (z_ui (z_ui (z_ui (z_ui μ 0 7 0) 0 14 ((μ.1 0 14) + 1)) 0 13 1) (18 + 8 * b) 4 ((μ.1 (18 + 8 * b) 4) + ((μ.1 0 12) * 1000))) 0 12 0)
        exact hr 0 105 _ _ _ none (by decide +kernel) (by rfl) (⟨rfl, (by unfold eH0; simp only [h1, h2, h3, cond_true, cond_false])⟩)
  · have h1 : (decide ((nI e) = 0)) = true := decide_eq_true (cn_ne.mp h1)
    refine z_rcs hc hH 1 (pc' := 44) (lv' := [(3, .int (nI e)), (0, .ref 0), (1, .int 0), (2, .int (nB ow))]) (st' := [.ref 0]) (μ' := z_ui (z_ui μ 0 7 0) 0 14 ((μ.1 0 14) + 1)) (by rfl) ?_
    refine zq_gfi hc hH (by rfl) (ci := 5) (f := 10) (by rfl) (by decide +kernel) (by rfl) ?_
    rw [ui_k (by omega), ui_k (by omega)]
    refine z_rcs hc hH 5 (pc' := 59) (lv' := [(4, .int ((μ.1 0 10) + 1)), (3, .int (nI e)), (0, .ref 0), (1, .int 0), (2, .int (nB ow))]) (st' := [.ref 0]) (μ' := z_ui (z_ui μ 0 7 0) 0 14 ((μ.1 0 14) + 1)) (by rfl) ?_
    refine zq_call hc (by rfl) (gc_brk d' (by omega) (z_ui (z_ui μ 0 7 0) 0 14 ((μ.1 0 14) + 1)) bk hbk) (by decide +kernel) (fun r9 μ9 hq => ?_)
    obtain ⟨hμ9, rfl⟩ := hq
    rw [hμ9]
    clear hμ9 μ9
    show Z 0 62 [(4, .int ((μ.1 0 10) + 1)), (3, .int (nI e)), (0, .ref 0), (1, .int 0), (2, .int (nB ow))] [.int (nB bk)] (z_ui (z_ui μ 0 7 0) 0 14 ((μ.1 0 14) + 1))
    refine zq_if hc hH (by rfl) (tg := 71) (by rfl) (fun h5 => ?_) (fun h5 => ?_)
    · have h5 : (bk) = true := nB_n.mp (cm_ne.mp h5)
      refine z_rcs hc hH 2 (pc' := 73) (lv' := [(4, .int ((μ.1 0 10) + 1)), (3, .int (nI e)), (0, .ref 0), (1, .int 0), (2, .int (nB ow))]) (st' := [.int 1, .ref 0]) (μ' := z_ui (z_ui μ 0 7 0) 0 14 ((μ.1 0 14) + 1)) (by rfl) ?_
      refine zq_pfb hc hH (by rfl) (ci := 5) (f := 13) (by rfl) (by decide +kernel) (by rfl) (by decide) ?_
      show Z 0 76 [(4, .int ((μ.1 0 10) + 1)), (3, .int (nI e)), (0, .ref 0), (1, .int 0), (2, .int (nB ow))] [] (z_ui (z_ui (z_ui μ 0 7 0) 0 14 ((μ.1 0 14) + 1)) 0 13 1)
      refine z_rcs hc hH 2 (pc' := 78) (lv' := [(4, .int ((μ.1 0 10) + 1)), (3, .int (nI e)), (0, .ref 0), (1, .int 0), (2, .int (nB ow))]) (st' := [.ref 0, .ref 0]) (μ' := z_ui (z_ui (z_ui μ 0 7 0) 0 14 ((μ.1 0 14) + 1)) 0 13 1) (by rfl) ?_
      refine zq_call hc (by rfl) (gc_rich d' (by omega) (z_ui (z_ui (z_ui μ 0 7 0) 0 14 ((μ.1 0 14) + 1)) 0 13 1) b hb) (by decide +kernel) (fun r9 μ9 hq => ?_)
      obtain ⟨hμ9, rfl⟩ := hq
      rw [hμ9]
      clear hμ9 μ9
      show Z 0 81 [(4, .int ((μ.1 0 10) + 1)), (3, .int (nI e)), (0, .ref 0), (1, .int 0), (2, .int (nB ow))] [.int (nI b), .ref 0] (z_ui (z_ui (z_ui μ 0 7 0) 0 14 ((μ.1 0 14) + 1)) 0 13 1)
      refine zq_call hc (by rfl) (gc_at4 d' (by omega) (z_ui (z_ui (z_ui μ 0 7 0) 0 14 ((μ.1 0 14) + 1)) 0 13 1) b hb4) (by decide +kernel) (fun r9 μ9 hq => ?_)
      obtain ⟨hμ9, rfl⟩ := hq
      rw [hμ9]
      clear hμ9 μ9
      show Z 0 84 [(4, .int ((μ.1 0 10) + 1)), (3, .int (nI e)), (0, .ref 0), (1, .int 0), (2, .int (nB ow))] [.ref (18 + 8 * b)] (z_ui (z_ui (z_ui μ 0 7 0) 0 14 ((μ.1 0 14) + 1)) 0 13 1)
      refine z_rcs hc hH 1 (pc' := 85) (lv' := [(4, .int ((μ.1 0 10) + 1)), (3, .int (nI e)), (0, .ref 0), (1, .int 0), (2, .int (nB ow))]) (st' := [.ref (18 + 8 * b), .ref (18 + 8 * b)]) (μ' := z_ui (z_ui (z_ui μ 0 7 0) 0 14 ((μ.1 0 14) + 1)) 0 13 1) (by rfl) ?_
      refine zq_gfi hc hH (by rfl) (ci := 1) (f := 4) (by rfl) (sj (P := fun i => okf 79 1 4 (18 + 8 * i)) hb4 (by decide +kernel)) (by rfl) ?_
      rw [ui_o (by omega), ui_o (by omega), ui_o (by omega)]
      refine z_rcs hc hH 1 (pc' := 89) (lv' := [(4, .int ((μ.1 0 10) + 1)), (3, .int (nI e)), (0, .ref 0), (1, .int 0), (2, .int (nB ow))]) (st' := [.ref 0, .int (μ.1 (18 + 8 * b) 4), .ref (18 + 8 * b)]) (μ' := z_ui (z_ui (z_ui μ 0 7 0) 0 14 ((μ.1 0 14) + 1)) 0 13 1) (by rfl) ?_
      refine zq_gfi hc hH (by rfl) (ci := 5) (f := 12) (by rfl) (by decide +kernel) (by rfl) ?_
      rw [ui_k (by omega), ui_k (by omega), ui_k (by omega)]
      refine z_rcs hc hH 3 (pc' := 97) (lv' := [(4, .int ((μ.1 0 10) + 1)), (3, .int (nI e)), (0, .ref 0), (1, .int 0), (2, .int (nB ow))]) (st' := [.int ((μ.1 (18 + 8 * b) 4) + ((μ.1 0 12) * 1000)), .ref (18 + 8 * b)]) (μ' := z_ui (z_ui (z_ui μ 0 7 0) 0 14 ((μ.1 0 14) + 1)) 0 13 1) (by rfl) ?_
      refine zq_pfi hc hH (by rfl) (ci := 1) (f := 4) (by rfl) (sj (P := fun i => okf 79 1 4 (18 + 8 * i)) hb4 (by decide +kernel)) (by rfl) ?_
      show Z 0 100 [(4, .int ((μ.1 0 10) + 1)), (3, .int (nI e)), (0, .ref 0), (1, .int 0), (2, .int (nB ow))] [] (z_ui (z_ui (z_ui (z_ui μ 0 7 0) 0 14 ((μ.1 0 14) + 1)) 0 13 1) (18 + 8 * b) 4 ((μ.1 (18 + 8 * b) 4) + ((μ.1 0 12) * 1000)))
      refine z_rcs hc hH 2 (pc' := 102) (lv' := [(4, .int ((μ.1 0 10) + 1)), (3, .int (nI e)), (0, .ref 0), (1, .int 0), (2, .int (nB ow))]) (st' := [.int 0, .ref 0]) (μ' := z_ui (z_ui (z_ui (z_ui μ 0 7 0) 0 14 ((μ.1 0 14) + 1)) 0 13 1) (18 + 8 * b) 4 ((μ.1 (18 + 8 * b) 4) + ((μ.1 0 12) * 1000))) (by rfl) ?_
      refine zq_pfi hc hH (by rfl) (ci := 5) (f := 12) (by rfl) (by decide +kernel) (by rfl) ?_
      show Z 0 105 [(4, .int ((μ.1 0 10) + 1)), (3, .int (nI e)), (0, .ref 0), (1, .int 0), (2, .int (nB ow))] [] (z_ui (z_ui (z_ui (z_ui (z_ui μ 0 7 0) 0 14 ((μ.1 0 14) + 1)) 0 13 1) (18 + 8 * b) 4 ((μ.1 (18 + 8 * b) 4) + ((μ.1 0 12) * 1000))) 0 12 0)
      exact hr 0 105 _ _ _ none (by decide +kernel) (by rfl) (⟨rfl, (by unfold eH0; simp only [h1, h5, cond_true, cond_false])⟩)
    · have h5 : (bk) = false := nB_z.mp (cn_ne.mp h5)
      refine z_rcs hc hH 2 (pc' := 68) (lv' := [(4, .int ((μ.1 0 10) + 1)), (3, .int (nI e)), (0, .ref 0), (1, .int 0), (2, .int (nB ow))]) (st' := [.int 1, .int ((μ.1 0 10) + 1)]) (μ' := z_ui (z_ui μ 0 7 0) 0 14 ((μ.1 0 14) + 1)) (by rfl) ?_
      refine zq_ic hc hH (by rfl) (tg := 106) (by rfl) (fun h6 => ?_) (fun h6 => ?_)
      · have h6 : (decide (((μ.1 0 10) + 1) ≤ 1)) = true := decide_eq_true (cm_le.mp h6)
        refine z_rcs hc hH 2 (pc' := 108) (lv' := [(4, .int ((μ.1 0 10) + 1)), (3, .int (nI e)), (0, .ref 0), (1, .int 0), (2, .int (nB ow))]) (st' := [.int (nI e), .ref 0]) (μ' := z_ui (z_ui μ 0 7 0) 0 14 ((μ.1 0 14) + 1)) (by rfl) ?_
        refine zq_pfi hc hH (by rfl) (ci := 5) (f := 9) (by rfl) (by decide +kernel) (by rfl) ?_
        show Z 0 111 [(4, .int ((μ.1 0 10) + 1)), (3, .int (nI e)), (0, .ref 0), (1, .int 0), (2, .int (nB ow))] [] (z_ui (z_ui (z_ui μ 0 7 0) 0 14 ((μ.1 0 14) + 1)) 0 9 (nI e))
        refine z_rcs hc hH 2 (pc' := 114) (lv' := [(4, .int ((μ.1 0 10) + 1)), (3, .int (nI e)), (0, .ref 0), (1, .int 0), (2, .int (nB ow))]) (st' := [.int ((μ.1 0 10) + 1), .ref 0]) (μ' := z_ui (z_ui (z_ui μ 0 7 0) 0 14 ((μ.1 0 14) + 1)) 0 9 (nI e)) (by rfl) ?_
        refine zq_pfi hc hH (by rfl) (ci := 5) (f := 10) (by rfl) (by decide +kernel) (by rfl) ?_
        show Z 0 117 [(4, .int ((μ.1 0 10) + 1)), (3, .int (nI e)), (0, .ref 0), (1, .int 0), (2, .int (nB ow))] [] (z_ui (z_ui (z_ui (z_ui μ 0 7 0) 0 14 ((μ.1 0 14) + 1)) 0 9 (nI e)) 0 10 ((μ.1 0 10) + 1))
        refine z_rcs hc hH 2 (pc' := 119) (lv' := [(4, .int ((μ.1 0 10) + 1)), (3, .int (nI e)), (0, .ref 0), (1, .int 0), (2, .int (nB ow))]) (st' := [.int (nB ow), .ref 0]) (μ' := z_ui (z_ui (z_ui (z_ui μ 0 7 0) 0 14 ((μ.1 0 14) + 1)) 0 9 (nI e)) 0 10 ((μ.1 0 10) + 1)) (by rfl) ?_
        refine zq_if hc hH (by rfl) (tg := 126) (by rfl) (fun h7 => ?_) (fun h7 => ?_)
        · have h7 : (ow) = false := nB_z.mp (cm_eq9.mp h7)
          refine z_rcs hc hH 1 (pc' := 127) (lv' := [(4, .int ((μ.1 0 10) + 1)), (3, .int (nI e)), (0, .ref 0), (1, .int 0), (2, .int (nB ow))]) (st' := [.ref 0, .ref 0]) (μ' := z_ui (z_ui (z_ui (z_ui μ 0 7 0) 0 14 ((μ.1 0 14) + 1)) 0 9 (nI e)) 0 10 ((μ.1 0 10) + 1)) (by rfl) ?_
          refine zq_gfi hc hH (by rfl) (ci := 5) (f := 11) (by rfl) (by decide +kernel) (by rfl) ?_
          rw [ui_k (by omega), ui_k (by omega), ui_k (by omega), ui_k (by omega)]
          refine z_rcs hc hH 2 (pc' := 132) (lv' := [(4, .int ((μ.1 0 10) + 1)), (3, .int (nI e)), (0, .ref 0), (1, .int 0), (2, .int (nB ow))]) (st' := [.int ((μ.1 0 11) + 1), .ref 0]) (μ' := z_ui (z_ui (z_ui (z_ui μ 0 7 0) 0 14 ((μ.1 0 14) + 1)) 0 9 (nI e)) 0 10 ((μ.1 0 10) + 1)) (by rfl) ?_
          refine zq_pfi hc hH (by rfl) (ci := 5) (f := 11) (by rfl) (by decide +kernel) (by rfl) ?_
          show Z 0 135 [(4, .int ((μ.1 0 10) + 1)), (3, .int (nI e)), (0, .ref 0), (1, .int 0), (2, .int (nB ow))] [] (z_ui (z_ui (z_ui (z_ui (z_ui μ 0 7 0) 0 14 ((μ.1 0 14) + 1)) 0 9 (nI e)) 0 10 ((μ.1 0 10) + 1)) 0 11 ((μ.1 0 11) + 1))
          exact hr 0 135 _ _ _ none (by decide +kernel) (by rfl) (⟨rfl, (by unfold eH0; simp only [h1, h5, h6, h7, cond_true, cond_false])⟩)
        · have h7 : (ow) = true := nB_n.mp (cn_eq.mp h7)
          refine z_rcs hc hH 2 (pc' := 132) (lv' := [(4, .int ((μ.1 0 10) + 1)), (3, .int (nI e)), (0, .ref 0), (1, .int 0), (2, .int (nB ow))]) (st' := [.int 0, .ref 0]) (μ' := z_ui (z_ui (z_ui (z_ui μ 0 7 0) 0 14 ((μ.1 0 14) + 1)) 0 9 (nI e)) 0 10 ((μ.1 0 10) + 1)) (by rfl) ?_
          refine zq_pfi hc hH (by rfl) (ci := 5) (f := 11) (by rfl) (by decide +kernel) (by rfl) ?_
          show Z 0 135 [(4, .int ((μ.1 0 10) + 1)), (3, .int (nI e)), (0, .ref 0), (1, .int 0), (2, .int (nB ow))] [] (z_ui (z_ui (z_ui (z_ui (z_ui μ 0 7 0) 0 14 ((μ.1 0 14) + 1)) 0 9 (nI e)) 0 10 ((μ.1 0 10) + 1)) 0 11 0)
          exact hr 0 135 _ _ _ none (by decide +kernel) (by rfl) (⟨rfl, (by unfold eH0; simp only [h1, h5, h6, h7, cond_true, cond_false])⟩)
      · have h6 : (decide (((μ.1 0 10) + 1) ≤ 1)) = false := decide_eq_false (cn_le.mp h6)
        refine z_rcs hc hH 2 (pc' := 73) (lv' := [(4, .int ((μ.1 0 10) + 1)), (3, .int (nI e)), (0, .ref 0), (1, .int 0), (2, .int (nB ow))]) (st' := [.int 1, .ref 0]) (μ' := z_ui (z_ui μ 0 7 0) 0 14 ((μ.1 0 14) + 1)) (by rfl) ?_
        refine zq_pfb hc hH (by rfl) (ci := 5) (f := 13) (by rfl) (by decide +kernel) (by rfl) (by decide) ?_
        show Z 0 76 [(4, .int ((μ.1 0 10) + 1)), (3, .int (nI e)), (0, .ref 0), (1, .int 0), (2, .int (nB ow))] [] (z_ui (z_ui (z_ui μ 0 7 0) 0 14 ((μ.1 0 14) + 1)) 0 13 1)
        refine z_rcs hc hH 2 (pc' := 78) (lv' := [(4, .int ((μ.1 0 10) + 1)), (3, .int (nI e)), (0, .ref 0), (1, .int 0), (2, .int (nB ow))]) (st' := [.ref 0, .ref 0]) (μ' := z_ui (z_ui (z_ui μ 0 7 0) 0 14 ((μ.1 0 14) + 1)) 0 13 1) (by rfl) ?_
        refine zq_call hc (by rfl) (gc_rich d' (by omega) (z_ui (z_ui (z_ui μ 0 7 0) 0 14 ((μ.1 0 14) + 1)) 0 13 1) b hb) (by decide +kernel) (fun r9 μ9 hq => ?_)
        obtain ⟨hμ9, rfl⟩ := hq
        rw [hμ9]
        clear hμ9 μ9
        show Z 0 81 [(4, .int ((μ.1 0 10) + 1)), (3, .int (nI e)), (0, .ref 0), (1, .int 0), (2, .int (nB ow))] [.int (nI b), .ref 0] (z_ui (z_ui (z_ui μ 0 7 0) 0 14 ((μ.1 0 14) + 1)) 0 13 1)
        refine zq_call hc (by rfl) (gc_at4 d' (by omega) (z_ui (z_ui (z_ui μ 0 7 0) 0 14 ((μ.1 0 14) + 1)) 0 13 1) b hb4) (by decide +kernel) (fun r9 μ9 hq => ?_)
        obtain ⟨hμ9, rfl⟩ := hq
        rw [hμ9]
        clear hμ9 μ9
        show Z 0 84 [(4, .int ((μ.1 0 10) + 1)), (3, .int (nI e)), (0, .ref 0), (1, .int 0), (2, .int (nB ow))] [.ref (18 + 8 * b)] (z_ui (z_ui (z_ui μ 0 7 0) 0 14 ((μ.1 0 14) + 1)) 0 13 1)
        refine z_rcs hc hH 1 (pc' := 85) (lv' := [(4, .int ((μ.1 0 10) + 1)), (3, .int (nI e)), (0, .ref 0), (1, .int 0), (2, .int (nB ow))]) (st' := [.ref (18 + 8 * b), .ref (18 + 8 * b)]) (μ' := z_ui (z_ui (z_ui μ 0 7 0) 0 14 ((μ.1 0 14) + 1)) 0 13 1) (by rfl) ?_
        refine zq_gfi hc hH (by rfl) (ci := 1) (f := 4) (by rfl) (sj (P := fun i => okf 79 1 4 (18 + 8 * i)) hb4 (by decide +kernel)) (by rfl) ?_
        rw [ui_o (by omega), ui_o (by omega), ui_o (by omega)]
        refine z_rcs hc hH 1 (pc' := 89) (lv' := [(4, .int ((μ.1 0 10) + 1)), (3, .int (nI e)), (0, .ref 0), (1, .int 0), (2, .int (nB ow))]) (st' := [.ref 0, .int (μ.1 (18 + 8 * b) 4), .ref (18 + 8 * b)]) (μ' := z_ui (z_ui (z_ui μ 0 7 0) 0 14 ((μ.1 0 14) + 1)) 0 13 1) (by rfl) ?_
        refine zq_gfi hc hH (by rfl) (ci := 5) (f := 12) (by rfl) (by decide +kernel) (by rfl) ?_
        rw [ui_k (by omega), ui_k (by omega), ui_k (by omega)]
        refine z_rcs hc hH 3 (pc' := 97) (lv' := [(4, .int ((μ.1 0 10) + 1)), (3, .int (nI e)), (0, .ref 0), (1, .int 0), (2, .int (nB ow))]) (st' := [.int ((μ.1 (18 + 8 * b) 4) + ((μ.1 0 12) * 1000)), .ref (18 + 8 * b)]) (μ' := z_ui (z_ui (z_ui μ 0 7 0) 0 14 ((μ.1 0 14) + 1)) 0 13 1) (by rfl) ?_
        refine zq_pfi hc hH (by rfl) (ci := 1) (f := 4) (by rfl) (sj (P := fun i => okf 79 1 4 (18 + 8 * i)) hb4 (by decide +kernel)) (by rfl) ?_
        show Z 0 100 [(4, .int ((μ.1 0 10) + 1)), (3, .int (nI e)), (0, .ref 0), (1, .int 0), (2, .int (nB ow))] [] (z_ui (z_ui (z_ui (z_ui μ 0 7 0) 0 14 ((μ.1 0 14) + 1)) 0 13 1) (18 + 8 * b) 4 ((μ.1 (18 + 8 * b) 4) + ((μ.1 0 12) * 1000)))
        refine z_rcs hc hH 2 (pc' := 102) (lv' := [(4, .int ((μ.1 0 10) + 1)), (3, .int (nI e)), (0, .ref 0), (1, .int 0), (2, .int (nB ow))]) (st' := [.int 0, .ref 0]) (μ' := z_ui (z_ui (z_ui (z_ui μ 0 7 0) 0 14 ((μ.1 0 14) + 1)) 0 13 1) (18 + 8 * b) 4 ((μ.1 (18 + 8 * b) 4) + ((μ.1 0 12) * 1000))) (by rfl) ?_
        refine zq_pfi hc hH (by rfl) (ci := 5) (f := 12) (by rfl) (by decide +kernel) (by rfl) ?_
        show Z 0 105 [(4, .int ((μ.1 0 10) + 1)), (3, .int (nI e)), (0, .ref 0), (1, .int 0), (2, .int (nB ow))] [] (z_ui (z_ui (z_ui (z_ui (z_ui μ 0 7 0) 0 14 ((μ.1 0 14) + 1)) 0 13 1) (18 + 8 * b) 4 ((μ.1 (18 + 8 * b) 4) + ((μ.1 0 12) * 1000))) 0 12 0)
        exact hr 0 105 _ _ _ none (by decide +kernel) (by rfl) (⟨rfl, (by unfold eH0; simp only [h1, h5, h6, cond_true, cond_false])⟩)
def eH1 (μ : zM) (ow bk : Bool) (dl e b : Nat) : zM := (bif bk then z_ui (z_ui (z_ui (z_ui (z_ui μ 0 7 0) 0 14 ((μ.1 0 14) + 1)) 0 13 1) (18 + 8 * b) 4 ((μ.1 (18 + 8 * b) 4) + ((μ.1 0 12) * 1000))) 0 12 0 else (bif decide ((μ.1 0 10) ≤ 1) then (bif ow then z_ui (z_ui (z_ui (z_ui (z_ui μ 0 7 0) 0 14 ((μ.1 0 14) + 1)) 0 9 (nI dl)) 0 10 (μ.1 0 10)) 0 11 0 else z_ui (z_ui (z_ui (z_ui (z_ui μ 0 7 0) 0 14 ((μ.1 0 14) + 1)) 0 9 (nI dl)) 0 10 (μ.1 0 10)) 0 11 ((μ.1 0 11) + 1)) else z_ui (z_ui (z_ui (z_ui (z_ui μ 0 7 0) 0 14 ((μ.1 0 14) + 1)) 0 13 1) (18 + 8 * b) 4 ((μ.1 (18 + 8 * b) 4) + ((μ.1 0 12) * 1000))) 0 12 0))
theorem gc_endHand1 (d : Nat) (hd : 3 ≤ d) (μ : zM) (ow bk : Bool) (dl e b : Nat) (hbk : xBk μ = bk) (hdl : μ.1 0 9 = nI dl) (hdl4 : dl < 4) (he : (dl + 1) % 4 = e) (hb4 : b < 4) (hb : rcM μ = b) : z_C d mi_X6_endHand [.ref 0, .int 1, .int (nB ow)] μ (fun r μ' => r = none ∧ μ' = eH1 μ ow bk dl e b) := by
  refine z_C_in (by decide) (by omega) (fun d' Z ed hc hr => ?_)
  have hH : zH mi_X6_endHand zc_X6_endHand 79 6 5 := ⟨by rfl, by rfl, by rfl, by rfl⟩
  refine z_rcs hc hH 2 (pc' := 2) (lv' := [(0, .ref 0), (1, .int 1), (2, .int (nB ow))]) (st' := [.int 0, .ref 0]) (μ' := μ) (by rfl) ?_
  refine zq_pfi hc hH (by rfl) (ci := 5) (f := 7) (by rfl) (by decide +kernel) (by rfl) ?_
  show Z 0 5 [(0, .ref 0), (1, .int 1), (2, .int (nB ow))] [] (z_ui μ 0 7 0)
  refine z_rcs hc hH 2 (pc' := 7) (lv' := [(0, .ref 0), (1, .int 1), (2, .int (nB ow))]) (st' := [.ref 0, .ref 0]) (μ' := z_ui μ 0 7 0) (by rfl) ?_
  refine zq_gfi hc hH (by rfl) (ci := 5) (f := 14) (by rfl) (by decide +kernel) (by rfl) ?_
  rw [ui_k (by omega)]
  refine z_rcs hc hH 2 (pc' := 12) (lv' := [(0, .ref 0), (1, .int 1), (2, .int (nB ow))]) (st' := [.int ((μ.1 0 14) + 1), .ref 0]) (μ' := z_ui μ 0 7 0) (by rfl) ?_
  refine zq_pfi hc hH (by rfl) (ci := 5) (f := 14) (by rfl) (by decide +kernel) (by rfl) ?_
  show Z 0 15 [(0, .ref 0), (1, .int 1), (2, .int (nB ow))] [] (z_ui (z_ui μ 0 7 0) 0 14 ((μ.1 0 14) + 1))
  refine z_rcs hc hH 3 (pc' := 20) (lv' := [(0, .ref 0), (1, .int 1), (2, .int (nB ow))]) (st' := [.ref 0]) (μ' := z_ui (z_ui μ 0 7 0) 0 14 ((μ.1 0 14) + 1)) (by rfl) ?_
  refine zq_gfi hc hH (by rfl) (ci := 5) (f := 9) (by rfl) (by decide +kernel) (by rfl) ?_
  rw [ui_k (by omega), ui_k (by omega)]
  rw [hdl]
  refine z_rcs hc hH 5 (pc' := 53) (lv' := [(3, .int (nI dl)), (0, .ref 0), (1, .int 1), (2, .int (nB ow))]) (st' := [.ref 0]) (μ' := z_ui (z_ui μ 0 7 0) 0 14 ((μ.1 0 14) + 1)) (by rfl) ?_
  refine zq_gfi hc hH (by rfl) (ci := 5) (f := 10) (by rfl) (by decide +kernel) (by rfl) ?_
  rw [ui_k (by omega), ui_k (by omega)]
  refine z_rcs hc hH 2 (pc' := 59) (lv' := [(4, .int (μ.1 0 10)), (3, .int (nI dl)), (0, .ref 0), (1, .int 1), (2, .int (nB ow))]) (st' := [.ref 0]) (μ' := z_ui (z_ui μ 0 7 0) 0 14 ((μ.1 0 14) + 1)) (by rfl) ?_
  refine zq_call hc (by rfl) (gc_brk d' (by omega) (z_ui (z_ui μ 0 7 0) 0 14 ((μ.1 0 14) + 1)) bk hbk) (by decide +kernel) (fun r9 μ9 hq => ?_)
  obtain ⟨hμ9, rfl⟩ := hq
  rw [hμ9]
  clear hμ9 μ9
  show Z 0 62 [(4, .int (μ.1 0 10)), (3, .int (nI dl)), (0, .ref 0), (1, .int 1), (2, .int (nB ow))] [.int (nB bk)] (z_ui (z_ui μ 0 7 0) 0 14 ((μ.1 0 14) + 1))
  refine zq_if hc hH (by rfl) (tg := 71) (by rfl) (fun h1 => ?_) (fun h1 => ?_)
  · have h1 : (bk) = true := nB_n.mp (cm_ne.mp h1)
    refine z_rcs hc hH 2 (pc' := 73) (lv' := [(4, .int (μ.1 0 10)), (3, .int (nI dl)), (0, .ref 0), (1, .int 1), (2, .int (nB ow))]) (st' := [.int 1, .ref 0]) (μ' := z_ui (z_ui μ 0 7 0) 0 14 ((μ.1 0 14) + 1)) (by rfl) ?_
    refine zq_pfb hc hH (by rfl) (ci := 5) (f := 13) (by rfl) (by decide +kernel) (by rfl) (by decide) ?_
    show Z 0 76 [(4, .int (μ.1 0 10)), (3, .int (nI dl)), (0, .ref 0), (1, .int 1), (2, .int (nB ow))] [] (z_ui (z_ui (z_ui μ 0 7 0) 0 14 ((μ.1 0 14) + 1)) 0 13 1)
    refine z_rcs hc hH 2 (pc' := 78) (lv' := [(4, .int (μ.1 0 10)), (3, .int (nI dl)), (0, .ref 0), (1, .int 1), (2, .int (nB ow))]) (st' := [.ref 0, .ref 0]) (μ' := z_ui (z_ui (z_ui μ 0 7 0) 0 14 ((μ.1 0 14) + 1)) 0 13 1) (by rfl) ?_
    refine zq_call hc (by rfl) (gc_rich d' (by omega) (z_ui (z_ui (z_ui μ 0 7 0) 0 14 ((μ.1 0 14) + 1)) 0 13 1) b hb) (by decide +kernel) (fun r9 μ9 hq => ?_)
    obtain ⟨hμ9, rfl⟩ := hq
    rw [hμ9]
    clear hμ9 μ9
    show Z 0 81 [(4, .int (μ.1 0 10)), (3, .int (nI dl)), (0, .ref 0), (1, .int 1), (2, .int (nB ow))] [.int (nI b), .ref 0] (z_ui (z_ui (z_ui μ 0 7 0) 0 14 ((μ.1 0 14) + 1)) 0 13 1)
    refine zq_call hc (by rfl) (gc_at4 d' (by omega) (z_ui (z_ui (z_ui μ 0 7 0) 0 14 ((μ.1 0 14) + 1)) 0 13 1) b hb4) (by decide +kernel) (fun r9 μ9 hq => ?_)
    obtain ⟨hμ9, rfl⟩ := hq
    rw [hμ9]
    clear hμ9 μ9
    show Z 0 84 [(4, .int (μ.1 0 10)), (3, .int (nI dl)), (0, .ref 0), (1, .int 1), (2, .int (nB ow))] [.ref (18 + 8 * b)] (z_ui (z_ui (z_ui μ 0 7 0) 0 14 ((μ.1 0 14) + 1)) 0 13 1)
    refine z_rcs hc hH 1 (pc' := 85) (lv' := [(4, .int (μ.1 0 10)), (3, .int (nI dl)), (0, .ref 0), (1, .int 1), (2, .int (nB ow))]) (st' := [.ref (18 + 8 * b), .ref (18 + 8 * b)]) (μ' := z_ui (z_ui (z_ui μ 0 7 0) 0 14 ((μ.1 0 14) + 1)) 0 13 1) (by rfl) ?_
    refine zq_gfi hc hH (by rfl) (ci := 1) (f := 4) (by rfl) (sj (P := fun i => okf 79 1 4 (18 + 8 * i)) hb4 (by decide +kernel)) (by rfl) ?_
    rw [ui_o (by omega), ui_o (by omega), ui_o (by omega)]
    refine z_rcs hc hH 1 (pc' := 89) (lv' := [(4, .int (μ.1 0 10)), (3, .int (nI dl)), (0, .ref 0), (1, .int 1), (2, .int (nB ow))]) (st' := [.ref 0, .int (μ.1 (18 + 8 * b) 4), .ref (18 + 8 * b)]) (μ' := z_ui (z_ui (z_ui μ 0 7 0) 0 14 ((μ.1 0 14) + 1)) 0 13 1) (by rfl) ?_
    refine zq_gfi hc hH (by rfl) (ci := 5) (f := 12) (by rfl) (by decide +kernel) (by rfl) ?_
    rw [ui_k (by omega), ui_k (by omega), ui_k (by omega)]
    refine z_rcs hc hH 3 (pc' := 97) (lv' := [(4, .int (μ.1 0 10)), (3, .int (nI dl)), (0, .ref 0), (1, .int 1), (2, .int (nB ow))]) (st' := [.int ((μ.1 (18 + 8 * b) 4) + ((μ.1 0 12) * 1000)), .ref (18 + 8 * b)]) (μ' := z_ui (z_ui (z_ui μ 0 7 0) 0 14 ((μ.1 0 14) + 1)) 0 13 1) (by rfl) ?_
    refine zq_pfi hc hH (by rfl) (ci := 1) (f := 4) (by rfl) (sj (P := fun i => okf 79 1 4 (18 + 8 * i)) hb4 (by decide +kernel)) (by rfl) ?_
    show Z 0 100 [(4, .int (μ.1 0 10)), (3, .int (nI dl)), (0, .ref 0), (1, .int 1), (2, .int (nB ow))] [] (z_ui (z_ui (z_ui (z_ui μ 0 7 0) 0 14 ((μ.1 0 14) + 1)) 0 13 1) (18 + 8 * b) 4 ((μ.1 (18 + 8 * b) 4) + ((μ.1 0 12) * 1000)))
    refine z_rcs hc hH 2 (pc' := 102) (lv' := [(4, .int (μ.1 0 10)), (3, .int (nI dl)), (0, .ref 0), (1, .int 1), (2, .int (nB ow))]) (st' := [.int 0, .ref 0]) (μ' := z_ui (z_ui (z_ui (z_ui μ 0 7 0) 0 14 ((μ.1 0 14) + 1)) 0 13 1) (18 + 8 * b) 4 ((μ.1 (18 + 8 * b) 4) + ((μ.1 0 12) * 1000))) (by rfl) ?_
    refine zq_pfi hc hH (by rfl) (ci := 5) (f := 12) (by rfl) (by decide +kernel) (by rfl) ?_
    show Z 0 105 [(4, .int (μ.1 0 10)), (3, .int (nI dl)), (0, .ref 0), (1, .int 1), (2, .int (nB ow))] [] (z_ui (z_ui (z_ui (z_ui (z_ui μ 0 7 0) 0 14 ((μ.1 0 14) + 1)) 0 13 1) (18 + 8 * b) 4 ((μ.1 (18 + 8 * b) 4) + ((μ.1 0 12) * 1000))) 0 12 0)
    exact hr 0 105 _ _ _ none (by decide +kernel) (by rfl) (⟨rfl, (by unfold eH1; simp only [h1, cond_true, cond_false])⟩)
  · have h1 : (bk) = false := nB_z.mp (cn_ne.mp h1)
    refine z_rcs hc hH 2 (pc' := 68) (lv' := [(4, .int (μ.1 0 10)), (3, .int (nI dl)), (0, .ref 0), (1, .int 1), (2, .int (nB ow))]) (st' := [.int 1, .int (μ.1 0 10)]) (μ' := z_ui (z_ui μ 0 7 0) 0 14 ((μ.1 0 14) + 1)) (by rfl) ?_
    refine zq_ic hc hH (by rfl) (tg := 106) (by rfl) (fun h2 => ?_) (fun h2 => ?_)
    · have h2 : (decide ((μ.1 0 10) ≤ 1)) = true := decide_eq_true (cm_le.mp h2)
      refine z_rcs hc hH 2 (pc' := 108) (lv' := [(4, .int (μ.1 0 10)), (3, .int (nI dl)), (0, .ref 0), (1, .int 1), (2, .int (nB ow))]) (st' := [.int (nI dl), .ref 0]) (μ' := z_ui (z_ui μ 0 7 0) 0 14 ((μ.1 0 14) + 1)) (by rfl) ?_
      refine zq_pfi hc hH (by rfl) (ci := 5) (f := 9) (by rfl) (by decide +kernel) (by rfl) ?_
      show Z 0 111 [(4, .int (μ.1 0 10)), (3, .int (nI dl)), (0, .ref 0), (1, .int 1), (2, .int (nB ow))] [] (z_ui (z_ui (z_ui μ 0 7 0) 0 14 ((μ.1 0 14) + 1)) 0 9 (nI dl))
      refine z_rcs hc hH 2 (pc' := 114) (lv' := [(4, .int (μ.1 0 10)), (3, .int (nI dl)), (0, .ref 0), (1, .int 1), (2, .int (nB ow))]) (st' := [.int (μ.1 0 10), .ref 0]) (μ' := z_ui (z_ui (z_ui μ 0 7 0) 0 14 ((μ.1 0 14) + 1)) 0 9 (nI dl)) (by rfl) ?_
      refine zq_pfi hc hH (by rfl) (ci := 5) (f := 10) (by rfl) (by decide +kernel) (by rfl) ?_
      show Z 0 117 [(4, .int (μ.1 0 10)), (3, .int (nI dl)), (0, .ref 0), (1, .int 1), (2, .int (nB ow))] [] (z_ui (z_ui (z_ui (z_ui μ 0 7 0) 0 14 ((μ.1 0 14) + 1)) 0 9 (nI dl)) 0 10 (μ.1 0 10))
      refine z_rcs hc hH 2 (pc' := 119) (lv' := [(4, .int (μ.1 0 10)), (3, .int (nI dl)), (0, .ref 0), (1, .int 1), (2, .int (nB ow))]) (st' := [.int (nB ow), .ref 0]) (μ' := z_ui (z_ui (z_ui (z_ui μ 0 7 0) 0 14 ((μ.1 0 14) + 1)) 0 9 (nI dl)) 0 10 (μ.1 0 10)) (by rfl) ?_
      refine zq_if hc hH (by rfl) (tg := 126) (by rfl) (fun h3 => ?_) (fun h3 => ?_)
      · have h3 : (ow) = false := nB_z.mp (cm_eq9.mp h3)
        refine z_rcs hc hH 1 (pc' := 127) (lv' := [(4, .int (μ.1 0 10)), (3, .int (nI dl)), (0, .ref 0), (1, .int 1), (2, .int (nB ow))]) (st' := [.ref 0, .ref 0]) (μ' := z_ui (z_ui (z_ui (z_ui μ 0 7 0) 0 14 ((μ.1 0 14) + 1)) 0 9 (nI dl)) 0 10 (μ.1 0 10)) (by rfl) ?_
        refine zq_gfi hc hH (by rfl) (ci := 5) (f := 11) (by rfl) (by decide +kernel) (by rfl) ?_
        rw [ui_k (by omega), ui_k (by omega), ui_k (by omega), ui_k (by omega)]
        refine z_rcs hc hH 2 (pc' := 132) (lv' := [(4, .int (μ.1 0 10)), (3, .int (nI dl)), (0, .ref 0), (1, .int 1), (2, .int (nB ow))]) (st' := [.int ((μ.1 0 11) + 1), .ref 0]) (μ' := z_ui (z_ui (z_ui (z_ui μ 0 7 0) 0 14 ((μ.1 0 14) + 1)) 0 9 (nI dl)) 0 10 (μ.1 0 10)) (by rfl) ?_
        refine zq_pfi hc hH (by rfl) (ci := 5) (f := 11) (by rfl) (by decide +kernel) (by rfl) ?_
        show Z 0 135 [(4, .int (μ.1 0 10)), (3, .int (nI dl)), (0, .ref 0), (1, .int 1), (2, .int (nB ow))] [] (z_ui (z_ui (z_ui (z_ui (z_ui μ 0 7 0) 0 14 ((μ.1 0 14) + 1)) 0 9 (nI dl)) 0 10 (μ.1 0 10)) 0 11 ((μ.1 0 11) + 1))
        exact hr 0 135 _ _ _ none (by decide +kernel) (by rfl) (⟨rfl, (by unfold eH1; simp only [h1, h2, h3, cond_true, cond_false])⟩)
      · have h3 : (ow) = true := nB_n.mp (cn_eq.mp h3)
        refine z_rcs hc hH 2 (pc' := 132) (lv' := [(4, .int (μ.1 0 10)), (3, .int (nI dl)), (0, .ref 0), (1, .int 1), (2, .int (nB ow))]) (st' := [.int 0, .ref 0]) (μ' := z_ui (z_ui (z_ui (z_ui μ 0 7 0) 0 14 ((μ.1 0 14) + 1)) 0 9 (nI dl)) 0 10 (μ.1 0 10)) (by rfl) ?_
        refine zq_pfi hc hH (by rfl) (ci := 5) (f := 11) (by rfl) (by decide +kernel) (by rfl) ?_
        show Z 0 135 [(4, .int (μ.1 0 10)), (3, .int (nI dl)), (0, .ref 0), (1, .int 1), (2, .int (nB ow))] [] (z_ui (z_ui (z_ui (z_ui (z_ui μ 0 7 0) 0 14 ((μ.1 0 14) + 1)) 0 9 (nI dl)) 0 10 (μ.1 0 10)) 0 11 0)
        exact hr 0 135 _ _ _ none (by decide +kernel) (by rfl) (⟨rfl, (by unfold eH1; simp only [h1, h2, h3, cond_true, cond_false])⟩)
    · have h2 : (decide ((μ.1 0 10) ≤ 1)) = false := decide_eq_false (cn_le.mp h2)
      refine z_rcs hc hH 2 (pc' := 73) (lv' := [(4, .int (μ.1 0 10)), (3, .int (nI dl)), (0, .ref 0), (1, .int 1), (2, .int (nB ow))]) (st' := [.int 1, .ref 0]) (μ' := z_ui (z_ui μ 0 7 0) 0 14 ((μ.1 0 14) + 1)) (by rfl) ?_
      refine zq_pfb hc hH (by rfl) (ci := 5) (f := 13) (by rfl) (by decide +kernel) (by rfl) (by decide) ?_
      show Z 0 76 [(4, .int (μ.1 0 10)), (3, .int (nI dl)), (0, .ref 0), (1, .int 1), (2, .int (nB ow))] [] (z_ui (z_ui (z_ui μ 0 7 0) 0 14 ((μ.1 0 14) + 1)) 0 13 1)
      refine z_rcs hc hH 2 (pc' := 78) (lv' := [(4, .int (μ.1 0 10)), (3, .int (nI dl)), (0, .ref 0), (1, .int 1), (2, .int (nB ow))]) (st' := [.ref 0, .ref 0]) (μ' := z_ui (z_ui (z_ui μ 0 7 0) 0 14 ((μ.1 0 14) + 1)) 0 13 1) (by rfl) ?_
      refine zq_call hc (by rfl) (gc_rich d' (by omega) (z_ui (z_ui (z_ui μ 0 7 0) 0 14 ((μ.1 0 14) + 1)) 0 13 1) b hb) (by decide +kernel) (fun r9 μ9 hq => ?_)
      obtain ⟨hμ9, rfl⟩ := hq
      rw [hμ9]
      clear hμ9 μ9
      show Z 0 81 [(4, .int (μ.1 0 10)), (3, .int (nI dl)), (0, .ref 0), (1, .int 1), (2, .int (nB ow))] [.int (nI b), .ref 0] (z_ui (z_ui (z_ui μ 0 7 0) 0 14 ((μ.1 0 14) + 1)) 0 13 1)
      refine zq_call hc (by rfl) (gc_at4 d' (by omega) (z_ui (z_ui (z_ui μ 0 7 0) 0 14 ((μ.1 0 14) + 1)) 0 13 1) b hb4) (by decide +kernel) (fun r9 μ9 hq => ?_)
      obtain ⟨hμ9, rfl⟩ := hq
      rw [hμ9]
      clear hμ9 μ9
      show Z 0 84 [(4, .int (μ.1 0 10)), (3, .int (nI dl)), (0, .ref 0), (1, .int 1), (2, .int (nB ow))] [.ref (18 + 8 * b)] (z_ui (z_ui (z_ui μ 0 7 0) 0 14 ((μ.1 0 14) + 1)) 0 13 1)
      refine z_rcs hc hH 1 (pc' := 85) (lv' := [(4, .int (μ.1 0 10)), (3, .int (nI dl)), (0, .ref 0), (1, .int 1), (2, .int (nB ow))]) (st' := [.ref (18 + 8 * b), .ref (18 + 8 * b)]) (μ' := z_ui (z_ui (z_ui μ 0 7 0) 0 14 ((μ.1 0 14) + 1)) 0 13 1) (by rfl) ?_
      refine zq_gfi hc hH (by rfl) (ci := 1) (f := 4) (by rfl) (sj (P := fun i => okf 79 1 4 (18 + 8 * i)) hb4 (by decide +kernel)) (by rfl) ?_
      rw [ui_o (by omega), ui_o (by omega), ui_o (by omega)]
      refine z_rcs hc hH 1 (pc' := 89) (lv' := [(4, .int (μ.1 0 10)), (3, .int (nI dl)), (0, .ref 0), (1, .int 1), (2, .int (nB ow))]) (st' := [.ref 0, .int (μ.1 (18 + 8 * b) 4), .ref (18 + 8 * b)]) (μ' := z_ui (z_ui (z_ui μ 0 7 0) 0 14 ((μ.1 0 14) + 1)) 0 13 1) (by rfl) ?_
      refine zq_gfi hc hH (by rfl) (ci := 5) (f := 12) (by rfl) (by decide +kernel) (by rfl) ?_
      rw [ui_k (by omega), ui_k (by omega), ui_k (by omega)]
      refine z_rcs hc hH 3 (pc' := 97) (lv' := [(4, .int (μ.1 0 10)), (3, .int (nI dl)), (0, .ref 0), (1, .int 1), (2, .int (nB ow))]) (st' := [.int ((μ.1 (18 + 8 * b) 4) + ((μ.1 0 12) * 1000)), .ref (18 + 8 * b)]) (μ' := z_ui (z_ui (z_ui μ 0 7 0) 0 14 ((μ.1 0 14) + 1)) 0 13 1) (by rfl) ?_
      refine zq_pfi hc hH (by rfl) (ci := 1) (f := 4) (by rfl) (sj (P := fun i => okf 79 1 4 (18 + 8 * i)) hb4 (by decide +kernel)) (by rfl) ?_
      show Z 0 100 [(4, .int (μ.1 0 10)), (3, .int (nI dl)), (0, .ref 0), (1, .int 1), (2, .int (nB ow))] [] (z_ui (z_ui (z_ui (z_ui μ 0 7 0) 0 14 ((μ.1 0 14) + 1)) 0 13 1) (18 + 8 * b) 4 ((μ.1 (18 + 8 * b) 4) + ((μ.1 0 12) * 1000)))
      refine z_rcs hc hH 2 (pc' := 102) (lv' := [(4, .int (μ.1 0 10)), (3, .int (nI dl)), (0, .ref 0), (1, .int 1), (2, .int (nB ow))]) (st' := [.int 0, .ref 0]) (μ' := z_ui (z_ui (z_ui (z_ui μ 0 7 0) 0 14 ((μ.1 0 14) + 1)) 0 13 1) (18 + 8 * b) 4 ((μ.1 (18 + 8 * b) 4) + ((μ.1 0 12) * 1000))) (by rfl) ?_
      refine zq_pfi hc hH (by rfl) (ci := 5) (f := 12) (by rfl) (by decide +kernel) (by rfl) ?_
      show Z 0 105 [(4, .int (μ.1 0 10)), (3, .int (nI dl)), (0, .ref 0), (1, .int 1), (2, .int (nB ow))] [] (z_ui (z_ui (z_ui (z_ui (z_ui μ 0 7 0) 0 14 ((μ.1 0 14) + 1)) 0 13 1) (18 + 8 * b) 4 ((μ.1 (18 + 8 * b) 4) + ((μ.1 0 12) * 1000))) 0 12 0)
      exact hr 0 105 _ _ _ none (by decide +kernel) (by rfl) (⟨rfl, (by unfold eH1; simp only [h1, h2, cond_true, cond_false])⟩)

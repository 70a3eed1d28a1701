/-! the game: run of the class -/
set_option maxRecDepth 8000
theorem kn_nn {a b : Nat} (ha : a < 2147483648) (hb : b < 2147483648) (h : b ≤ a) : decide (nI a < nI b) = false := decide_eq_false (by rw [Int32.lt_iff_toInt_lt, nI_toInt ha, nI_toInt hb]; omega)
theorem kn_ln {a b : Nat} (ha : a < 2147483648) (hb : b < 2147483648) (h : a < b) : decide (nI a < nI b) = true := decide_eq_true (by rw [Int32.lt_iff_toInt_lt, nI_toInt ha, nI_toInt hb]; omega)
theorem gc_run (d : Nat) (hd : 11 ≤ d) (μ : zM) (s q l : Nat) (hs4 : s < 4) (hq3 : q ≤ 3) (e4 : μ.1 (19 + 8 * s) 4 = nI q) (hl : l + 2 ≤ 33) (ham : l + zl 0 ≤ 33) (t c u1 u2 u3 : Nat) (c1 c2 c3 : Bool) (ht4 : t < 4) (ht : μ.1 0 8 = nI t) (hc34 : c < 34) (hc15 : μ.1 0 15 = nI c) (hu1 : (t + 1) % 4 = u1) (hu14 : u1 < 4) (hw1 : ∀ μ1, TE μ μ1 → ∀ d, 6 ≤ d → z_C d mi_X3_waitsFor [.ref (19 + 8 * u1), .int (nI c)] μ1 (zR μ1 (.int (nB c1)))) (hu2 : (t + 2) % 4 = u2) (hu24 : u2 < 4) (hw2 : ∀ μ1, TE μ μ1 → ∀ d, 6 ≤ d → z_C d mi_X3_waitsFor [.ref (19 + 8 * u2), .int (nI c)] μ1 (zR μ1 (.int (nB c2)))) (hu3 : (t + 3) % 4 = u3) (hu34 : u3 < 4) (hw3 : ∀ μ1, TE μ μ1 → ∀ d, 6 ≤ d → z_C d mi_X3_waitsFor [.ref (19 + 8 * u3), .int (nI c)] μ1 (zR μ1 (.int (nB c3)))) (mc : Bool) (hmc : ∀ d, 3 ≤ d → z_C d mi_X6_mayClaimSet [.ref 0, .int (nI s)] μ (zR μ (.int (nB mc)))) (sr : Bool) (hsr : ∀ d, 1 ≤ d → z_C d mi_X6_startsRun [.int (nI l)] μ (zR μ (.int (nB sr)))) (oe : Int64) (hoe : ∀ d, 2 ≤ d → z_C d mi_X6_otherEnd [.ref 0, .int (nI l)] μ (zR μ (.long oe))) (ko : Bool) (hko : ∀ d, 3 ≤ d → z_C d mi_X6_keepsOther [.ref (19 + 8 * s), .long ((7 <<< ((nI l).toInt64 &&& 63)) &&& ((1 <<< ((nI c).toInt64 &&& 63)) ^^^ (-1))), .long ((1 <<< ((nI c).toInt64 &&& 63)) ||| oe)] μ (zR μ (.int (nB ko)))) : z_C d mi_X6_run [.ref 0, .int (nI s), .int (nI l)] μ (fun r μ' => r = some ((bif mc then (bif decide ((nI s) = (nI u1)) then (bif sr then (bif decide ((nI c) < (nI l)) then .int 0 else (bif decide ((nI c) ≤ (nI (l + 2))) then (bif decide ((nI l) = (nI c)) then (bif decide ((nI (l + 1)) = (nI c)) then (bif decide ((nI (l + 2)) = (nI c)) then (bif ko then .int 1 else .int 0) else (bif decide ((μ.1 (20 + 8 * s) (l + 2)) = 0) then .int 0 else (bif ko then .int 1 else .int 0))) else (bif decide ((μ.1 (20 + 8 * s) (l + 1)) = 0) then .int 0 else (bif decide ((nI (l + 2)) = (nI c)) then (bif ko then .int 1 else .int 0) else (bif decide ((μ.1 (20 + 8 * s) (l + 2)) = 0) then .int 0 else (bif ko then .int 1 else .int 0))))) else (bif decide ((μ.1 (20 + 8 * s) l) = 0) then .int 0 else (bif decide ((nI (l + 1)) = (nI c)) then (bif decide ((nI (l + 2)) = (nI c)) then (bif ko then .int 1 else .int 0) else (bif decide ((μ.1 (20 + 8 * s) (l + 2)) = 0) then .int 0 else (bif ko then .int 1 else .int 0))) else (bif decide ((μ.1 (20 + 8 * s) (l + 1)) = 0) then .int 0 else (bif decide ((nI (l + 2)) = (nI c)) then (bif ko then .int 1 else .int 0) else (bif decide ((μ.1 (20 + 8 * s) (l + 2)) = 0) then .int 0 else (bif ko then .int 1 else .int 0))))))) else .int 0)) else .int 0) else .int 0) else .int 0)) ∧ μ' = (bif mc then (bif decide ((nI s) = (nI u1)) then (bif sr then (bif decide ((nI c) < (nI l)) then μ else (bif decide ((nI c) ≤ (nI (l + 2))) then (bif decide ((nI l) = (nI c)) then (bif decide ((nI (l + 1)) = (nI c)) then (bif decide ((nI (l + 2)) = (nI c)) then (bif ko then z_uj (tkS μ s l q 0 t c u1 u2 u3 c1 c2 c3) 0 18 ((1 <<< ((nI c).toInt64 &&& 63)) ||| oe) else μ) else (bif decide ((μ.1 (20 + 8 * s) (l + 2)) = 0) then μ else (bif ko then z_uj (tkS μ s l q 0 t c u1 u2 u3 c1 c2 c3) 0 18 ((1 <<< ((nI c).toInt64 &&& 63)) ||| oe) else μ))) else (bif decide ((μ.1 (20 + 8 * s) (l + 1)) = 0) then μ else (bif decide ((nI (l + 2)) = (nI c)) then (bif ko then z_uj (tkS μ s l q 0 t c u1 u2 u3 c1 c2 c3) 0 18 ((1 <<< ((nI c).toInt64 &&& 63)) ||| oe) else μ) else (bif decide ((μ.1 (20 + 8 * s) (l + 2)) = 0) then μ else (bif ko then z_uj (tkS μ s l q 0 t c u1 u2 u3 c1 c2 c3) 0 18 ((1 <<< ((nI c).toInt64 &&& 63)) ||| oe) else μ))))) else (bif decide ((μ.1 (20 + 8 * s) l) = 0) then μ else (bif decide ((nI (l + 1)) = (nI c)) then (bif decide ((nI (l + 2)) = (nI c)) then (bif ko then z_uj (tkS μ s l q 0 t c u1 u2 u3 c1 c2 c3) 0 18 ((1 <<< ((nI c).toInt64 &&& 63)) ||| oe) else μ) else (bif decide ((μ.1 (20 + 8 * s) (l + 2)) = 0) then μ else (bif ko then z_uj (tkS μ s l q 0 t c u1 u2 u3 c1 c2 c3) 0 18 ((1 <<< ((nI c).toInt64 &&& 63)) ||| oe) else μ))) else (bif decide ((μ.1 (20 + 8 * s) (l + 1)) = 0) then μ else (bif decide ((nI (l + 2)) = (nI c)) then (bif ko then z_uj (tkS μ s l q 0 t c u1 u2 u3 c1 c2 c3) 0 18 ((1 <<< ((nI c).toInt64 &&& 63)) ||| oe) else μ) else (bif decide ((μ.1 (20 + 8 * s) (l + 2)) = 0) then μ else (bif ko then z_uj (tkS μ s l q 0 t c u1 u2 u3 c1 c2 c3) 0 18 ((1 <<< ((nI c).toInt64 &&& 63)) ||| oe) else μ))))))) else μ)) else μ) else μ) else μ)) := by
  refine z_C_in (by decide) (by omega) (fun d' Z ed hc hr => ?_)
  have hH : zH mi_X6_run zc_X6_run 79 6 6 := ⟨by rfl, by rfl, by rfl, by rfl⟩
  refine z_rcs hc hH 2 (pc' := 2) (lv' := [(0, .ref 0), (1, .int (nI s)), (2, .int (nI l))]) (st' := [.int (nI s), .ref 0]) (μ' := μ) (by rfl) ?_
  refine zq_call hc (by rfl) (hmc d' (by omega)) (by decide +kernel) (fun r9 μ9 hq => ?_)
  obtain ⟨hμ9, rfl⟩ := hq
  rw [hμ9]
  clear hμ9 μ9
  show Z 0 5 [(0, .ref 0), (1, .int (nI s)), (2, .int (nI l))] [.int (nB mc)] μ
  refine zq_if hc hH (by rfl) (tg := 27) (by rfl) (fun h1 => ?_) (fun h1 => ?_)
  · have h1 : (mc) = false := nB_z.mp (cm_eq9.mp h1)
    refine z_rcs hc hH 1 (pc' := 28) (lv' := [(0, .ref 0), (1, .int (nI s)), (2, .int (nI l))]) (st' := [.int 0]) (μ' := μ) (by rfl) ?_
    exact hr 0 28 _ _ _ (some (.int 0)) (by decide +kernel) (by rfl) (⟨(by first | rfl | simp only [h1, cond_true, cond_false]), (by simp only [h1, cond_true, cond_false])⟩)
  · have h1 : (mc) = true := nB_n.mp (cn_eq.mp h1)
    refine z_rcs hc hH 2 (pc' := 10) (lv' := [(0, .ref 0), (1, .int (nI s)), (2, .int (nI l))]) (st' := [.ref 0, .int (nI s)]) (μ' := μ) (by rfl) ?_
    refine zq_gfi hc hH (by rfl) (ci := 5) (f := 8) (by rfl) (by decide +kernel) (by rfl) ?_
    rw [ht]
    refine z_rcs hc hH 2 (pc' := 15) (lv' := [(0, .ref 0), (1, .int (nI s)), (2, .int (nI l))]) (st' := [.int ((nI t) + 1), .int (nI s)]) (μ' := μ) (by rfl) ?_
    rw [nI_s1]
    refine z_rcs hc hH 2 (pc' := 17) (lv' := [(0, .ref 0), (1, .int (nI s)), (2, .int (nI l))]) (st' := [.int ((nI (t + 1)) &&& 3), .int (nI s)]) (μ' := μ) (by rfl) ?_
    rw [show nI (t + 1) &&& 3 = nI u1 from by rw [and3 (by omega), hu1]]
    refine zq_ic hc hH (by rfl) (tg := 27) (by rfl) (fun h2 => ?_) (fun h2 => ?_)
    · have h2 : (decide ((nI s) = (nI u1))) = false := decide_eq_false (cm_ne.mp h2)
      refine z_rcs hc hH 1 (pc' := 28) (lv' := [(0, .ref 0), (1, .int (nI s)), (2, .int (nI l))]) (st' := [.int 0]) (μ' := μ) (by rfl) ?_
      exact hr 0 28 _ _ _ (some (.int 0)) (by decide +kernel) (by rfl) (⟨(by first | rfl | simp only [h1, h2, cond_true, cond_false]), (by simp only [h1, h2, cond_true, cond_false])⟩)
    · have h2 : (decide ((nI s) = (nI u1))) = true := decide_eq_true (cn_ne.mp h2)
      refine z_rcs hc hH 1 (pc' := 21) (lv' := [(0, .ref 0), (1, .int (nI s)), (2, .int (nI l))]) (st' := [.int (nI l)]) (μ' := μ) (by rfl) ?_
      refine zq_call hc (by rfl) (hsr d' (by omega)) (by decide +kernel) (fun r9 μ9 hq => ?_)
      obtain ⟨hμ9, rfl⟩ := hq
      rw [hμ9]
      clear hμ9 μ9
      show Z 0 24 [(0, .ref 0), (1, .int (nI s)), (2, .int (nI l))] [.int (nB sr)] μ
      refine zq_if hc hH (by rfl) (tg := 29) (by rfl) (fun h3 => ?_) (fun h3 => ?_)
      · have h3 : (sr) = true := nB_n.mp (cm_ne.mp h3)
        refine z_rcs hc hH 1 (pc' := 30) (lv' := [(0, .ref 0), (1, .int (nI s)), (2, .int (nI l))]) (st' := [.ref 0]) (μ' := μ) (by rfl) ?_
        refine zq_gfi hc hH (by rfl) (ci := 5) (f := 15) (by rfl) (by decide +kernel) (by rfl) ?_
        rw [hc15]
        refine z_rcs hc hH 1 (pc' := 34) (lv' := [(0, .ref 0), (1, .int (nI s)), (2, .int (nI l))]) (st' := [.int (nI l), .int (nI c)]) (μ' := μ) (by rfl) ?_
        refine zq_ic hc hH (by rfl) (tg := 47) (by rfl) (fun h4 => ?_) (fun h4 => ?_)
        · have h4 : (decide ((nI c) < (nI l))) = true := decide_eq_true (cm_lt.mp h4)
          refine z_rcs hc hH 1 (pc' := 48) (lv' := [(0, .ref 0), (1, .int (nI s)), (2, .int (nI l))]) (st' := [.int 0]) (μ' := μ) (by rfl) ?_
          exact hr 0 48 _ _ _ (some (.int 0)) (by decide +kernel) (by rfl) (⟨(by first | rfl | simp only [h1, h2, h3, h4, cond_true, cond_false]), (by simp only [h1, h2, h3, h4, cond_true, cond_false])⟩)
        · have h4 : (decide ((nI c) < (nI l))) = false := decide_eq_false (cn_lt.mp h4)
          refine z_rcs hc hH 1 (pc' := 38) (lv' := [(0, .ref 0), (1, .int (nI s)), (2, .int (nI l))]) (st' := [.ref 0]) (μ' := μ) (by rfl) ?_
          refine zq_gfi hc hH (by rfl) (ci := 5) (f := 15) (by rfl) (by decide +kernel) (by rfl) ?_
          rw [hc15]
          refine z_rcs hc hH 3 (pc' := 44) (lv' := [(0, .ref 0), (1, .int (nI s)), (2, .int (nI l))]) (st' := [.int ((nI l) + 2), .int (nI c)]) (μ' := μ) (by rfl) ?_
          rw [show nI l + 2 = nI (l + 2) from by rw [show (2 : Int32) = nI 2 from rfl, nI_add]]
          refine zq_ic hc hH (by rfl) (tg := 49) (by rfl) (fun h5 => ?_) (fun h5 => ?_)
          · have h5 : (decide ((nI c) ≤ (nI (l + 2)))) = true := decide_eq_true (cm_le.mp h5)
            refine z_rcs hc hH 2 (pc' := 51) (lv' := [(0, .ref 0), (1, .int (nI s)), (2, .int (nI l))]) (st' := [.int (nI s), .ref 0]) (μ' := μ) (by rfl) ?_
            refine zq_call hc (by rfl) (gc_at4 d' (by omega) μ s hs4) (by decide +kernel) (fun r9 μ9 hq => ?_)
            obtain ⟨hμ9, rfl⟩ := hq
            rw [hμ9]
            clear hμ9 μ9
            show Z 0 54 [(0, .ref 0), (1, .int (nI s)), (2, .int (nI l))] [.ref (18 + 8 * s)] μ
            refine zq_gfr hc hH (by rfl) (ci := 1) (f := 0) (q := 19 + 8 * s) (by rfl) (sj (P := fun i => okf 79 1 0 (18 + 8 * i)) hs4 (by decide +kernel)) (by rfl) (sj (P := fun i => Nat.beq (z_gr (18 + 8 * i) 0) (19 + 8 * i)) hs4 (by decide +kernel)) ?_
            refine zq_gfr hc hH (by rfl) (ci := 2) (f := 0) (q := 20 + 8 * s) (by rfl) (sj (P := fun i => okf 79 2 0 (19 + 8 * i)) hs4 (by decide +kernel)) (by rfl) (sj (P := fun i => Nat.beq (z_gr (19 + 8 * i) 0) (20 + 8 * i)) hs4 (by decide +kernel)) ?_
            refine z_rcs hc hH 7 (pc' := 69) (lv' := [(4, .int (nI l)), (3, .ref (20 + 8 * s)), (0, .ref 0), (1, .int (nI s)), (2, .int (nI l))]) (st' := [.int ((nI l) + 2), .int (nI l)]) (μ' := μ) (by rfl) ?_
            rw [show nI l + 2 = nI (l + 2) from by rw [show (2 : Int32) = nI 2 from rfl, nI_add]]
            refine zq_ic hc hH (by rfl) (tg := 96) (by rfl) (fun h6 => ?_) (fun h6 => ?_)
            · have h6 : (decide ((nI (l + 2)) < (nI l))) = true := decide_eq_true (cm_gt.mp h6)
              exact absurd (Eq.trans (Eq.symm (kn_nn (by omega) (by omega) (by omega))) h6) (by decide)
            · have h6 : (decide ((nI (l + 2)) < (nI l))) = false := decide_eq_false (cn_gt.mp h6)
              refine z_rcs hc hH 2 (pc' := 75) (lv' := [(4, .int (nI l)), (3, .ref (20 + 8 * s)), (0, .ref 0), (1, .int (nI s)), (2, .int (nI l))]) (st' := [.ref 0, .int (nI l)]) (μ' := μ) (by rfl) ?_
              refine zq_gfi hc hH (by rfl) (ci := 5) (f := 15) (by rfl) (by decide +kernel) (by rfl) ?_
              rw [hc15]
              refine zq_ic hc hH (by rfl) (tg := 90) (by rfl) (fun h7 => ?_) (fun h7 => ?_)
              · have h7 : (decide ((nI l) = (nI c))) = true := decide_eq_true (cm_eq9.mp h7)
                refine z_rcs hc hH 3 (pc' := 66) (lv' := [(4, .int ((nI l) + 1)), (3, .ref (20 + 8 * s)), (0, .ref 0), (1, .int (nI s)), (2, .int (nI l))]) (st' := [.int ((nI l) + 1)]) (μ' := μ) (by rfl) ?_
                rw [show nI l + 1 = nI (l + 1) from by rw [show (1 : Int32) = nI 1 from rfl, nI_add]]
                refine z_rcs hc hH 3 (pc' := 69) (lv' := [(4, .int (nI (l + 1))), (3, .ref (20 + 8 * s)), (0, .ref 0), (1, .int (nI s)), (2, .int (nI l))]) (st' := [.int ((nI l) + 2), .int (nI (l + 1))]) (μ' := μ) (by rfl) ?_
                rw [show nI l + 2 = nI (l + 2) from by rw [show (2 : Int32) = nI 2 from rfl, nI_add]]
                refine zq_ic hc hH (by rfl) (tg := 96) (by rfl) (fun h8 => ?_) (fun h8 => ?_)
                · have h8 : (decide ((nI (l + 2)) < (nI (l + 1)))) = true := decide_eq_true (cm_gt.mp h8)
                  exact absurd (Eq.trans (Eq.symm (kn_nn (by omega) (by omega) (by omega))) h8) (by decide)
                · have h8 : (decide ((nI (l + 2)) < (nI (l + 1)))) = false := decide_eq_false (cn_gt.mp h8)
                  refine z_rcs hc hH 2 (pc' := 75) (lv' := [(4, .int (nI (l + 1))), (3, .ref (20 + 8 * s)), (0, .ref 0), (1, .int (nI s)), (2, .int (nI l))]) (st' := [.ref 0, .int (nI (l + 1))]) (μ' := μ) (by rfl) ?_
                  refine zq_gfi hc hH (by rfl) (ci := 5) (f := 15) (by rfl) (by decide +kernel) (by rfl) ?_
                  rw [hc15]
                  refine zq_ic hc hH (by rfl) (tg := 90) (by rfl) (fun h9 => ?_) (fun h9 => ?_)
                  · have h9 : (decide ((nI (l + 1)) = (nI c))) = true := decide_eq_true (cm_eq9.mp h9)
                    refine z_rcs hc hH 3 (pc' := 66) (lv' := [(4, .int ((nI (l + 1)) + 1)), (3, .ref (20 + 8 * s)), (0, .ref 0), (1, .int (nI s)), (2, .int (nI l))]) (st' := [.int ((nI (l + 1)) + 1)]) (μ' := μ) (by rfl) ?_
                    rw [show nI (l + 1) + 1 = nI (l + 2) from nI_s1 _]
                    refine z_rcs hc hH 3 (pc' := 69) (lv' := [(4, .int (nI (l + 2))), (3, .ref (20 + 8 * s)), (0, .ref 0), (1, .int (nI s)), (2, .int (nI l))]) (st' := [.int ((nI l) + 2), .int (nI (l + 2))]) (μ' := μ) (by rfl) ?_
                    rw [show nI l + 2 = nI (l + 2) from by rw [show (2 : Int32) = nI 2 from rfl, nI_add]]
                    refine zq_ic hc hH (by rfl) (tg := 96) (by rfl) (fun h10 => ?_) (fun h10 => ?_)
                    · have h10 : (decide ((nI (l + 2)) < (nI (l + 2)))) = true := decide_eq_true (cm_gt.mp h10)
                      exact absurd (Eq.trans (Eq.symm (kn_nn (by omega) (by omega) (by omega))) h10) (by decide)
                    · have h10 : (decide ((nI (l + 2)) < (nI (l + 2)))) = false := decide_eq_false (cn_gt.mp h10)
                      refine z_rcs hc hH 2 (pc' := 75) (lv' := [(4, .int (nI (l + 2))), (3, .ref (20 + 8 * s)), (0, .ref 0), (1, .int (nI s)), (2, .int (nI l))]) (st' := [.ref 0, .int (nI (l + 2))]) (μ' := μ) (by rfl) ?_
                      refine zq_gfi hc hH (by rfl) (ci := 5) (f := 15) (by rfl) (by decide +kernel) (by rfl) ?_
                      rw [hc15]
                      refine zq_ic hc hH (by rfl) (tg := 90) (by rfl) (fun h11 => ?_) (fun h11 => ?_)
                      · have h11 : (decide ((nI (l + 2)) = (nI c))) = true := decide_eq_true (cm_eq9.mp h11)
                        refine z_rcs hc hH 3 (pc' := 66) (lv' := [(4, .int ((nI (l + 2)) + 1)), (3, .ref (20 + 8 * s)), (0, .ref 0), (1, .int (nI s)), (2, .int (nI l))]) (st' := [.int ((nI (l + 2)) + 1)]) (μ' := μ) (by rfl) ?_
                        rw [show nI (l + 2) + 1 = nI (l + 3) from nI_s1 _]
                        refine z_rcs hc hH 3 (pc' := 69) (lv' := [(4, .int (nI (l + 3))), (3, .ref (20 + 8 * s)), (0, .ref 0), (1, .int (nI s)), (2, .int (nI l))]) (st' := [.int ((nI l) + 2), .int (nI (l + 3))]) (μ' := μ) (by rfl) ?_
                        rw [show nI l + 2 = nI (l + 2) from by rw [show (2 : Int32) = nI 2 from rfl, nI_add]]
                        refine zq_ic hc hH (by rfl) (tg := 96) (by rfl) (fun h12 => ?_) (fun h12 => ?_)
                        · have h12 : (decide ((nI (l + 2)) < (nI (l + 3)))) = true := decide_eq_true (cm_gt.mp h12)
                          refine z_rcs hc hH 2 (pc' := 98) (lv' := [(4, .int (nI (l + 3))), (3, .ref (20 + 8 * s)), (0, .ref 0), (1, .int (nI s)), (2, .int (nI l))]) (st' := [.ref 0, .long 1]) (μ' := μ) (by rfl) ?_
                          refine zq_gfi hc hH (by rfl) (ci := 5) (f := 15) (by rfl) (by decide +kernel) (by rfl) ?_
                          rw [hc15]
                          refine z_rcs hc hH 3 (pc' := 104) (lv' := [(4, .int (nI (l + 3))), (3, .ref (20 + 8 * s)), (0, .ref 0), (1, .int (nI s)), (2, .int (nI l))]) (st' := [.int (nI l), .ref 0, .long (1 <<< ((nI c).toInt64 &&& 63))]) (μ' := μ) (by rfl) ?_
                          refine zq_call hc (by rfl) (hoe d' (by omega)) (by decide +kernel) (fun r9 μ9 hq => ?_)
                          obtain ⟨hμ9, rfl⟩ := hq
                          rw [hμ9]
                          clear hμ9 μ9
                          show Z 0 107 [(4, .int (nI (l + 3))), (3, .ref (20 + 8 * s)), (0, .ref 0), (1, .int (nI s)), (2, .int (nI l))] [.long oe, .long (1 <<< ((nI c).toInt64 &&& 63))] μ
                          refine z_rcs hc hH 4 (pc' := 112) (lv' := [(4, .long ((1 <<< ((nI c).toInt64 &&& 63)) ||| oe)), (3, .ref (20 + 8 * s)), (0, .ref 0), (1, .int (nI s)), (2, .int (nI l))]) (st' := [.int (nI s), .ref 0]) (μ' := μ) (by rfl) ?_
                          refine zq_call hc (by rfl) (gc_at4 d' (by omega) μ s hs4) (by decide +kernel) (fun r9 μ9 hq => ?_)
                          obtain ⟨hμ9, rfl⟩ := hq
                          rw [hμ9]
                          clear hμ9 μ9
                          show Z 0 115 [(4, .long ((1 <<< ((nI c).toInt64 &&& 63)) ||| oe)), (3, .ref (20 + 8 * s)), (0, .ref 0), (1, .int (nI s)), (2, .int (nI l))] [.ref (18 + 8 * s)] μ
                          refine zq_gfr hc hH (by rfl) (ci := 1) (f := 0) (q := 19 + 8 * s) (by rfl) (sj (P := fun i => okf 79 1 0 (18 + 8 * i)) hs4 (by decide +kernel)) (by rfl) (sj (P := fun i => Nat.beq (z_gr (18 + 8 * i) 0) (19 + 8 * i)) hs4 (by decide +kernel)) ?_
                          refine z_rcs hc hH 5 (pc' := 125) (lv' := [(4, .long ((1 <<< ((nI c).toInt64 &&& 63)) ||| oe)), (3, .ref (20 + 8 * s)), (0, .ref 0), (1, .int (nI s)), (2, .int (nI l))]) (st' := [.ref 0, .long 1, .long (7 <<< ((nI l).toInt64 &&& 63)), .ref (19 + 8 * s)]) (μ' := μ) (by rfl) ?_
                          refine zq_gfi hc hH (by rfl) (ci := 5) (f := 15) (by rfl) (by decide +kernel) (by rfl) ?_
                          rw [hc15]
                          refine z_rcs hc hH 5 (pc' := 136) (lv' := [(4, .long ((1 <<< ((nI c).toInt64 &&& 63)) ||| oe)), (3, .ref (20 + 8 * s)), (0, .ref 0), (1, .int (nI s)), (2, .int (nI l))]) (st' := [.long ((1 <<< ((nI c).toInt64 &&& 63)) ||| oe), .long ((7 <<< ((nI l).toInt64 &&& 63)) &&& ((1 <<< ((nI c).toInt64 &&& 63)) ^^^ (-1))), .ref (19 + 8 * s)]) (μ' := μ) (by rfl) ?_
                          refine zq_call hc (by rfl) (hko d' (by omega)) (by decide +kernel) (fun r9 μ9 hq => ?_)
                          obtain ⟨hμ9, rfl⟩ := hq
                          rw [hμ9]
                          clear hμ9 μ9
                          show Z 0 139 [(4, .long ((1 <<< ((nI c).toInt64 &&& 63)) ||| oe)), (3, .ref (20 + 8 * s)), (0, .ref 0), (1, .int (nI s)), (2, .int (nI l))] [.int (nB ko)] μ
                          refine zq_if hc hH (by rfl) (tg := 144) (by rfl) (fun h13 => ?_) (fun h13 => ?_)
                          · have h13 : (ko) = true := nB_n.mp (cm_ne.mp h13)
                            refine z_rcs hc hH 4 (pc' := 148) (lv' := [(4, .long ((1 <<< ((nI c).toInt64 &&& 63)) ||| oe)), (3, .ref (20 + 8 * s)), (0, .ref 0), (1, .int (nI s)), (2, .int (nI l))]) (st' := [.int (nI l), .int 0, .int (nI s), .ref 0]) (μ' := μ) (by rfl) ?_
                            refine zq_call hc (by rfl) (gc_takeSet d' (by omega) μ s l q 0 hs4 ham hq3 e4 t c u1 u2 u3 c1 c2 c3 ht4 ht hc34 hc15 hu1 hu14 hw1 hu2 hu24 hw2 hu3 hu34 hw3) (by decide +kernel) (fun r9 μ9 hq => ?_)
                            obtain ⟨rfl, rfl⟩ := hq
                            show Z 0 151 [(4, .long ((1 <<< ((nI c).toInt64 &&& 63)) ||| oe)), (3, .ref (20 + 8 * s)), (0, .ref 0), (1, .int (nI s)), (2, .int (nI l))] [] (tkS μ s l q 0 t c u1 u2 u3 c1 c2 c3)
                            refine z_rcs hc hH 2 (pc' := 154) (lv' := [(4, .long ((1 <<< ((nI c).toInt64 &&& 63)) ||| oe)), (3, .ref (20 + 8 * s)), (0, .ref 0), (1, .int (nI s)), (2, .int (nI l))]) (st' := [.long ((1 <<< ((nI c).toInt64 &&& 63)) ||| oe), .ref 0]) (μ' := tkS μ s l q 0 t c u1 u2 u3 c1 c2 c3) (by rfl) ?_
                            refine zq_pfl hc hH (by rfl) (ci := 5) (f := 18) (by rfl) (by decide +kernel) (by rfl) ?_
                            show Z 0 157 [(4, .long ((1 <<< ((nI c).toInt64 &&& 63)) ||| oe)), (3, .ref (20 + 8 * s)), (0, .ref 0), (1, .int (nI s)), (2, .int (nI l))] [] (z_uj (tkS μ s l q 0 t c u1 u2 u3 c1 c2 c3) 0 18 ((1 <<< ((nI c).toInt64 &&& 63)) ||| oe))
                            refine z_rcs hc hH 1 (pc' := 158) (lv' := [(4, .long ((1 <<< ((nI c).toInt64 &&& 63)) ||| oe)), (3, .ref (20 + 8 * s)), (0, .ref 0), (1, .int (nI s)), (2, .int (nI l))]) (st' := [.int 1]) (μ' := z_uj (tkS μ s l q 0 t c u1 u2 u3 c1 c2 c3) 0 18 ((1 <<< ((nI c).toInt64 &&& 63)) ||| oe)) (by rfl) ?_
                            exact hr 0 158 _ _ _ (some (.int 1)) (by decide +kernel) (by rfl) (⟨(by first | rfl | simp only [h1, h2, h3, h4, h5, h7, h9, h11, h13, cond_true, cond_false]), (by simp only [h1, h2, h3, h4, h5, h7, h9, h11, h13, cond_true, cond_false])⟩)
                          · have h13 : (ko) = false := nB_z.mp (cn_ne.mp h13)
                            refine z_rcs hc hH 1 (pc' := 143) (lv' := [(4, .long ((1 <<< ((nI c).toInt64 &&& 63)) ||| oe)), (3, .ref (20 + 8 * s)), (0, .ref 0), (1, .int (nI s)), (2, .int (nI l))]) (st' := [.int 0]) (μ' := μ) (by rfl) ?_
                            exact hr 0 143 _ _ _ (some (.int 0)) (by decide +kernel) (by rfl) (⟨(by first | rfl | simp only [h1, h2, h3, h4, h5, h7, h9, h11, h13, cond_true, cond_false]), (by simp only [h1, h2, h3, h4, h5, h7, h9, h11, h13, cond_true, cond_false])⟩)
                        · have h12 : (decide ((nI (l + 2)) < (nI (l + 3)))) = false := decide_eq_false (cn_gt.mp h12)
                          exact absurd (Eq.trans (Eq.symm (kn_ln (by omega) (by omega) (by omega))) h12) (by decide)
                      · have h11 : (decide ((nI (l + 2)) = (nI c))) = false := decide_eq_false (cn_eq.mp h11)
                        refine z_rcs hc hH 2 (pc' := 84) (lv' := [(4, .int (nI (l + 2))), (3, .ref (20 + 8 * s)), (0, .ref 0), (1, .int (nI s)), (2, .int (nI l))]) (st' := [.int (nI (l + 2)), .ref (20 + 8 * s)]) (μ' := μ) (by rfl) ?_
                        refine zq_iald hc hH (by rfl) 34 (oka_i (sj (P := fun i => oka 79 1 34 (20 + 8 * i)) hs4 (by decide +kernel))) (vp_in_nI (by omega) (by decide)) ?_
                        rw [nI_clamp (by omega)]
                        refine zq_if hc hH (by rfl) (tg := 90) (by rfl) (fun h14 => ?_) (fun h14 => ?_)
                        · have h14 : (decide ((μ.1 (20 + 8 * s) (l + 2)) = 0)) = false := decide_eq_false (cm_ne.mp h14)
                          refine z_rcs hc hH 3 (pc' := 66) (lv' := [(4, .int ((nI (l + 2)) + 1)), (3, .ref (20 + 8 * s)), (0, .ref 0), (1, .int (nI s)), (2, .int (nI l))]) (st' := [.int ((nI (l + 2)) + 1)]) (μ' := μ) (by rfl) ?_
                          rw [show nI (l + 2) + 1 = nI (l + 3) from nI_s1 _]
                          refine z_rcs hc hH 3 (pc' := 69) (lv' := [(4, .int (nI (l + 3))), (3, .ref (20 + 8 * s)), (0, .ref 0), (1, .int (nI s)), (2, .int (nI l))]) (st' := [.int ((nI l) + 2), .int (nI (l + 3))]) (μ' := μ) (by rfl) ?_
                          rw [show nI l + 2 = nI (l + 2) from by rw [show (2 : Int32) = nI 2 from rfl, nI_add]]
                          refine zq_ic hc hH (by rfl) (tg := 96) (by rfl) (fun h15 => ?_) (fun h15 => ?_)
                          · have h15 : (decide ((nI (l + 2)) < (nI (l + 3)))) = true := decide_eq_true (cm_gt.mp h15)
                            refine z_rcs hc hH 2 (pc' := 98) (lv' := [(4, .int (nI (l + 3))), (3, .ref (20 + 8 * s)), (0, .ref 0), (1, .int (nI s)), (2, .int (nI l))]) (st' := [.ref 0, .long 1]) (μ' := μ) (by rfl) ?_
                            refine zq_gfi hc hH (by rfl) (ci := 5) (f := 15) (by rfl) (by decide +kernel) (by rfl) ?_
                            rw [hc15]
                            refine z_rcs hc hH 3 (pc' := 104) (lv' := [(4, .int (nI (l + 3))), (3, .ref (20 + 8 * s)), (0, .ref 0), (1, .int (nI s)), (2, .int (nI l))]) (st' := [.int (nI l), .ref 0, .long (1 <<< ((nI c).toInt64 &&& 63))]) (μ' := μ) (by rfl) ?_
                            refine zq_call hc (by rfl) (hoe d' (by omega)) (by decide +kernel) (fun r9 μ9 hq => ?_)
                            obtain ⟨hμ9, rfl⟩ := hq
                            rw [hμ9]
                            clear hμ9 μ9
                            show Z 0 107 [(4, .int (nI (l + 3))), (3, .ref (20 + 8 * s)), (0, .ref 0), (1, .int (nI s)), (2, .int (nI l))] [.long oe, .long (1 <<< ((nI c).toInt64 &&& 63))] μ
                            refine z_rcs hc hH 4 (pc' := 112) (lv' := [(4, .long ((1 <<< ((nI c).toInt64 &&& 63)) ||| oe)), (3, .ref (20 + 8 * s)), (0, .ref 0), (1, .int (nI s)), (2, .int (nI l))]) (st' := [.int (nI s), .ref 0]) (μ' := μ) (by rfl) ?_
                            refine zq_call hc (by rfl) (gc_at4 d' (by omega) μ s hs4) (by decide +kernel) (fun r9 μ9 hq => ?_)
                            obtain ⟨hμ9, rfl⟩ := hq
                            rw [hμ9]
                            clear hμ9 μ9
                            show Z 0 115 [(4, .long ((1 <<< ((nI c).toInt64 &&& 63)) ||| oe)), (3, .ref (20 + 8 * s)), (0, .ref 0), (1, .int (nI s)), (2, .int (nI l))] [.ref (18 + 8 * s)] μ
                            refine zq_gfr hc hH (by rfl) (ci := 1) (f := 0) (q := 19 + 8 * s) (by rfl) (sj (P := fun i => okf 79 1 0 (18 + 8 * i)) hs4 (by decide +kernel)) (by rfl) (sj (P := fun i => Nat.beq (z_gr (18 + 8 * i) 0) (19 + 8 * i)) hs4 (by decide +kernel)) ?_
                            refine z_rcs hc hH 5 (pc' := 125) (lv' := [(4, .long ((1 <<< ((nI c).toInt64 &&& 63)) ||| oe)), (3, .ref (20 + 8 * s)), (0, .ref 0), (1, .int (nI s)), (2, .int (nI l))]) (st' := [.ref 0, .long 1, .long (7 <<< ((nI l).toInt64 &&& 63)), .ref (19 + 8 * s)]) (μ' := μ) (by rfl) ?_
                            refine zq_gfi hc hH (by rfl) (ci := 5) (f := 15) (by rfl) (by decide +kernel) (by rfl) ?_
                            rw [hc15]
                            refine z_rcs hc hH 5 (pc' := 136) (lv' := [(4, .long ((1 <<< ((nI c).toInt64 &&& 63)) ||| oe)), (3, .ref (20 + 8 * s)), (0, .ref 0), (1, .int (nI s)), (2, .int (nI l))]) (st' := [.long ((1 <<< ((nI c).toInt64 &&& 63)) ||| oe), .long ((7 <<< ((nI l).toInt64 &&& 63)) &&& ((1 <<< ((nI c).toInt64 &&& 63)) ^^^ (-1))), .ref (19 + 8 * s)]) (μ' := μ) (by rfl) ?_
                            refine zq_call hc (by rfl) (hko d' (by omega)) (by decide +kernel) (fun r9 μ9 hq => ?_)
                            obtain ⟨hμ9, rfl⟩ := hq
                            rw [hμ9]
                            clear hμ9 μ9
                            show Z 0 139 [(4, .long ((1 <<< ((nI c).toInt64 &&& 63)) ||| oe)), (3, .ref (20 + 8 * s)), (0, .ref 0), (1, .int (nI s)), (2, .int (nI l))] [.int (nB ko)] μ
                            refine zq_if hc hH (by rfl) (tg := 144) (by rfl) (fun h16 => ?_) (fun h16 => ?_)
                            · have h16 : (ko) = true := nB_n.mp (cm_ne.mp h16)
                              refine z_rcs hc hH 4 (pc' := 148) (lv' := [(4, .long ((1 <<< ((nI c).toInt64 &&& 63)) ||| oe)), (3, .ref (20 + 8 * s)), (0, .ref 0), (1, .int (nI s)), (2, .int (nI l))]) (st' := [.int (nI l), .int 0, .int (nI s), .ref 0]) (μ' := μ) (by rfl) ?_
                              refine zq_call hc (by rfl) (gc_takeSet d' (by omega) μ s l q 0 hs4 ham hq3 e4 t c u1 u2 u3 c1 c2 c3 ht4 ht hc34 hc15 hu1 hu14 hw1 hu2 hu24 hw2 hu3 hu34 hw3) (by decide +kernel) (fun r9 μ9 hq => ?_)
                              obtain ⟨rfl, rfl⟩ := hq
                              show Z 0 151 [(4, .long ((1 <<< ((nI c).toInt64 &&& 63)) ||| oe)), (3, .ref (20 + 8 * s)), (0, .ref 0), (1, .int (nI s)), (2, .int (nI l))] [] (tkS μ s l q 0 t c u1 u2 u3 c1 c2 c3)
                              refine z_rcs hc hH 2 (pc' := 154) (lv' := [(4, .long ((1 <<< ((nI c).toInt64 &&& 63)) ||| oe)), (3, .ref (20 + 8 * s)), (0, .ref 0), (1, .int (nI s)), (2, .int (nI l))]) (st' := [.long ((1 <<< ((nI c).toInt64 &&& 63)) ||| oe), .ref 0]) (μ' := tkS μ s l q 0 t c u1 u2 u3 c1 c2 c3) (by rfl) ?_
                              refine zq_pfl hc hH (by rfl) (ci := 5) (f := 18) (by rfl) (by decide +kernel) (by rfl) ?_
                              show Z 0 157 [(4, .long ((1 <<< ((nI c).toInt64 &&& 63)) ||| oe)), (3, .ref (20 + 8 * s)), (0, .ref 0), (1, .int (nI s)), (2, .int (nI l))] [] (z_uj (tkS μ s l q 0 t c u1 u2 u3 c1 c2 c3) 0 18 ((1 <<< ((nI c).toInt64 &&& 63)) ||| oe))
                              refine z_rcs hc hH 1 (pc' := 158) (lv' := [(4, .long ((1 <<< ((nI c).toInt64 &&& 63)) ||| oe)), (3, .ref (20 + 8 * s)), (0, .ref 0), (1, .int (nI s)), (2, .int (nI l))]) (st' := [.int 1]) (μ' := z_uj (tkS μ s l q 0 t c u1 u2 u3 c1 c2 c3) 0 18 ((1 <<< ((nI c).toInt64 &&& 63)) ||| oe)) (by rfl) ?_
                              exact hr 0 158 _ _ _ (some (.int 1)) (by decide +kernel) (by rfl) (⟨(by first | rfl | simp only [h1, h2, h3, h4, h5, h7, h9, h11, h14, h16, cond_true, cond_false]), (by simp only [h1, h2, h3, h4, h5, h7, h9, h11, h14, h16, cond_true, cond_false])⟩)
                            · have h16 : (ko) = false := nB_z.mp (cn_ne.mp h16)
                              refine z_rcs hc hH 1 (pc' := 143) (lv' := [(4, .long ((1 <<< ((nI c).toInt64 &&& 63)) ||| oe)), (3, .ref (20 + 8 * s)), (0, .ref 0), (1, .int (nI s)), (2, .int (nI l))]) (st' := [.int 0]) (μ' := μ) (by rfl) ?_
                              exact hr 0 143 _ _ _ (some (.int 0)) (by decide +kernel) (by rfl) (⟨(by first | rfl | simp only [h1, h2, h3, h4, h5, h7, h9, h11, h14, h16, cond_true, cond_false]), (by simp only [h1, h2, h3, h4, h5, h7, h9, h11, h14, h16, cond_true, cond_false])⟩)
                          · have h15 : (decide ((nI (l + 2)) < (nI (l + 3)))) = false := decide_eq_false (cn_gt.mp h15)
                            exact absurd (Eq.trans (Eq.symm (kn_ln (by omega) (by omega) (by omega))) h15) (by decide)
                        · have h14 : (decide ((μ.1 (20 + 8 * s) (l + 2)) = 0)) = true := decide_eq_true (cn_ne.mp h14)
                          refine z_rcs hc hH 1 (pc' := 89) (lv' := [(4, .int (nI (l + 2))), (3, .ref (20 + 8 * s)), (0, .ref 0), (1, .int (nI s)), (2, .int (nI l))]) (st' := [.int 0]) (μ' := μ) (by rfl) ?_
                          exact hr 0 89 _ _ _ (some (.int 0)) (by decide +kernel) (by rfl) (⟨(by first | rfl | simp only [h1, h2, h3, h4, h5, h7, h9, h11, h14, cond_true, cond_false]), (by simp only [h1, h2, h3, h4, h5, h7, h9, h11, h14, cond_true, cond_false])⟩)
                  · have h9 : (decide ((nI (l + 1)) = (nI c))) = false := decide_eq_false (cn_eq.mp h9)
                    refine z_rcs hc hH 2 (pc' := 84) (lv' := [(4, .int (nI (l + 1))), (3, .ref (20 + 8 * s)), (0, .ref 0), (1, .int (nI s)), (2, .int (nI l))]) (st' := [.int (nI (l + 1)), .ref (20 + 8 * s)]) (μ' := μ) (by rfl) ?_
                    refine zq_iald hc hH (by rfl) 34 (oka_i (sj (P := fun i => oka 79 1 34 (20 + 8 * i)) hs4 (by decide +kernel))) (vp_in_nI (by omega) (by decide)) ?_
                    rw [nI_clamp (by omega)]
                    refine zq_if hc hH (by rfl) (tg := 90) (by rfl) (fun h17 => ?_) (fun h17 => ?_)
                    · have h17 : (decide ((μ.1 (20 + 8 * s) (l + 1)) = 0)) = false := decide_eq_false (cm_ne.mp h17)
                      refine z_rcs hc hH 3 (pc' := 66) (lv' := [(4, .int ((nI (l + 1)) + 1)), (3, .ref (20 + 8 * s)), (0, .ref 0), (1, .int (nI s)), (2, .int (nI l))]) (st' := [.int ((nI (l + 1)) + 1)]) (μ' := μ) (by rfl) ?_
                      rw [show nI (l + 1) + 1 = nI (l + 2) from nI_s1 _]
                      refine z_rcs hc hH 3 (pc' := 69) (lv' := [(4, .int (nI (l + 2))), (3, .ref (20 + 8 * s)), (0, .ref 0), (1, .int (nI s)), (2, .int (nI l))]) (st' := [.int ((nI l) + 2), .int (nI (l + 2))]) (μ' := μ) (by rfl) ?_
                      rw [show nI l + 2 = nI (l + 2) from by rw [show (2 : Int32) = nI 2 from rfl, nI_add]]
                      refine zq_ic hc hH (by rfl) (tg := 96) (by rfl) (fun h18 => ?_) (fun h18 => ?_)
                      · have h18 : (decide ((nI (l + 2)) < (nI (l + 2)))) = true := decide_eq_true (cm_gt.mp h18)
                        exact absurd (Eq.trans (Eq.symm (kn_nn (by omega) (by omega) (by omega))) h18) (by decide)
                      · have h18 : (decide ((nI (l + 2)) < (nI (l + 2)))) = false := decide_eq_false (cn_gt.mp h18)
                        refine z_rcs hc hH 2 (pc' := 75) (lv' := [(4, .int (nI (l + 2))), (3, .ref (20 + 8 * s)), (0, .ref 0), (1, .int (nI s)), (2, .int (nI l))]) (st' := [.ref 0, .int (nI (l + 2))]) (μ' := μ) (by rfl) ?_
                        refine zq_gfi hc hH (by rfl) (ci := 5) (f := 15) (by rfl) (by decide +kernel) (by rfl) ?_
                        rw [hc15]
                        refine zq_ic hc hH (by rfl) (tg := 90) (by rfl) (fun h19 => ?_) (fun h19 => ?_)
                        · have h19 : (decide ((nI (l + 2)) = (nI c))) = true := decide_eq_true (cm_eq9.mp h19)
                          refine z_rcs hc hH 3 (pc' := 66) (lv' := [(4, .int ((nI (l + 2)) + 1)), (3, .ref (20 + 8 * s)), (0, .ref 0), (1, .int (nI s)), (2, .int (nI l))]) (st' := [.int ((nI (l + 2)) + 1)]) (μ' := μ) (by rfl) ?_
                          rw [show nI (l + 2) + 1 = nI (l + 3) from nI_s1 _]
                          refine z_rcs hc hH 3 (pc' := 69) (lv' := [(4, .int (nI (l + 3))), (3, .ref (20 + 8 * s)), (0, .ref 0), (1, .int (nI s)), (2, .int (nI l))]) (st' := [.int ((nI l) + 2), .int (nI (l + 3))]) (μ' := μ) (by rfl) ?_
                          rw [show nI l + 2 = nI (l + 2) from by rw [show (2 : Int32) = nI 2 from rfl, nI_add]]
                          refine zq_ic hc hH (by rfl) (tg := 96) (by rfl) (fun h20 => ?_) (fun h20 => ?_)
                          · have h20 : (decide ((nI (l + 2)) < (nI (l + 3)))) = true := decide_eq_true (cm_gt.mp h20)
                            refine z_rcs hc hH 2 (pc' := 98) (lv' := [(4, .int (nI (l + 3))), (3, .ref (20 + 8 * s)), (0, .ref 0), (1, .int (nI s)), (2, .int (nI l))]) (st' := [.ref 0, .long 1]) (μ' := μ) (by rfl) ?_
                            refine zq_gfi hc hH (by rfl) (ci := 5) (f := 15) (by rfl) (by decide +kernel) (by rfl) ?_
                            rw [hc15]
                            refine z_rcs hc hH 3 (pc' := 104) (lv' := [(4, .int (nI (l + 3))), (3, .ref (20 + 8 * s)), (0, .ref 0), (1, .int (nI s)), (2, .int (nI l))]) (st' := [.int (nI l), .ref 0, .long (1 <<< ((nI c).toInt64 &&& 63))]) (μ' := μ) (by rfl) ?_
                            refine zq_call hc (by rfl) (hoe d' (by omega)) (by decide +kernel) (fun r9 μ9 hq => ?_)
                            obtain ⟨hμ9, rfl⟩ := hq
                            rw [hμ9]
                            clear hμ9 μ9
                            show Z 0 107 [(4, .int (nI (l + 3))), (3, .ref (20 + 8 * s)), (0, .ref 0), (1, .int (nI s)), (2, .int (nI l))] [.long oe, .long (1 <<< ((nI c).toInt64 &&& 63))] μ
                            refine z_rcs hc hH 4 (pc' := 112) (lv' := [(4, .long ((1 <<< ((nI c).toInt64 &&& 63)) ||| oe)), (3, .ref (20 + 8 * s)), (0, .ref 0), (1, .int (nI s)), (2, .int (nI l))]) (st' := [.int (nI s), .ref 0]) (μ' := μ) (by rfl) ?_
                            refine zq_call hc (by rfl) (gc_at4 d' (by omega) μ s hs4) (by decide +kernel) (fun r9 μ9 hq => ?_)
                            obtain ⟨hμ9, rfl⟩ := hq
                            rw [hμ9]
                            clear hμ9 μ9
                            show Z 0 115 [(4, .long ((1 <<< ((nI c).toInt64 &&& 63)) ||| oe)), (3, .ref (20 + 8 * s)), (0, .ref 0), (1, .int (nI s)), (2, .int (nI l))] [.ref (18 + 8 * s)] μ
                            refine zq_gfr hc hH (by rfl) (ci := 1) (f := 0) (q := 19 + 8 * s) (by rfl) (sj (P := fun i => okf 79 1 0 (18 + 8 * i)) hs4 (by decide +kernel)) (by rfl) (sj (P := fun i => Nat.beq (z_gr (18 + 8 * i) 0) (19 + 8 * i)) hs4 (by decide +kernel)) ?_
                            refine z_rcs hc hH 5 (pc' := 125) (lv' := [(4, .long ((1 <<< ((nI c).toInt64 &&& 63)) ||| oe)), (3, .ref (20 + 8 * s)), (0, .ref 0), (1, .int (nI s)), (2, .int (nI l))]) (st' := [.ref 0, .long 1, .long (7 <<< ((nI l).toInt64 &&& 63)), .ref (19 + 8 * s)]) (μ' := μ) (by rfl) ?_
                            refine zq_gfi hc hH (by rfl) (ci := 5) (f := 15) (by rfl) (by decide +kernel) (by rfl) ?_
                            rw [hc15]
                            refine z_rcs hc hH 5 (pc' := 136) (lv' := [(4, .long ((1 <<< ((nI c).toInt64 &&& 63)) ||| oe)), (3, .ref (20 + 8 * s)), (0, .ref 0), (1, .int (nI s)), (2, .int (nI l))]) (st' := [.long ((1 <<< ((nI c).toInt64 &&& 63)) ||| oe), .long ((7 <<< ((nI l).toInt64 &&& 63)) &&& ((1 <<< ((nI c).toInt64 &&& 63)) ^^^ (-1))), .ref (19 + 8 * s)]) (μ' := μ) (by rfl) ?_
                            refine zq_call hc (by rfl) (hko d' (by omega)) (by decide +kernel) (fun r9 μ9 hq => ?_)
                            obtain ⟨hμ9, rfl⟩ := hq
                            rw [hμ9]
                            clear hμ9 μ9
                            show Z 0 139 [(4, .long ((1 <<< ((nI c).toInt64 &&& 63)) ||| oe)), (3, .ref (20 + 8 * s)), (0, .ref 0), (1, .int (nI s)), (2, .int (nI l))] [.int (nB ko)] μ
                            refine zq_if hc hH (by rfl) (tg := 144) (by rfl) (fun h21 => ?_) (fun h21 => ?_)
                            · have h21 : (ko) = true := nB_n.mp (cm_ne.mp h21)
                              refine z_rcs hc hH 4 (pc' := 148) (lv' := [(4, .long ((1 <<< ((nI c).toInt64 &&& 63)) ||| oe)), (3, .ref (20 + 8 * s)), (0, .ref 0), (1, .int (nI s)), (2, .int (nI l))]) (st' := [.int (nI l), .int 0, .int (nI s), .ref 0]) (μ' := μ) (by rfl) ?_
                              refine zq_call hc (by rfl) (gc_takeSet d' (by omega) μ s l q 0 hs4 ham hq3 e4 t c u1 u2 u3 c1 c2 c3 ht4 ht hc34 hc15 hu1 hu14 hw1 hu2 hu24 hw2 hu3 hu34 hw3) (by decide +kernel) (fun r9 μ9 hq => ?_)
                              obtain ⟨rfl, rfl⟩ := hq
                              show Z 0 151 [(4, .long ((1 <<< ((nI c).toInt64 &&& 63)) ||| oe)), (3, .ref (20 + 8 * s)), (0, .ref 0), (1, .int (nI s)), (2, .int (nI l))] [] (tkS μ s l q 0 t c u1 u2 u3 c1 c2 c3)
                              refine z_rcs hc hH 2 (pc' := 154) (lv' := [(4, .long ((1 <<< ((nI c).toInt64 &&& 63)) ||| oe)), (3, .ref (20 + 8 * s)), (0, .ref 0), (1, .int (nI s)), (2, .int (nI l))]) (st' := [.long ((1 <<< ((nI c).toInt64 &&& 63)) ||| oe), .ref 0]) (μ' := tkS μ s l q 0 t c u1 u2 u3 c1 c2 c3) (by rfl) ?_
                              refine zq_pfl hc hH (by rfl) (ci := 5) (f := 18) (by rfl) (by decide +kernel) (by rfl) ?_
                              show Z 0 157 [(4, .long ((1 <<< ((nI c).toInt64 &&& 63)) ||| oe)), (3, .ref (20 + 8 * s)), (0, .ref 0), (1, .int (nI s)), (2, .int (nI l))] [] (z_uj (tkS μ s l q 0 t c u1 u2 u3 c1 c2 c3) 0 18 ((1 <<< ((nI c).toInt64 &&& 63)) ||| oe))
                              refine z_rcs hc hH 1 (pc' := 158) (lv' := [(4, .long ((1 <<< ((nI c).toInt64 &&& 63)) ||| oe)), (3, .ref (20 + 8 * s)), (0, .ref 0), (1, .int (nI s)), (2, .int (nI l))]) (st' := [.int 1]) (μ' := z_uj (tkS μ s l q 0 t c u1 u2 u3 c1 c2 c3) 0 18 ((1 <<< ((nI c).toInt64 &&& 63)) ||| oe)) (by rfl) ?_
                              exact hr 0 158 _ _ _ (some (.int 1)) (by decide +kernel) (by rfl) (⟨(by first | rfl | simp only [h1, h2, h3, h4, h5, h7, h9, h17, h19, h21, cond_true, cond_false]), (by simp only [h1, h2, h3, h4, h5, h7, h9, h17, h19, h21, cond_true, cond_false])⟩)
                            · have h21 : (ko) = false := nB_z.mp (cn_ne.mp h21)
                              refine z_rcs hc hH 1 (pc' := 143) (lv' := [(4, .long ((1 <<< ((nI c).toInt64 &&& 63)) ||| oe)), (3, .ref (20 + 8 * s)), (0, .ref 0), (1, .int (nI s)), (2, .int (nI l))]) (st' := [.int 0]) (μ' := μ) (by rfl) ?_
                              exact hr 0 143 _ _ _ (some (.int 0)) (by decide +kernel) (by rfl) (⟨(by first | rfl | simp only [h1, h2, h3, h4, h5, h7, h9, h17, h19, h21, cond_true, cond_false]), (by simp only [h1, h2, h3, h4, h5, h7, h9, h17, h19, h21, cond_true, cond_false])⟩)
                          · have h20 : (decide ((nI (l + 2)) < (nI (l + 3)))) = false := decide_eq_false (cn_gt.mp h20)
                            exact absurd (Eq.trans (Eq.symm (kn_ln (by omega) (by omega) (by omega))) h20) (by decide)
                        · have h19 : (decide ((nI (l + 2)) = (nI c))) = false := decide_eq_false (cn_eq.mp h19)
                          refine z_rcs hc hH 2 (pc' := 84) (lv' := [(4, .int (nI (l + 2))), (3, .ref (20 + 8 * s)), (0, .ref 0), (1, .int (nI s)), (2, .int (nI l))]) (st' := [.int (nI (l + 2)), .ref (20 + 8 * s)]) (μ' := μ) (by rfl) ?_
                          refine zq_iald hc hH (by rfl) 34 (oka_i (sj (P := fun i => oka 79 1 34 (20 + 8 * i)) hs4 (by decide +kernel))) (vp_in_nI (by omega) (by decide)) ?_
                          rw [nI_clamp (by omega)]
                          refine zq_if hc hH (by rfl) (tg := 90) (by rfl) (fun h22 => ?_) (fun h22 => ?_)
                          · have h22 : (decide ((μ.1 (20 + 8 * s) (l + 2)) = 0)) = false := decide_eq_false (cm_ne.mp h22)
                            refine z_rcs hc hH 3 (pc' := 66) (lv' := [(4, .int ((nI (l + 2)) + 1)), (3, .ref (20 + 8 * s)), (0, .ref 0), (1, .int (nI s)), (2, .int (nI l))]) (st' := [.int ((nI (l + 2)) + 1)]) (μ' := μ) (by rfl) ?_
                            rw [show nI (l + 2) + 1 = nI (l + 3) from nI_s1 _]
                            refine z_rcs hc hH 3 (pc' := 69) (lv' := [(4, .int (nI (l + 3))), (3, .ref (20 + 8 * s)), (0, .ref 0), (1, .int (nI s)), (2, .int (nI l))]) (st' := [.int ((nI l) + 2), .int (nI (l + 3))]) (μ' := μ) (by rfl) ?_
                            rw [show nI l + 2 = nI (l + 2) from by rw [show (2 : Int32) = nI 2 from rfl, nI_add]]
                            refine zq_ic hc hH (by rfl) (tg := 96) (by rfl) (fun h23 => ?_) (fun h23 => ?_)
                            · have h23 : (decide ((nI (l + 2)) < (nI (l + 3)))) = true := decide_eq_true (cm_gt.mp h23)
                              refine z_rcs hc hH 2 (pc' := 98) (lv' := [(4, .int (nI (l + 3))), (3, .ref (20 + 8 * s)), (0, .ref 0), (1, .int (nI s)), (2, .int (nI l))]) (st' := [.ref 0, .long 1]) (μ' := μ) (by rfl) ?_
                              refine zq_gfi hc hH (by rfl) (ci := 5) (f := 15) (by rfl) (by decide +kernel) (by rfl) ?_
                              rw [hc15]
                              refine z_rcs hc hH 3 (pc' := 104) (lv' := [(4, .int (nI (l + 3))), (3, .ref (20 + 8 * s)), (0, .ref 0), (1, .int (nI s)), (2, .int (nI l))]) (st' := [.int (nI l), .ref 0, .long (1 <<< ((nI c).toInt64 &&& 63))]) (μ' := μ) (by rfl) ?_
                              refine zq_call hc (by rfl) (hoe d' (by omega)) (by decide +kernel) (fun r9 μ9 hq => ?_)
                              obtain ⟨hμ9, rfl⟩ := hq
                              rw [hμ9]
                              clear hμ9 μ9
                              show Z 0 107 [(4, .int (nI (l + 3))), (3, .ref (20 + 8 * s)), (0, .ref 0), (1, .int (nI s)), (2, .int (nI l))] [.long oe, .long (1 <<< ((nI c).toInt64 &&& 63))] μ
                              refine z_rcs hc hH 4 (pc' := 112) (lv' := [(4, .long ((1 <<< ((nI c).toInt64 &&& 63)) ||| oe)), (3, .ref (20 + 8 * s)), (0, .ref 0), (1, .int (nI s)), (2, .int (nI l))]) (st' := [.int (nI s), .ref 0]) (μ' := μ) (by rfl) ?_
                              refine zq_call hc (by rfl) (gc_at4 d' (by omega) μ s hs4) (by decide +kernel) (fun r9 μ9 hq => ?_)
                              obtain ⟨hμ9, rfl⟩ := hq
                              rw [hμ9]
                              clear hμ9 μ9
                              show Z 0 115 [(4, .long ((1 <<< ((nI c).toInt64 &&& 63)) ||| oe)), (3, .ref (20 + 8 * s)), (0, .ref 0), (1, .int (nI s)), (2, .int (nI l))] [.ref (18 + 8 * s)] μ
                              refine zq_gfr hc hH (by rfl) (ci := 1) (f := 0) (q := 19 + 8 * s) (by rfl) (sj (P := fun i => okf 79 1 0 (18 + 8 * i)) hs4 (by decide +kernel)) (by rfl) (sj (P := fun i => Nat.beq (z_gr (18 + 8 * i) 0) (19 + 8 * i)) hs4 (by decide +kernel)) ?_
                              refine z_rcs hc hH 5 (pc' := 125) (lv' := [(4, .long ((1 <<< ((nI c).toInt64 &&& 63)) ||| oe)), (3, .ref (20 + 8 * s)), (0, .ref 0), (1, .int (nI s)), (2, .int (nI l))]) (st' := [.ref 0, .long 1, .long (7 <<< ((nI l).toInt64 &&& 63)), .ref (19 + 8 * s)]) (μ' := μ) (by rfl) ?_
                              refine zq_gfi hc hH (by rfl) (ci := 5) (f := 15) (by rfl) (by decide +kernel) (by rfl) ?_
                              rw [hc15]
                              refine z_rcs hc hH 5 (pc' := 136) (lv' := [(4, .long ((1 <<< ((nI c).toInt64 &&& 63)) ||| oe)), (3, .ref (20 + 8 * s)), (0, .ref 0), (1, .int (nI s)), (2, .int (nI l))]) (st' := [.long ((1 <<< ((nI c).toInt64 &&& 63)) ||| oe), .long ((7 <<< ((nI l).toInt64 &&& 63)) &&& ((1 <<< ((nI c).toInt64 &&& 63)) ^^^ (-1))), .ref (19 + 8 * s)]) (μ' := μ) (by rfl) ?_
                              refine zq_call hc (by rfl) (hko d' (by omega)) (by decide +kernel) (fun r9 μ9 hq => ?_)
                              obtain ⟨hμ9, rfl⟩ := hq
                              rw [hμ9]
                              clear hμ9 μ9
                              show Z 0 139 [(4, .long ((1 <<< ((nI c).toInt64 &&& 63)) ||| oe)), (3, .ref (20 + 8 * s)), (0, .ref 0), (1, .int (nI s)), (2, .int (nI l))] [.int (nB ko)] μ
                              refine zq_if hc hH (by rfl) (tg := 144) (by rfl) (fun h24 => ?_) (fun h24 => ?_)
                              · have h24 : (ko) = true := nB_n.mp (cm_ne.mp h24)
                                refine z_rcs hc hH 4 (pc' := 148) (lv' := [(4, .long ((1 <<< ((nI c).toInt64 &&& 63)) ||| oe)), (3, .ref (20 + 8 * s)), (0, .ref 0), (1, .int (nI s)), (2, .int (nI l))]) (st' := [.int (nI l), .int 0, .int (nI s), .ref 0]) (μ' := μ) (by rfl) ?_
                                refine zq_call hc (by rfl) (gc_takeSet d' (by omega) μ s l q 0 hs4 ham hq3 e4 t c u1 u2 u3 c1 c2 c3 ht4 ht hc34 hc15 hu1 hu14 hw1 hu2 hu24 hw2 hu3 hu34 hw3) (by decide +kernel) (fun r9 μ9 hq => ?_)
                                obtain ⟨rfl, rfl⟩ := hq
                                show Z 0 151 [(4, .long ((1 <<< ((nI c).toInt64 &&& 63)) ||| oe)), (3, .ref (20 + 8 * s)), (0, .ref 0), (1, .int (nI s)), (2, .int (nI l))] [] (tkS μ s l q 0 t c u1 u2 u3 c1 c2 c3)
                                refine z_rcs hc hH 2 (pc' := 154) (lv' := [(4, .long ((1 <<< ((nI c).toInt64 &&& 63)) ||| oe)), (3, .ref (20 + 8 * s)), (0, .ref 0), (1, .int (nI s)), (2, .int (nI l))]) (st' := [.long ((1 <<< ((nI c).toInt64 &&& 63)) ||| oe), .ref 0]) (μ' := tkS μ s l q 0 t c u1 u2 u3 c1 c2 c3) (by rfl) ?_
                                refine zq_pfl hc hH (by rfl) (ci := 5) (f := 18) (by rfl) (by decide +kernel) (by rfl) ?_
                                show Z 0 157 [(4, .long ((1 <<< ((nI c).toInt64 &&& 63)) ||| oe)), (3, .ref (20 + 8 * s)), (0, .ref 0), (1, .int (nI s)), (2, .int (nI l))] [] (z_uj (tkS μ s l q 0 t c u1 u2 u3 c1 c2 c3) 0 18 ((1 <<< ((nI c).toInt64 &&& 63)) ||| oe))
                                refine z_rcs hc hH 1 (pc' := 158) (lv' := [(4, .long ((1 <<< ((nI c).toInt64 &&& 63)) ||| oe)), (3, .ref (20 + 8 * s)), (0, .ref 0), (1, .int (nI s)), (2, .int (nI l))]) (st' := [.int 1]) (μ' := z_uj (tkS μ s l q 0 t c u1 u2 u3 c1 c2 c3) 0 18 ((1 <<< ((nI c).toInt64 &&& 63)) ||| oe)) (by rfl) ?_
                                exact hr 0 158 _ _ _ (some (.int 1)) (by decide +kernel) (by rfl) (⟨(by first | rfl | simp only [h1, h2, h3, h4, h5, h7, h9, h17, h19, h22, h24, cond_true, cond_false]), (by simp only [h1, h2, h3, h4, h5, h7, h9, h17, h19, h22, h24, cond_true, cond_false])⟩)
                              · have h24 : (ko) = false := nB_z.mp (cn_ne.mp h24)
                                refine z_rcs hc hH 1 (pc' := 143) (lv' := [(4, .long ((1 <<< ((nI c).toInt64 &&& 63)) ||| oe)), (3, .ref (20 + 8 * s)), (0, .ref 0), (1, .int (nI s)), (2, .int (nI l))]) (st' := [.int 0]) (μ' := μ) (by rfl) ?_
                                exact hr 0 143 _ _ _ (some (.int 0)) (by decide +kernel) (by rfl) (⟨(by first | rfl | simp only [h1, h2, h3, h4, h5, h7, h9, h17, h19, h22, h24, cond_true, cond_false]), (by simp only [h1, h2, h3, h4, h5, h7, h9, h17, h19, h22, h24, cond_true, cond_false])⟩)
                            · have h23 : (decide ((nI (l + 2)) < (nI (l + 3)))) = false := decide_eq_false (cn_gt.mp h23)
                              exact absurd (Eq.trans (Eq.symm (kn_ln (by omega) (by omega) (by omega))) h23) (by decide)
                          · have h22 : (decide ((μ.1 (20 + 8 * s) (l + 2)) = 0)) = true := decide_eq_true (cn_ne.mp h22)
                            refine z_rcs hc hH 1 (pc' := 89) (lv' := [(4, .int (nI (l + 2))), (3, .ref (20 + 8 * s)), (0, .ref 0), (1, .int (nI s)), (2, .int (nI l))]) (st' := [.int 0]) (μ' := μ) (by rfl) ?_
                            exact hr 0 89 _ _ _ (some (.int 0)) (by decide +kernel) (by rfl) (⟨(by first | rfl | simp only [h1, h2, h3, h4, h5, h7, h9, h17, h19, h22, cond_true, cond_false]), (by simp only [h1, h2, h3, h4, h5, h7, h9, h17, h19, h22, cond_true, cond_false])⟩)
                    · have h17 : (decide ((μ.1 (20 + 8 * s) (l + 1)) = 0)) = true := decide_eq_true (cn_ne.mp h17)
                      refine z_rcs hc hH 1 (pc' := 89) (lv' := [(4, .int (nI (l + 1))), (3, .ref (20 + 8 * s)), (0, .ref 0), (1, .int (nI s)), (2, .int (nI l))]) (st' := [.int 0]) (μ' := μ) (by rfl) ?_
                      exact hr 0 89 _ _ _ (some (.int 0)) (by decide +kernel) (by rfl) (⟨(by first | rfl | simp only [h1, h2, h3, h4, h5, h7, h9, h17, cond_true, cond_false]), (by simp only [h1, h2, h3, h4, h5, h7, h9, h17, cond_true, cond_false])⟩)
              · have h7 : (decide ((nI l) = (nI c))) = false := decide_eq_false (cn_eq.mp h7)
                refine z_rcs hc hH 2 (pc' := 84) (lv' := [(4, .int (nI l)), (3, .ref (20 + 8 * s)), (0, .ref 0), (1, .int (nI s)), (2, .int (nI l))]) (st' := [.int (nI l), .ref (20 + 8 * s)]) (μ' := μ) (by rfl) ?_
                refine zq_iald hc hH (by rfl) 34 (oka_i (sj (P := fun i => oka 79 1 34 (20 + 8 * i)) hs4 (by decide +kernel))) (vp_in_nI (by omega) (by decide)) ?_
                rw [nI_clamp (by omega)]
                refine zq_if hc hH (by rfl) (tg := 90) (by rfl) (fun h25 => ?_) (fun h25 => ?_)
                · have h25 : (decide ((μ.1 (20 + 8 * s) l) = 0)) = false := decide_eq_false (cm_ne.mp h25)
                  refine z_rcs hc hH 3 (pc' := 66) (lv' := [(4, .int ((nI l) + 1)), (3, .ref (20 + 8 * s)), (0, .ref 0), (1, .int (nI s)), (2, .int (nI l))]) (st' := [.int ((nI l) + 1)]) (μ' := μ) (by rfl) ?_
                  rw [show nI l + 1 = nI (l + 1) from by rw [show (1 : Int32) = nI 1 from rfl, nI_add]]
                  refine z_rcs hc hH 3 (pc' := 69) (lv' := [(4, .int (nI (l + 1))), (3, .ref (20 + 8 * s)), (0, .ref 0), (1, .int (nI s)), (2, .int (nI l))]) (st' := [.int ((nI l) + 2), .int (nI (l + 1))]) (μ' := μ) (by rfl) ?_
                  rw [show nI l + 2 = nI (l + 2) from by rw [show (2 : Int32) = nI 2 from rfl, nI_add]]
                  refine zq_ic hc hH (by rfl) (tg := 96) (by rfl) (fun h26 => ?_) (fun h26 => ?_)
                  · have h26 : (decide ((nI (l + 2)) < (nI (l + 1)))) = true := decide_eq_true (cm_gt.mp h26)
                    exact absurd (Eq.trans (Eq.symm (kn_nn (by omega) (by omega) (by omega))) h26) (by decide)
                  · have h26 : (decide ((nI (l + 2)) < (nI (l + 1)))) = false := decide_eq_false (cn_gt.mp h26)
                    refine z_rcs hc hH 2 (pc' := 75) (lv' := [(4, .int (nI (l + 1))), (3, .ref (20 + 8 * s)), (0, .ref 0), (1, .int (nI s)), (2, .int (nI l))]) (st' := [.ref 0, .int (nI (l + 1))]) (μ' := μ) (by rfl) ?_
                    refine zq_gfi hc hH (by rfl) (ci := 5) (f := 15) (by rfl) (by decide +kernel) (by rfl) ?_
                    rw [hc15]
                    refine zq_ic hc hH (by rfl) (tg := 90) (by rfl) (fun h27 => ?_) (fun h27 => ?_)
                    · have h27 : (decide ((nI (l + 1)) = (nI c))) = true := decide_eq_true (cm_eq9.mp h27)
                      refine z_rcs hc hH 3 (pc' := 66) (lv' := [(4, .int ((nI (l + 1)) + 1)), (3, .ref (20 + 8 * s)), (0, .ref 0), (1, .int (nI s)), (2, .int (nI l))]) (st' := [.int ((nI (l + 1)) + 1)]) (μ' := μ) (by rfl) ?_
                      rw [show nI (l + 1) + 1 = nI (l + 2) from nI_s1 _]
                      refine z_rcs hc hH 3 (pc' := 69) (lv' := [(4, .int (nI (l + 2))), (3, .ref (20 + 8 * s)), (0, .ref 0), (1, .int (nI s)), (2, .int (nI l))]) (st' := [.int ((nI l) + 2), .int (nI (l + 2))]) (μ' := μ) (by rfl) ?_
                      rw [show nI l + 2 = nI (l + 2) from by rw [show (2 : Int32) = nI 2 from rfl, nI_add]]
                      refine zq_ic hc hH (by rfl) (tg := 96) (by rfl) (fun h28 => ?_) (fun h28 => ?_)
                      · have h28 : (decide ((nI (l + 2)) < (nI (l + 2)))) = true := decide_eq_true (cm_gt.mp h28)
                        exact absurd (Eq.trans (Eq.symm (kn_nn (by omega) (by omega) (by omega))) h28) (by decide)
                      · have h28 : (decide ((nI (l + 2)) < (nI (l + 2)))) = false := decide_eq_false (cn_gt.mp h28)
                        refine z_rcs hc hH 2 (pc' := 75) (lv' := [(4, .int (nI (l + 2))), (3, .ref (20 + 8 * s)), (0, .ref 0), (1, .int (nI s)), (2, .int (nI l))]) (st' := [.ref 0, .int (nI (l + 2))]) (μ' := μ) (by rfl) ?_
                        refine zq_gfi hc hH (by rfl) (ci := 5) (f := 15) (by rfl) (by decide +kernel) (by rfl) ?_
                        rw [hc15]
                        refine zq_ic hc hH (by rfl) (tg := 90) (by rfl) (fun h29 => ?_) (fun h29 => ?_)
                        · have h29 : (decide ((nI (l + 2)) = (nI c))) = true := decide_eq_true (cm_eq9.mp h29)
                          refine z_rcs hc hH 3 (pc' := 66) (lv' := [(4, .int ((nI (l + 2)) + 1)), (3, .ref (20 + 8 * s)), (0, .ref 0), (1, .int (nI s)), (2, .int (nI l))]) (st' := [.int ((nI (l + 2)) + 1)]) (μ' := μ) (by rfl) ?_
                          rw [show nI (l + 2) + 1 = nI (l + 3) from nI_s1 _]
                          refine z_rcs hc hH 3 (pc' := 69) (lv' := [(4, .int (nI (l + 3))), (3, .ref (20 + 8 * s)), (0, .ref 0), (1, .int (nI s)), (2, .int (nI l))]) (st' := [.int ((nI l) + 2), .int (nI (l + 3))]) (μ' := μ) (by rfl) ?_
                          rw [show nI l + 2 = nI (l + 2) from by rw [show (2 : Int32) = nI 2 from rfl, nI_add]]
                          refine zq_ic hc hH (by rfl) (tg := 96) (by rfl) (fun h30 => ?_) (fun h30 => ?_)
                          · have h30 : (decide ((nI (l + 2)) < (nI (l + 3)))) = true := decide_eq_true (cm_gt.mp h30)
                            refine z_rcs hc hH 2 (pc' := 98) (lv' := [(4, .int (nI (l + 3))), (3, .ref (20 + 8 * s)), (0, .ref 0), (1, .int (nI s)), (2, .int (nI l))]) (st' := [.ref 0, .long 1]) (μ' := μ) (by rfl) ?_
                            refine zq_gfi hc hH (by rfl) (ci := 5) (f := 15) (by rfl) (by decide +kernel) (by rfl) ?_
                            rw [hc15]
                            refine z_rcs hc hH 3 (pc' := 104) (lv' := [(4, .int (nI (l + 3))), (3, .ref (20 + 8 * s)), (0, .ref 0), (1, .int (nI s)), (2, .int (nI l))]) (st' := [.int (nI l), .ref 0, .long (1 <<< ((nI c).toInt64 &&& 63))]) (μ' := μ) (by rfl) ?_
                            refine zq_call hc (by rfl) (hoe d' (by omega)) (by decide +kernel) (fun r9 μ9 hq => ?_)
                            obtain ⟨hμ9, rfl⟩ := hq
                            rw [hμ9]
                            clear hμ9 μ9
                            show Z 0 107 [(4, .int (nI (l + 3))), (3, .ref (20 + 8 * s)), (0, .ref 0), (1, .int (nI s)), (2, .int (nI l))] [.long oe, .long (1 <<< ((nI c).toInt64 &&& 63))] μ
                            refine z_rcs hc hH 4 (pc' := 112) (lv' := [(4, .long ((1 <<< ((nI c).toInt64 &&& 63)) ||| oe)), (3, .ref (20 + 8 * s)), (0, .ref 0), (1, .int (nI s)), (2, .int (nI l))]) (st' := [.int (nI s), .ref 0]) (μ' := μ) (by rfl) ?_
                            refine zq_call hc (by rfl) (gc_at4 d' (by omega) μ s hs4) (by decide +kernel) (fun r9 μ9 hq => ?_)
                            obtain ⟨hμ9, rfl⟩ := hq
                            rw [hμ9]
                            clear hμ9 μ9
                            show Z 0 115 [(4, .long ((1 <<< ((nI c).toInt64 &&& 63)) ||| oe)), (3, .ref (20 + 8 * s)), (0, .ref 0), (1, .int (nI s)), (2, .int (nI l))] [.ref (18 + 8 * s)] μ
                            refine zq_gfr hc hH (by rfl) (ci := 1) (f := 0) (q := 19 + 8 * s) (by rfl) (sj (P := fun i => okf 79 1 0 (18 + 8 * i)) hs4 (by decide +kernel)) (by rfl) (sj (P := fun i => Nat.beq (z_gr (18 + 8 * i) 0) (19 + 8 * i)) hs4 (by decide +kernel)) ?_
                            refine z_rcs hc hH 5 (pc' := 125) (lv' := [(4, .long ((1 <<< ((nI c).toInt64 &&& 63)) ||| oe)), (3, .ref (20 + 8 * s)), (0, .ref 0), (1, .int (nI s)), (2, .int (nI l))]) (st' := [.ref 0, .long 1, .long (7 <<< ((nI l).toInt64 &&& 63)), .ref (19 + 8 * s)]) (μ' := μ) (by rfl) ?_
                            refine zq_gfi hc hH (by rfl) (ci := 5) (f := 15) (by rfl) (by decide +kernel) (by rfl) ?_
                            rw [hc15]
                            refine z_rcs hc hH 5 (pc' := 136) (lv' := [(4, .long ((1 <<< ((nI c).toInt64 &&& 63)) ||| oe)), (3, .ref (20 + 8 * s)), (0, .ref 0), (1, .int (nI s)), (2, .int (nI l))]) (st' := [.long ((1 <<< ((nI c).toInt64 &&& 63)) ||| oe), .long ((7 <<< ((nI l).toInt64 &&& 63)) &&& ((1 <<< ((nI c).toInt64 &&& 63)) ^^^ (-1))), .ref (19 + 8 * s)]) (μ' := μ) (by rfl) ?_
                            refine zq_call hc (by rfl) (hko d' (by omega)) (by decide +kernel) (fun r9 μ9 hq => ?_)
                            obtain ⟨hμ9, rfl⟩ := hq
                            rw [hμ9]
                            clear hμ9 μ9
                            show Z 0 139 [(4, .long ((1 <<< ((nI c).toInt64 &&& 63)) ||| oe)), (3, .ref (20 + 8 * s)), (0, .ref 0), (1, .int (nI s)), (2, .int (nI l))] [.int (nB ko)] μ
                            refine zq_if hc hH (by rfl) (tg := 144) (by rfl) (fun h31 => ?_) (fun h31 => ?_)
                            · have h31 : (ko) = true := nB_n.mp (cm_ne.mp h31)
                              refine z_rcs hc hH 4 (pc' := 148) (lv' := [(4, .long ((1 <<< ((nI c).toInt64 &&& 63)) ||| oe)), (3, .ref (20 + 8 * s)), (0, .ref 0), (1, .int (nI s)), (2, .int (nI l))]) (st' := [.int (nI l), .int 0, .int (nI s), .ref 0]) (μ' := μ) (by rfl) ?_
                              refine zq_call hc (by rfl) (gc_takeSet d' (by omega) μ s l q 0 hs4 ham hq3 e4 t c u1 u2 u3 c1 c2 c3 ht4 ht hc34 hc15 hu1 hu14 hw1 hu2 hu24 hw2 hu3 hu34 hw3) (by decide +kernel) (fun r9 μ9 hq => ?_)
                              obtain ⟨rfl, rfl⟩ := hq
                              show Z 0 151 [(4, .long ((1 <<< ((nI c).toInt64 &&& 63)) ||| oe)), (3, .ref (20 + 8 * s)), (0, .ref 0), (1, .int (nI s)), (2, .int (nI l))] [] (tkS μ s l q 0 t c u1 u2 u3 c1 c2 c3)
                              refine z_rcs hc hH 2 (pc' := 154) (lv' := [(4, .long ((1 <<< ((nI c).toInt64 &&& 63)) ||| oe)), (3, .ref (20 + 8 * s)), (0, .ref 0), (1, .int (nI s)), (2, .int (nI l))]) (st' := [.long ((1 <<< ((nI c).toInt64 &&& 63)) ||| oe), .ref 0]) (μ' := tkS μ s l q 0 t c u1 u2 u3 c1 c2 c3) (by rfl) ?_
                              refine zq_pfl hc hH (by rfl) (ci := 5) (f := 18) (by rfl) (by decide +kernel) (by rfl) ?_
                              show Z 0 157 [(4, .long ((1 <<< ((nI c).toInt64 &&& 63)) ||| oe)), (3, .ref (20 + 8 * s)), (0, .ref 0), (1, .int (nI s)), (2, .int (nI l))] [] (z_uj (tkS μ s l q 0 t c u1 u2 u3 c1 c2 c3) 0 18 ((1 <<< ((nI c).toInt64 &&& 63)) ||| oe))
                              refine z_rcs hc hH 1 (pc' := 158) (lv' := [(4, .long ((1 <<< ((nI c).toInt64 &&& 63)) ||| oe)), (3, .ref (20 + 8 * s)), (0, .ref 0), (1, .int (nI s)), (2, .int (nI l))]) (st' := [.int 1]) (μ' := z_uj (tkS μ s l q 0 t c u1 u2 u3 c1 c2 c3) 0 18 ((1 <<< ((nI c).toInt64 &&& 63)) ||| oe)) (by rfl) ?_
                              exact hr 0 158 _ _ _ (some (.int 1)) (by decide +kernel) (by rfl) (⟨(by first | rfl | simp only [h1, h2, h3, h4, h5, h7, h25, h27, h29, h31, cond_true, cond_false]), (by simp only [h1, h2, h3, h4, h5, h7, h25, h27, h29, h31, cond_true, cond_false])⟩)
                            · have h31 : (ko) = false := nB_z.mp (cn_ne.mp h31)
                              refine z_rcs hc hH 1 (pc' := 143) (lv' := [(4, .long ((1 <<< ((nI c).toInt64 &&& 63)) ||| oe)), (3, .ref (20 + 8 * s)), (0, .ref 0), (1, .int (nI s)), (2, .int (nI l))]) (st' := [.int 0]) (μ' := μ) (by rfl) ?_
                              exact hr 0 143 _ _ _ (some (.int 0)) (by decide +kernel) (by rfl) (⟨(by first | rfl | simp only [h1, h2, h3, h4, h5, h7, h25, h27, h29, h31, cond_true, cond_false]), (by simp only [h1, h2, h3, h4, h5, h7, h25, h27, h29, h31, cond_true, cond_false])⟩)
                          · have h30 : (decide ((nI (l + 2)) < (nI (l + 3)))) = false := decide_eq_false (cn_gt.mp h30)
                            exact absurd (Eq.trans (Eq.symm (kn_ln (by omega) (by omega) (by omega))) h30) (by decide)
                        · have h29 : (decide ((nI (l + 2)) = (nI c))) = false := decide_eq_false (cn_eq.mp h29)
                          refine z_rcs hc hH 2 (pc' := 84) (lv' := [(4, .int (nI (l + 2))), (3, .ref (20 + 8 * s)), (0, .ref 0), (1, .int (nI s)), (2, .int (nI l))]) (st' := [.int (nI (l + 2)), .ref (20 + 8 * s)]) (μ' := μ) (by rfl) ?_
                          refine zq_iald hc hH (by rfl) 34 (oka_i (sj (P := fun i => oka 79 1 34 (20 + 8 * i)) hs4 (by decide +kernel))) (vp_in_nI (by omega) (by decide)) ?_
                          rw [nI_clamp (by omega)]
                          refine zq_if hc hH (by rfl) (tg := 90) (by rfl) (fun h32 => ?_) (fun h32 => ?_)
                          · have h32 : (decide ((μ.1 (20 + 8 * s) (l + 2)) = 0)) = false := decide_eq_false (cm_ne.mp h32)
                            refine z_rcs hc hH 3 (pc' := 66) (lv' := [(4, .int ((nI (l + 2)) + 1)), (3, .ref (20 + 8 * s)), (0, .ref 0), (1, .int (nI s)), (2, .int (nI l))]) (st' := [.int ((nI (l + 2)) + 1)]) (μ' := μ) (by rfl) ?_
                            rw [show nI (l + 2) + 1 = nI (l + 3) from nI_s1 _]
                            refine z_rcs hc hH 3 (pc' := 69) (lv' := [(4, .int (nI (l + 3))), (3, .ref (20 + 8 * s)), (0, .ref 0), (1, .int (nI s)), (2, .int (nI l))]) (st' := [.int ((nI l) + 2), .int (nI (l + 3))]) (μ' := μ) (by rfl) ?_
                            rw [show nI l + 2 = nI (l + 2) from by rw [show (2 : Int32) = nI 2 from rfl, nI_add]]
                            refine zq_ic hc hH (by rfl) (tg := 96) (by rfl) (fun h33 => ?_) (fun h33 => ?_)
                            · have h33 : (decide ((nI (l + 2)) < (nI (l + 3)))) = true := decide_eq_true (cm_gt.mp h33)
                              refine z_rcs hc hH 2 (pc' := 98) (lv' := [(4, .int (nI (l + 3))), (3, .ref (20 + 8 * s)), (0, .ref 0), (1, .int (nI s)), (2, .int (nI l))]) (st' := [.ref 0, .long 1]) (μ' := μ) (by rfl) ?_
                              refine zq_gfi hc hH (by rfl) (ci := 5) (f := 15) (by rfl) (by decide +kernel) (by rfl) ?_
                              rw [hc15]
                              refine z_rcs hc hH 3 (pc' := 104) (lv' := [(4, .int (nI (l + 3))), (3, .ref (20 + 8 * s)), (0, .ref 0), (1, .int (nI s)), (2, .int (nI l))]) (st' := [.int (nI l), .ref 0, .long (1 <<< ((nI c).toInt64 &&& 63))]) (μ' := μ) (by rfl) ?_
                              refine zq_call hc (by rfl) (hoe d' (by omega)) (by decide +kernel) (fun r9 μ9 hq => ?_)
                              obtain ⟨hμ9, rfl⟩ := hq
                              rw [hμ9]
                              clear hμ9 μ9
                              show Z 0 107 [(4, .int (nI (l + 3))), (3, .ref (20 + 8 * s)), (0, .ref 0), (1, .int (nI s)), (2, .int (nI l))] [.long oe, .long (1 <<< ((nI c).toInt64 &&& 63))] μ
                              refine z_rcs hc hH 4 (pc' := 112) (lv' := [(4, .long ((1 <<< ((nI c).toInt64 &&& 63)) ||| oe)), (3, .ref (20 + 8 * s)), (0, .ref 0), (1, .int (nI s)), (2, .int (nI l))]) (st' := [.int (nI s), .ref 0]) (μ' := μ) (by rfl) ?_
                              refine zq_call hc (by rfl) (gc_at4 d' (by omega) μ s hs4) (by decide +kernel) (fun r9 μ9 hq => ?_)
                              obtain ⟨hμ9, rfl⟩ := hq
                              rw [hμ9]
                              clear hμ9 μ9
                              show Z 0 115 [(4, .long ((1 <<< ((nI c).toInt64 &&& 63)) ||| oe)), (3, .ref (20 + 8 * s)), (0, .ref 0), (1, .int (nI s)), (2, .int (nI l))] [.ref (18 + 8 * s)] μ
                              refine zq_gfr hc hH (by rfl) (ci := 1) (f := 0) (q := 19 + 8 * s) (by rfl) (sj (P := fun i => okf 79 1 0 (18 + 8 * i)) hs4 (by decide +kernel)) (by rfl) (sj (P := fun i => Nat.beq (z_gr (18 + 8 * i) 0) (19 + 8 * i)) hs4 (by decide +kernel)) ?_
                              refine z_rcs hc hH 5 (pc' := 125) (lv' := [(4, .long ((1 <<< ((nI c).toInt64 &&& 63)) ||| oe)), (3, .ref (20 + 8 * s)), (0, .ref 0), (1, .int (nI s)), (2, .int (nI l))]) (st' := [.ref 0, .long 1, .long (7 <<< ((nI l).toInt64 &&& 63)), .ref (19 + 8 * s)]) (μ' := μ) (by rfl) ?_
                              refine zq_gfi hc hH (by rfl) (ci := 5) (f := 15) (by rfl) (by decide +kernel) (by rfl) ?_
                              rw [hc15]
                              refine z_rcs hc hH 5 (pc' := 136) (lv' := [(4, .long ((1 <<< ((nI c).toInt64 &&& 63)) ||| oe)), (3, .ref (20 + 8 * s)), (0, .ref 0), (1, .int (nI s)), (2, .int (nI l))]) (st' := [.long ((1 <<< ((nI c).toInt64 &&& 63)) ||| oe), .long ((7 <<< ((nI l).toInt64 &&& 63)) &&& ((1 <<< ((nI c).toInt64 &&& 63)) ^^^ (-1))), .ref (19 + 8 * s)]) (μ' := μ) (by rfl) ?_
                              refine zq_call hc (by rfl) (hko d' (by omega)) (by decide +kernel) (fun r9 μ9 hq => ?_)
                              obtain ⟨hμ9, rfl⟩ := hq
                              rw [hμ9]
                              clear hμ9 μ9
                              show Z 0 139 [(4, .long ((1 <<< ((nI c).toInt64 &&& 63)) ||| oe)), (3, .ref (20 + 8 * s)), (0, .ref 0), (1, .int (nI s)), (2, .int (nI l))] [.int (nB ko)] μ
                              refine zq_if hc hH (by rfl) (tg := 144) (by rfl) (fun h34 => ?_) (fun h34 => ?_)
                              · have h34 : (ko) = true := nB_n.mp (cm_ne.mp h34)
                                refine z_rcs hc hH 4 (pc' := 148) (lv' := [(4, .long ((1 <<< ((nI c).toInt64 &&& 63)) ||| oe)), (3, .ref (20 + 8 * s)), (0, .ref 0), (1, .int (nI s)), (2, .int (nI l))]) (st' := [.int (nI l), .int 0, .int (nI s), .ref 0]) (μ' := μ) (by rfl) ?_
                                refine zq_call hc (by rfl) (gc_takeSet d' (by omega) μ s l q 0 hs4 ham hq3 e4 t c u1 u2 u3 c1 c2 c3 ht4 ht hc34 hc15 hu1 hu14 hw1 hu2 hu24 hw2 hu3 hu34 hw3) (by decide +kernel) (fun r9 μ9 hq => ?_)
                                obtain ⟨rfl, rfl⟩ := hq
                                show Z 0 151 [(4, .long ((1 <<< ((nI c).toInt64 &&& 63)) ||| oe)), (3, .ref (20 + 8 * s)), (0, .ref 0), (1, .int (nI s)), (2, .int (nI l))] [] (tkS μ s l q 0 t c u1 u2 u3 c1 c2 c3)
                                refine z_rcs hc hH 2 (pc' := 154) (lv' := [(4, .long ((1 <<< ((nI c).toInt64 &&& 63)) ||| oe)), (3, .ref (20 + 8 * s)), (0, .ref 0), (1, .int (nI s)), (2, .int (nI l))]) (st' := [.long ((1 <<< ((nI c).toInt64 &&& 63)) ||| oe), .ref 0]) (μ' := tkS μ s l q 0 t c u1 u2 u3 c1 c2 c3) (by rfl) ?_
                                refine zq_pfl hc hH (by rfl) (ci := 5) (f := 18) (by rfl) (by decide +kernel) (by rfl) ?_
                                show Z 0 157 [(4, .long ((1 <<< ((nI c).toInt64 &&& 63)) ||| oe)), (3, .ref (20 + 8 * s)), (0, .ref 0), (1, .int (nI s)), (2, .int (nI l))] [] (z_uj (tkS μ s l q 0 t c u1 u2 u3 c1 c2 c3) 0 18 ((1 <<< ((nI c).toInt64 &&& 63)) ||| oe))
                                refine z_rcs hc hH 1 (pc' := 158) (lv' := [(4, .long ((1 <<< ((nI c).toInt64 &&& 63)) ||| oe)), (3, .ref (20 + 8 * s)), (0, .ref 0), (1, .int (nI s)), (2, .int (nI l))]) (st' := [.int 1]) (μ' := z_uj (tkS μ s l q 0 t c u1 u2 u3 c1 c2 c3) 0 18 ((1 <<< ((nI c).toInt64 &&& 63)) ||| oe)) (by rfl) ?_
                                exact hr 0 158 _ _ _ (some (.int 1)) (by decide +kernel) (by rfl) (⟨(by first | rfl | simp only [h1, h2, h3, h4, h5, h7, h25, h27, h29, h32, h34, cond_true, cond_false]), (by simp only [h1, h2, h3, h4, h5, h7, h25, h27, h29, h32, h34, cond_true, cond_false])⟩)
                              · have h34 : (ko) = false := nB_z.mp (cn_ne.mp h34)
                                refine z_rcs hc hH 1 (pc' := 143) (lv' := [(4, .long ((1 <<< ((nI c).toInt64 &&& 63)) ||| oe)), (3, .ref (20 + 8 * s)), (0, .ref 0), (1, .int (nI s)), (2, .int (nI l))]) (st' := [.int 0]) (μ' := μ) (by rfl) ?_
                                exact hr 0 143 _ _ _ (some (.int 0)) (by decide +kernel) (by rfl) (⟨(by first | rfl | simp only [h1, h2, h3, h4, h5, h7, h25, h27, h29, h32, h34, cond_true, cond_false]), (by simp only [h1, h2, h3, h4, h5, h7, h25, h27, h29, h32, h34, cond_true, cond_false])⟩)
                            · have h33 : (decide ((nI (l + 2)) < (nI (l + 3)))) = false := decide_eq_false (cn_gt.mp h33)
                              exact absurd (Eq.trans (Eq.symm (kn_ln (by omega) (by omega) (by omega))) h33) (by decide)
                          · have h32 : (decide ((μ.1 (20 + 8 * s) (l + 2)) = 0)) = true := decide_eq_true (cn_ne.mp h32)
                            refine z_rcs hc hH 1 (pc' := 89) (lv' := [(4, .int (nI (l + 2))), (3, .ref (20 + 8 * s)), (0, .ref 0), (1, .int (nI s)), (2, .int (nI l))]) (st' := [.int 0]) (μ' := μ) (by rfl) ?_
                            exact hr 0 89 _ _ _ (some (.int 0)) (by decide +kernel) (by rfl) (⟨(by first | rfl | simp only [h1, h2, h3, h4, h5, h7, h25, h27, h29, h32, cond_true, cond_false]), (by simp only [h1, h2, h3, h4, h5, h7, h25, h27, h29, h32, cond_true, cond_false])⟩)
                    · have h27 : (decide ((nI (l + 1)) = (nI c))) = false := decide_eq_false (cn_eq.mp h27)
                      refine z_rcs hc hH 2 (pc' := 84) (lv' := [(4, .int (nI (l + 1))), (3, .ref (20 + 8 * s)), (0, .ref 0), (1, .int (nI s)), (2, .int (nI l))]) (st' := [.int (nI (l + 1)), .ref (20 + 8 * s)]) (μ' := μ) (by rfl) ?_
                      refine zq_iald hc hH (by rfl) 34 (oka_i (sj (P := fun i => oka 79 1 34 (20 + 8 * i)) hs4 (by decide +kernel))) (vp_in_nI (by omega) (by decide)) ?_
                      rw [nI_clamp (by omega)]
                      refine zq_if hc hH (by rfl) (tg := 90) (by rfl) (fun h35 => ?_) (fun h35 => ?_)
                      · have h35 : (decide ((μ.1 (20 + 8 * s) (l + 1)) = 0)) = false := decide_eq_false (cm_ne.mp h35)
                        refine z_rcs hc hH 3 (pc' := 66) (lv' := [(4, .int ((nI (l + 1)) + 1)), (3, .ref (20 + 8 * s)), (0, .ref 0), (1, .int (nI s)), (2, .int (nI l))]) (st' := [.int ((nI (l + 1)) + 1)]) (μ' := μ) (by rfl) ?_
                        rw [show nI (l + 1) + 1 = nI (l + 2) from nI_s1 _]
                        refine z_rcs hc hH 3 (pc' := 69) (lv' := [(4, .int (nI (l + 2))), (3, .ref (20 + 8 * s)), (0, .ref 0), (1, .int (nI s)), (2, .int (nI l))]) (st' := [.int ((nI l) + 2), .int (nI (l + 2))]) (μ' := μ) (by rfl) ?_
                        rw [show nI l + 2 = nI (l + 2) from by rw [show (2 : Int32) = nI 2 from rfl, nI_add]]
                        refine zq_ic hc hH (by rfl) (tg := 96) (by rfl) (fun h36 => ?_) (fun h36 => ?_)
                        · have h36 : (decide ((nI (l + 2)) < (nI (l + 2)))) = true := decide_eq_true (cm_gt.mp h36)
                          exact absurd (Eq.trans (Eq.symm (kn_nn (by omega) (by omega) (by omega))) h36) (by decide)
                        · have h36 : (decide ((nI (l + 2)) < (nI (l + 2)))) = false := decide_eq_false (cn_gt.mp h36)
                          refine z_rcs hc hH 2 (pc' := 75) (lv' := [(4, .int (nI (l + 2))), (3, .ref (20 + 8 * s)), (0, .ref 0), (1, .int (nI s)), (2, .int (nI l))]) (st' := [.ref 0, .int (nI (l + 2))]) (μ' := μ) (by rfl) ?_
                          refine zq_gfi hc hH (by rfl) (ci := 5) (f := 15) (by rfl) (by decide +kernel) (by rfl) ?_
                          rw [hc15]
                          refine zq_ic hc hH (by rfl) (tg := 90) (by rfl) (fun h37 => ?_) (fun h37 => ?_)
                          · have h37 : (decide ((nI (l + 2)) = (nI c))) = true := decide_eq_true (cm_eq9.mp h37)
                            refine z_rcs hc hH 3 (pc' := 66) (lv' := [(4, .int ((nI (l + 2)) + 1)), (3, .ref (20 + 8 * s)), (0, .ref 0), (1, .int (nI s)), (2, .int (nI l))]) (st' := [.int ((nI (l + 2)) + 1)]) (μ' := μ) (by rfl) ?_
                            rw [show nI (l + 2) + 1 = nI (l + 3) from nI_s1 _]
                            refine z_rcs hc hH 3 (pc' := 69) (lv' := [(4, .int (nI (l + 3))), (3, .ref (20 + 8 * s)), (0, .ref 0), (1, .int (nI s)), (2, .int (nI l))]) (st' := [.int ((nI l) + 2), .int (nI (l + 3))]) (μ' := μ) (by rfl) ?_
                            rw [show nI l + 2 = nI (l + 2) from by rw [show (2 : Int32) = nI 2 from rfl, nI_add]]
                            refine zq_ic hc hH (by rfl) (tg := 96) (by rfl) (fun h38 => ?_) (fun h38 => ?_)
                            · have h38 : (decide ((nI (l + 2)) < (nI (l + 3)))) = true := decide_eq_true (cm_gt.mp h38)
                              refine z_rcs hc hH 2 (pc' := 98) (lv' := [(4, .int (nI (l + 3))), (3, .ref (20 + 8 * s)), (0, .ref 0), (1, .int (nI s)), (2, .int (nI l))]) (st' := [.ref 0, .long 1]) (μ' := μ) (by rfl) ?_
                              refine zq_gfi hc hH (by rfl) (ci := 5) (f := 15) (by rfl) (by decide +kernel) (by rfl) ?_
                              rw [hc15]
                              refine z_rcs hc hH 3 (pc' := 104) (lv' := [(4, .int (nI (l + 3))), (3, .ref (20 + 8 * s)), (0, .ref 0), (1, .int (nI s)), (2, .int (nI l))]) (st' := [.int (nI l), .ref 0, .long (1 <<< ((nI c).toInt64 &&& 63))]) (μ' := μ) (by rfl) ?_
                              refine zq_call hc (by rfl) (hoe d' (by omega)) (by decide +kernel) (fun r9 μ9 hq => ?_)
                              obtain ⟨hμ9, rfl⟩ := hq
                              rw [hμ9]
                              clear hμ9 μ9
                              show Z 0 107 [(4, .int (nI (l + 3))), (3, .ref (20 + 8 * s)), (0, .ref 0), (1, .int (nI s)), (2, .int (nI l))] [.long oe, .long (1 <<< ((nI c).toInt64 &&& 63))] μ
                              refine z_rcs hc hH 4 (pc' := 112) (lv' := [(4, .long ((1 <<< ((nI c).toInt64 &&& 63)) ||| oe)), (3, .ref (20 + 8 * s)), (0, .ref 0), (1, .int (nI s)), (2, .int (nI l))]) (st' := [.int (nI s), .ref 0]) (μ' := μ) (by rfl) ?_
                              refine zq_call hc (by rfl) (gc_at4 d' (by omega) μ s hs4) (by decide +kernel) (fun r9 μ9 hq => ?_)
                              obtain ⟨hμ9, rfl⟩ := hq
                              rw [hμ9]
                              clear hμ9 μ9
                              show Z 0 115 [(4, .long ((1 <<< ((nI c).toInt64 &&& 63)) ||| oe)), (3, .ref (20 + 8 * s)), (0, .ref 0), (1, .int (nI s)), (2, .int (nI l))] [.ref (18 + 8 * s)] μ
                              refine zq_gfr hc hH (by rfl) (ci := 1) (f := 0) (q := 19 + 8 * s) (by rfl) (sj (P := fun i => okf 79 1 0 (18 + 8 * i)) hs4 (by decide +kernel)) (by rfl) (sj (P := fun i => Nat.beq (z_gr (18 + 8 * i) 0) (19 + 8 * i)) hs4 (by decide +kernel)) ?_
                              refine z_rcs hc hH 5 (pc' := 125) (lv' := [(4, .long ((1 <<< ((nI c).toInt64 &&& 63)) ||| oe)), (3, .ref (20 + 8 * s)), (0, .ref 0), (1, .int (nI s)), (2, .int (nI l))]) (st' := [.ref 0, .long 1, .long (7 <<< ((nI l).toInt64 &&& 63)), .ref (19 + 8 * s)]) (μ' := μ) (by rfl) ?_
                              refine zq_gfi hc hH (by rfl) (ci := 5) (f := 15) (by rfl) (by decide +kernel) (by rfl) ?_
                              rw [hc15]
                              refine z_rcs hc hH 5 (pc' := 136) (lv' := [(4, .long ((1 <<< ((nI c).toInt64 &&& 63)) ||| oe)), (3, .ref (20 + 8 * s)), (0, .ref 0), (1, .int (nI s)), (2, .int (nI l))]) (st' := [.long ((1 <<< ((nI c).toInt64 &&& 63)) ||| oe), .long ((7 <<< ((nI l).toInt64 &&& 63)) &&& ((1 <<< ((nI c).toInt64 &&& 63)) ^^^ (-1))), .ref (19 + 8 * s)]) (μ' := μ) (by rfl) ?_
                              refine zq_call hc (by rfl) (hko d' (by omega)) (by decide +kernel) (fun r9 μ9 hq => ?_)
                              obtain ⟨hμ9, rfl⟩ := hq
                              rw [hμ9]
                              clear hμ9 μ9
                              show Z 0 139 [(4, .long ((1 <<< ((nI c).toInt64 &&& 63)) ||| oe)), (3, .ref (20 + 8 * s)), (0, .ref 0), (1, .int (nI s)), (2, .int (nI l))] [.int (nB ko)] μ
                              refine zq_if hc hH (by rfl) (tg := 144) (by rfl) (fun h39 => ?_) (fun h39 => ?_)
                              · have h39 : (ko) = true := nB_n.mp (cm_ne.mp h39)
                                refine z_rcs hc hH 4 (pc' := 148) (lv' := [(4, .long ((1 <<< ((nI c).toInt64 &&& 63)) ||| oe)), (3, .ref (20 + 8 * s)), (0, .ref 0), (1, .int (nI s)), (2, .int (nI l))]) (st' := [.int (nI l), .int 0, .int (nI s), .ref 0]) (μ' := μ) (by rfl) ?_
                                refine zq_call hc (by rfl) (gc_takeSet d' (by omega) μ s l q 0 hs4 ham hq3 e4 t c u1 u2 u3 c1 c2 c3 ht4 ht hc34 hc15 hu1 hu14 hw1 hu2 hu24 hw2 hu3 hu34 hw3) (by decide +kernel) (fun r9 μ9 hq => ?_)
                                obtain ⟨rfl, rfl⟩ := hq
                                show Z 0 151 [(4, .long ((1 <<< ((nI c).toInt64 &&& 63)) ||| oe)), (3, .ref (20 + 8 * s)), (0, .ref 0), (1, .int (nI s)), (2, .int (nI l))] [] (tkS μ s l q 0 t c u1 u2 u3 c1 c2 c3)
                                refine z_rcs hc hH 2 (pc' := 154) (lv' := [(4, .long ((1 <<< ((nI c).toInt64 &&& 63)) ||| oe)), (3, .ref (20 + 8 * s)), (0, .ref 0), (1, .int (nI s)), (2, .int (nI l))]) (st' := [.long ((1 <<< ((nI c).toInt64 &&& 63)) ||| oe), .ref 0]) (μ' := tkS μ s l q 0 t c u1 u2 u3 c1 c2 c3) (by rfl) ?_
                                refine zq_pfl hc hH (by rfl) (ci := 5) (f := 18) (by rfl) (by decide +kernel) (by rfl) ?_
                                show Z 0 157 [(4, .long ((1 <<< ((nI c).toInt64 &&& 63)) ||| oe)), (3, .ref (20 + 8 * s)), (0, .ref 0), (1, .int (nI s)), (2, .int (nI l))] [] (z_uj (tkS μ s l q 0 t c u1 u2 u3 c1 c2 c3) 0 18 ((1 <<< ((nI c).toInt64 &&& 63)) ||| oe))
                                refine z_rcs hc hH 1 (pc' := 158) (lv' := [(4, .long ((1 <<< ((nI c).toInt64 &&& 63)) ||| oe)), (3, .ref (20 + 8 * s)), (0, .ref 0), (1, .int (nI s)), (2, .int (nI l))]) (st' := [.int 1]) (μ' := z_uj (tkS μ s l q 0 t c u1 u2 u3 c1 c2 c3) 0 18 ((1 <<< ((nI c).toInt64 &&& 63)) ||| oe)) (by rfl) ?_
                                exact hr 0 158 _ _ _ (some (.int 1)) (by decide +kernel) (by rfl) (⟨(by first | rfl | simp only [h1, h2, h3, h4, h5, h7, h25, h27, h35, h37, h39, cond_true, cond_false]), (by simp only [h1, h2, h3, h4, h5, h7, h25, h27, h35, h37, h39, cond_true, cond_false])⟩)
                              · have h39 : (ko) = false := nB_z.mp (cn_ne.mp h39)
                                refine z_rcs hc hH 1 (pc' := 143) (lv' := [(4, .long ((1 <<< ((nI c).toInt64 &&& 63)) ||| oe)), (3, .ref (20 + 8 * s)), (0, .ref 0), (1, .int (nI s)), (2, .int (nI l))]) (st' := [.int 0]) (μ' := μ) (by rfl) ?_
                                exact hr 0 143 _ _ _ (some (.int 0)) (by decide +kernel) (by rfl) (⟨(by first | rfl | simp only [h1, h2, h3, h4, h5, h7, h25, h27, h35, h37, h39, cond_true, cond_false]), (by simp only [h1, h2, h3, h4, h5, h7, h25, h27, h35, h37, h39, cond_true, cond_false])⟩)
                            · have h38 : (decide ((nI (l + 2)) < (nI (l + 3)))) = false := decide_eq_false (cn_gt.mp h38)
                              exact absurd (Eq.trans (Eq.symm (kn_ln (by omega) (by omega) (by omega))) h38) (by decide)
                          · have h37 : (decide ((nI (l + 2)) = (nI c))) = false := decide_eq_false (cn_eq.mp h37)
                            refine z_rcs hc hH 2 (pc' := 84) (lv' := [(4, .int (nI (l + 2))), (3, .ref (20 + 8 * s)), (0, .ref 0), (1, .int (nI s)), (2, .int (nI l))]) (st' := [.int (nI (l + 2)), .ref (20 + 8 * s)]) (μ' := μ) (by rfl) ?_
                            refine zq_iald hc hH (by rfl) 34 (oka_i (sj (P := fun i => oka 79 1 34 (20 + 8 * i)) hs4 (by decide +kernel))) (vp_in_nI (by omega) (by decide)) ?_
                            rw [nI_clamp (by omega)]
                            refine zq_if hc hH (by rfl) (tg := 90) (by rfl) (fun h40 => ?_) (fun h40 => ?_)
                            · have h40 : (decide ((μ.1 (20 + 8 * s) (l + 2)) = 0)) = false := decide_eq_false (cm_ne.mp h40)
                              refine z_rcs hc hH 3 (pc' := 66) (lv' := [(4, .int ((nI (l + 2)) + 1)), (3, .ref (20 + 8 * s)), (0, .ref 0), (1, .int (nI s)), (2, .int (nI l))]) (st' := [.int ((nI (l + 2)) + 1)]) (μ' := μ) (by rfl) ?_
                              rw [show nI (l + 2) + 1 = nI (l + 3) from nI_s1 _]
                              refine z_rcs hc hH 3 (pc' := 69) (lv' := [(4, .int (nI (l + 3))), (3, .ref (20 + 8 * s)), (0, .ref 0), (1, .int (nI s)), (2, .int (nI l))]) (st' := [.int ((nI l) + 2), .int (nI (l + 3))]) (μ' := μ) (by rfl) ?_
                              rw [show nI l + 2 = nI (l + 2) from by rw [show (2 : Int32) = nI 2 from rfl, nI_add]]
                              refine zq_ic hc hH (by rfl) (tg := 96) (by rfl) (fun h41 => ?_) (fun h41 => ?_)
                              · have h41 : (decide ((nI (l + 2)) < (nI (l + 3)))) = true := decide_eq_true (cm_gt.mp h41)
                                refine z_rcs hc hH 2 (pc' := 98) (lv' := [(4, .int (nI (l + 3))), (3, .ref (20 + 8 * s)), (0, .ref 0), (1, .int (nI s)), (2, .int (nI l))]) (st' := [.ref 0, .long 1]) (μ' := μ) (by rfl) ?_
                                refine zq_gfi hc hH (by rfl) (ci := 5) (f := 15) (by rfl) (by decide +kernel) (by rfl) ?_
                                rw [hc15]
                                refine z_rcs hc hH 3 (pc' := 104) (lv' := [(4, .int (nI (l + 3))), (3, .ref (20 + 8 * s)), (0, .ref 0), (1, .int (nI s)), (2, .int (nI l))]) (st' := [.int (nI l), .ref 0, .long (1 <<< ((nI c).toInt64 &&& 63))]) (μ' := μ) (by rfl) ?_
                                refine zq_call hc (by rfl) (hoe d' (by omega)) (by decide +kernel) (fun r9 μ9 hq => ?_)
                                obtain ⟨hμ9, rfl⟩ := hq
                                rw [hμ9]
                                clear hμ9 μ9
                                show Z 0 107 [(4, .int (nI (l + 3))), (3, .ref (20 + 8 * s)), (0, .ref 0), (1, .int (nI s)), (2, .int (nI l))] [.long oe, .long (1 <<< ((nI c).toInt64 &&& 63))] μ
                                refine z_rcs hc hH 4 (pc' := 112) (lv' := [(4, .long ((1 <<< ((nI c).toInt64 &&& 63)) ||| oe)), (3, .ref (20 + 8 * s)), (0, .ref 0), (1, .int (nI s)), (2, .int (nI l))]) (st' := [.int (nI s), .ref 0]) (μ' := μ) (by rfl) ?_
                                refine zq_call hc (by rfl) (gc_at4 d' (by omega) μ s hs4) (by decide +kernel) (fun r9 μ9 hq => ?_)
                                obtain ⟨hμ9, rfl⟩ := hq
                                rw [hμ9]
                                clear hμ9 μ9
                                show Z 0 115 [(4, .long ((1 <<< ((nI c).toInt64 &&& 63)) ||| oe)), (3, .ref (20 + 8 * s)), (0, .ref 0), (1, .int (nI s)), (2, .int (nI l))] [.ref (18 + 8 * s)] μ
                                refine zq_gfr hc hH (by rfl) (ci := 1) (f := 0) (q := 19 + 8 * s) (by rfl) (sj (P := fun i => okf 79 1 0 (18 + 8 * i)) hs4 (by decide +kernel)) (by rfl) (sj (P := fun i => Nat.beq (z_gr (18 + 8 * i) 0) (19 + 8 * i)) hs4 (by decide +kernel)) ?_
                                refine z_rcs hc hH 5 (pc' := 125) (lv' := [(4, .long ((1 <<< ((nI c).toInt64 &&& 63)) ||| oe)), (3, .ref (20 + 8 * s)), (0, .ref 0), (1, .int (nI s)), (2, .int (nI l))]) (st' := [.ref 0, .long 1, .long (7 <<< ((nI l).toInt64 &&& 63)), .ref (19 + 8 * s)]) (μ' := μ) (by rfl) ?_
                                refine zq_gfi hc hH (by rfl) (ci := 5) (f := 15) (by rfl) (by decide +kernel) (by rfl) ?_
                                rw [hc15]
                                refine z_rcs hc hH 5 (pc' := 136) (lv' := [(4, .long ((1 <<< ((nI c).toInt64 &&& 63)) ||| oe)), (3, .ref (20 + 8 * s)), (0, .ref 0), (1, .int (nI s)), (2, .int (nI l))]) (st' := [.long ((1 <<< ((nI c).toInt64 &&& 63)) ||| oe), .long ((7 <<< ((nI l).toInt64 &&& 63)) &&& ((1 <<< ((nI c).toInt64 &&& 63)) ^^^ (-1))), .ref (19 + 8 * s)]) (μ' := μ) (by rfl) ?_
                                refine zq_call hc (by rfl) (hko d' (by omega)) (by decide +kernel) (fun r9 μ9 hq => ?_)
                                obtain ⟨hμ9, rfl⟩ := hq
                                rw [hμ9]
                                clear hμ9 μ9
                                show Z 0 139 [(4, .long ((1 <<< ((nI c).toInt64 &&& 63)) ||| oe)), (3, .ref (20 + 8 * s)), (0, .ref 0), (1, .int (nI s)), (2, .int (nI l))] [.int (nB ko)] μ
                                refine zq_if hc hH (by rfl) (tg := 144) (by rfl) (fun h42 => ?_) (fun h42 => ?_)
                                · have h42 : (ko) = true := nB_n.mp (cm_ne.mp h42)
                                  refine z_rcs hc hH 4 (pc' := 148) (lv' := [(4, .long ((1 <<< ((nI c).toInt64 &&& 63)) ||| oe)), (3, .ref (20 + 8 * s)), (0, .ref 0), (1, .int (nI s)), (2, .int (nI l))]) (st' := [.int (nI l), .int 0, .int (nI s), .ref 0]) (μ' := μ) (by rfl) ?_
                                  refine zq_call hc (by rfl) (gc_takeSet d' (by omega) μ s l q 0 hs4 ham hq3 e4 t c u1 u2 u3 c1 c2 c3 ht4 ht hc34 hc15 hu1 hu14 hw1 hu2 hu24 hw2 hu3 hu34 hw3) (by decide +kernel) (fun r9 μ9 hq => ?_)
                                  obtain ⟨rfl, rfl⟩ := hq
                                  show Z 0 151 [(4, .long ((1 <<< ((nI c).toInt64 &&& 63)) ||| oe)), (3, .ref (20 + 8 * s)), (0, .ref 0), (1, .int (nI s)), (2, .int (nI l))] [] (tkS μ s l q 0 t c u1 u2 u3 c1 c2 c3)
                                  refine z_rcs hc hH 2 (pc' := 154) (lv' := [(4, .long ((1 <<< ((nI c).toInt64 &&& 63)) ||| oe)), (3, .ref (20 + 8 * s)), (0, .ref 0), (1, .int (nI s)), (2, .int (nI l))]) (st' := [.long ((1 <<< ((nI c).toInt64 &&& 63)) ||| oe), .ref 0]) (μ' := tkS μ s l q 0 t c u1 u2 u3 c1 c2 c3) (by rfl) ?_
                                  refine zq_pfl hc hH (by rfl) (ci := 5) (f := 18) (by rfl) (by decide +kernel) (by rfl) ?_
                                  show Z 0 157 [(4, .long ((1 <<< ((nI c).toInt64 &&& 63)) ||| oe)), (3, .ref (20 + 8 * s)), (0, .ref 0), (1, .int (nI s)), (2, .int (nI l))] [] (z_uj (tkS μ s l q 0 t c u1 u2 u3 c1 c2 c3) 0 18 ((1 <<< ((nI c).toInt64 &&& 63)) ||| oe))
                                  refine z_rcs hc hH 1 (pc' := 158) (lv' := [(4, .long ((1 <<< ((nI c).toInt64 &&& 63)) ||| oe)), (3, .ref (20 + 8 * s)), (0, .ref 0), (1, .int (nI s)), (2, .int (nI l))]) (st' := [.int 1]) (μ' := z_uj (tkS μ s l q 0 t c u1 u2 u3 c1 c2 c3) 0 18 ((1 <<< ((nI c).toInt64 &&& 63)) ||| oe)) (by rfl) ?_
                                  exact hr 0 158 _ _ _ (some (.int 1)) (by decide +kernel) (by rfl) (⟨(by first | rfl | simp only [h1, h2, h3, h4, h5, h7, h25, h27, h35, h37, h40, h42, cond_true, cond_false]), (by simp only [h1, h2, h3, h4, h5, h7, h25, h27, h35, h37, h40, h42, cond_true, cond_false])⟩)
                                · have h42 : (ko) = false := nB_z.mp (cn_ne.mp h42)
                                  refine z_rcs hc hH 1 (pc' := 143) (lv' := [(4, .long ((1 <<< ((nI c).toInt64 &&& 63)) ||| oe)), (3, .ref (20 + 8 * s)), (0, .ref 0), (1, .int (nI s)), (2, .int (nI l))]) (st' := [.int 0]) (μ' := μ) (by rfl) ?_
                                  exact hr 0 143 _ _ _ (some (.int 0)) (by decide +kernel) (by rfl) (⟨(by first | rfl | simp only [h1, h2, h3, h4, h5, h7, h25, h27, h35, h37, h40, h42, cond_true, cond_false]), (by simp only [h1, h2, h3, h4, h5, h7, h25, h27, h35, h37, h40, h42, cond_true, cond_false])⟩)
                              · have h41 : (decide ((nI (l + 2)) < (nI (l + 3)))) = false := decide_eq_false (cn_gt.mp h41)
                                exact absurd (Eq.trans (Eq.symm (kn_ln (by omega) (by omega) (by omega))) h41) (by decide)
                            · have h40 : (decide ((μ.1 (20 + 8 * s) (l + 2)) = 0)) = true := decide_eq_true (cn_ne.mp h40)
                              refine z_rcs hc hH 1 (pc' := 89) (lv' := [(4, .int (nI (l + 2))), (3, .ref (20 + 8 * s)), (0, .ref 0), (1, .int (nI s)), (2, .int (nI l))]) (st' := [.int 0]) (μ' := μ) (by rfl) ?_
                              exact hr 0 89 _ _ _ (some (.int 0)) (by decide +kernel) (by rfl) (⟨(by first | rfl | simp only [h1, h2, h3, h4, h5, h7, h25, h27, h35, h37, h40, cond_true, cond_false]), (by simp only [h1, h2, h3, h4, h5, h7, h25, h27, h35, h37, h40, cond_true, cond_false])⟩)
                      · have h35 : (decide ((μ.1 (20 + 8 * s) (l + 1)) = 0)) = true := decide_eq_true (cn_ne.mp h35)
                        refine z_rcs hc hH 1 (pc' := 89) (lv' := [(4, .int (nI (l + 1))), (3, .ref (20 + 8 * s)), (0, .ref 0), (1, .int (nI s)), (2, .int (nI l))]) (st' := [.int 0]) (μ' := μ) (by rfl) ?_
                        exact hr 0 89 _ _ _ (some (.int 0)) (by decide +kernel) (by rfl) (⟨(by first | rfl | simp only [h1, h2, h3, h4, h5, h7, h25, h27, h35, cond_true, cond_false]), (by simp only [h1, h2, h3, h4, h5, h7, h25, h27, h35, cond_true, cond_false])⟩)
                · have h25 : (decide ((μ.1 (20 + 8 * s) l) = 0)) = true := decide_eq_true (cn_ne.mp h25)
                  refine z_rcs hc hH 1 (pc' := 89) (lv' := [(4, .int (nI l)), (3, .ref (20 + 8 * s)), (0, .ref 0), (1, .int (nI s)), (2, .int (nI l))]) (st' := [.int 0]) (μ' := μ) (by rfl) ?_
                  exact hr 0 89 _ _ _ (some (.int 0)) (by decide +kernel) (by rfl) (⟨(by first | rfl | simp only [h1, h2, h3, h4, h5, h7, h25, cond_true, cond_false]), (by simp only [h1, h2, h3, h4, h5, h7, h25, cond_true, cond_false])⟩)
          · have h5 : (decide ((nI c) ≤ (nI (l + 2)))) = false := decide_eq_false (cn_le.mp h5)
            refine z_rcs hc hH 1 (pc' := 48) (lv' := [(0, .ref 0), (1, .int (nI s)), (2, .int (nI l))]) (st' := [.int 0]) (μ' := μ) (by rfl) ?_
            exact hr 0 48 _ _ _ (some (.int 0)) (by decide +kernel) (by rfl) (⟨(by first | rfl | simp only [h1, h2, h3, h4, h5, cond_true, cond_false]), (by simp only [h1, h2, h3, h4, h5, cond_true, cond_false])⟩)
      · have h3 : (sr) = false := nB_z.mp (cn_ne.mp h3)
        refine z_rcs hc hH 1 (pc' := 28) (lv' := [(0, .ref 0), (1, .int (nI s)), (2, .int (nI l))]) (st' := [.int 0]) (μ' := μ) (by rfl) ?_
        exact hr 0 28 _ _ _ (some (.int 0)) (by decide +kernel) (by rfl) (⟨(by first | rfl | simp only [h1, h2, h3, cond_true, cond_false]), (by simp only [h1, h2, h3, cond_true, cond_false])⟩)

/-! a way of the first sort: FORMS and FU as the reference has them, piece by piece -/
set_option maxRecDepth 8000
theorem in4a {x : Int32} (h : vp_in x 5) (h4 : decide ((4 : Int32) ≤ x) = false) : vp_in x 4 := by
  have h5 := of_decide_eq_false h4
  rw [Int32.le_iff_toInt_le, show (4 : Int32).toInt = 4 from rfl] at h5
  have := vp_in_iff.mp h
  exact vp_in_iff.mpr ⟨this.1, by omega⟩
theorem in4b {a b : Bool} (h : (!a && b) = true) : a = false := by cases a <;> simp_all
theorem xOp_mGP {μ : zM} {g p : Int64} {f : Int32} : ∀ q, xOp (mGP μ g p f) q = xOp μ q := by
  intro q
  induction q with
  | zero => rfl
  | succ q ih => show (xOp (mGP μ g p f) q || !decide (μ.1 52 q = 3)) = (xOp μ q || !decide (μ.1 52 q = 3)); rw [ih]
theorem tF_mGP {μ : zM} {g p : Int64} {f : Int32} {q : Nat} : ∀ n i t, tF (mGP μ g p f) q n i t = tF μ q n i t := by
  intro n
  induction n with
  | zero => intro i t; rfl
  | succ n ih => intro i t; show tF (mGP μ g p f) q n (i + 1) (tSt (mGP μ g p f) q i t) = tF μ q n (i + 1) (tSt μ q i t); rw [ih]; rfl
theorem fs0 (d' : Nat) (Z : zK) (hd : 4 ≤ d') (μ : zM) (q : Nat) (hq : q ≤ 4) (e4 : μ.1 50 4 = nI q) (s l : Nat → Nat) (hA : AY μ s l) (hco : vp_in (μ.1 50 22) 5) (hc : z_clo z_x0 mi_X7_firstSort (z_C d') Z)  (g p : Int64) (f : Int32) (K : Z 0 92 [(5, .int 4), (3, .int ((((0 + (nB ((decide ((μ.1 56 0) = 2)) || (decide ((μ.1 56 0) = 3))))) + (nB ((decide ((μ.1 56 1) = 2)) || (decide ((μ.1 56 1) = 3))))) + (nB ((decide ((μ.1 56 2) = 2)) || (decide ((μ.1 56 2) = 3))))) + (nB ((decide ((μ.1 56 3) = 2)) || (decide ((μ.1 56 3) = 3)))))), (2, .int ((((0 + (nB (xHi0 μ))) + (nB (xHi1 μ))) + (nB (xHi2 μ))) + (nB (xHi3 μ)))), (1, .int ((((0 + (nB (decide ((μ.1 56 0) = 0)))) + (nB (decide ((μ.1 56 1) = 0)))) + (nB (decide ((μ.1 56 2) = 0)))) + (nB (decide ((μ.1 56 3) = 0))))), (4, .int (nB (xOp μ q))), (0, .ref 50)] [] (mGP μ g p f)) : Z 0 0 [(0, .ref 50)] [] (mGP μ g p f) := by
  have hH : zH mi_X7_firstSort zt_X7_firstSort 79 7 14 := hh_X7_firstSort
  refine z_rcs hc hH 7 (pc' := 7) (lv' := [(3, .int 0), (2, .int 0), (1, .int 0), (0, .ref 50)]) (st' := [.ref 50]) (μ' := mGP μ g p f) (by rfl) ?_
  refine zq_call hc (z_cx_ok hH (by rfl)) (fb_X7_isOpen d' (by omega) (mGP μ g p f) q hq e4) (by decide +kernel) (fun r9 μ9 hq => ?_)
  obtain ⟨hμ9, rfl⟩ := hq
  rw [hμ9]
  clear hμ9 μ9
  rw [xOp_mGP]
  show Z 0 10 [(3, .int 0), (2, .int 0), (1, .int 0), (0, .ref 50)] [.int (nB (xOp μ q))] (mGP μ g p f)
  refine z_rcs hc hH 10 (pc' := 28) (lv' := [(5, .int 0), (4, .int (nB (xOp μ q))), (3, .int 0), (2, .int 0), (1, .int 0), (0, .ref 50)]) (st' := [.int 0, .ref 56, .int 0]) (μ' := mGP μ g p f) (by rfl) ?_
  refine zq_iald hc hH (by rfl) 4 (by decide +kernel) (show vp_in (nI 0) 4 from vp_in_nI (by decide) (by decide)) ?_
  show Z 0 29 [(5, .int 0), (4, .int (nB (xOp μ q))), (3, .int 0), (2, .int 0), (1, .int 0), (0, .ref 50)] [.int (μ.1 56 0), .int 0] (mGP μ g p f)
  have hJ1 : Z 0 37 [(5, .int 0), (4, .int (nB (xOp μ q))), (3, .int 0), (2, .int 0), (1, .int 0), (0, .ref 50)] [.int (nB (decide ((μ.1 56 0) = 0))), .int 0] (mGP μ g p f) := by
    refine z_rcs hc hH 5 (pc' := 43) (lv' := [(1, .int (0 + (nB (decide ((μ.1 56 0) = 0))))), (5, .int 0), (4, .int (nB (xOp μ q))), (3, .int 0), (2, .int 0), (0, .ref 50)]) (st' := [.int 0, .ref 50, .int 0]) (μ' := mGP μ g p f) (by rfl) ?_
    refine zq_call hc (z_cx_ok hH (by rfl)) (fb_X7_isHidden0 d' (by omega) (mGP μ g p f)) (by decide +kernel) (fun r9 μ9 hq => ?_)
    obtain ⟨hμ9, rfl⟩ := hq
    rw [hμ9]
    clear hμ9 μ9
    show Z 0 46 [(1, .int (0 + (nB (decide ((μ.1 56 0) = 0))))), (5, .int 0), (4, .int (nB (xOp μ q))), (3, .int 0), (2, .int 0), (0, .ref 50)] [.int (nB (xHi0 μ)), .int 0] (mGP μ g p f)
    have hJ2 : Z 0 54 [(1, .int (0 + (nB (decide ((μ.1 56 0) = 0))))), (5, .int 0), (4, .int (nB (xOp μ q))), (3, .int 0), (2, .int 0), (0, .ref 50)] [.int (nB (xHi0 μ)), .int 0] (mGP μ g p f) := by
      refine z_rcs hc hH 6 (pc' := 63) (lv' := [(2, .int (0 + (nB (xHi0 μ)))), (1, .int (0 + (nB (decide ((μ.1 56 0) = 0))))), (5, .int 0), (4, .int (nB (xOp μ q))), (3, .int 0), (0, .ref 50)]) (st' := [.int 0, .ref 56, .int 0]) (μ' := mGP μ g p f) (by rfl) ?_
      refine zq_iald hc hH (by rfl) 4 (by decide +kernel) (show vp_in (nI 0) 4 from vp_in_nI (by decide) (by decide)) ?_
      show Z 0 64 [(2, .int (0 + (nB (xHi0 μ)))), (1, .int (0 + (nB (decide ((μ.1 56 0) = 0))))), (5, .int 0), (4, .int (nB (xOp μ q))), (3, .int 0), (0, .ref 50)] [.int (μ.1 56 0), .int 0] (mGP μ g p f)
      refine z_rcs hc hH 1 (pc' := 65) (lv' := [(2, .int (0 + (nB (xHi0 μ)))), (1, .int (0 + (nB (decide ((μ.1 56 0) = 0))))), (5, .int 0), (4, .int (nB (xOp μ q))), (3, .int 0), (0, .ref 50)]) (st' := [.int 2, .int (μ.1 56 0), .int 0]) (μ' := mGP μ g p f) (by rfl) ?_
      have hJ3 : Z 0 84 [(2, .int (0 + (nB (xHi0 μ)))), (1, .int (0 + (nB (decide ((μ.1 56 0) = 0))))), (5, .int 0), (4, .int (nB (xOp μ q))), (3, .int 0), (0, .ref 50)] [.int (nB ((decide ((μ.1 56 0) = 2)) || (decide ((μ.1 56 0) = 3)))), .int 0] (mGP μ g p f) := by
        refine z_rcs hc hH 11 (pc' := 28) (lv' := [(5, .int 1), (3, .int (0 + (nB ((decide ((μ.1 56 0) = 2)) || (decide ((μ.1 56 0) = 3)))))), (2, .int (0 + (nB (xHi0 μ)))), (1, .int (0 + (nB (decide ((μ.1 56 0) = 0))))), (4, .int (nB (xOp μ q))), (0, .ref 50)]) (st' := [.int 1, .ref 56, .int (0 + (nB (decide ((μ.1 56 0) = 0))))]) (μ' := mGP μ g p f) (by rfl) ?_
        refine zq_iald hc hH (by rfl) 4 (by decide +kernel) (show vp_in (nI 1) 4 from vp_in_nI (by decide) (by decide)) ?_
        show Z 0 29 [(5, .int 1), (3, .int (0 + (nB ((decide ((μ.1 56 0) = 2)) || (decide ((μ.1 56 0) = 3)))))), (2, .int (0 + (nB (xHi0 μ)))), (1, .int (0 + (nB (decide ((μ.1 56 0) = 0))))), (4, .int (nB (xOp μ q))), (0, .ref 50)] [.int (μ.1 56 1), .int (0 + (nB (decide ((μ.1 56 0) = 0))))] (mGP μ g p f)
        have hJ4 : Z 0 37 [(5, .int 1), (3, .int (0 + (nB ((decide ((μ.1 56 0) = 2)) || (decide ((μ.1 56 0) = 3)))))), (2, .int (0 + (nB (xHi0 μ)))), (1, .int (0 + (nB (decide ((μ.1 56 0) = 0))))), (4, .int (nB (xOp μ q))), (0, .ref 50)] [.int (nB (decide ((μ.1 56 1) = 0))), .int (0 + (nB (decide ((μ.1 56 0) = 0))))] (mGP μ g p f) := by
          refine z_rcs hc hH 5 (pc' := 43) (lv' := [(1, .int ((0 + (nB (decide ((μ.1 56 0) = 0)))) + (nB (decide ((μ.1 56 1) = 0))))), (5, .int 1), (3, .int (0 + (nB ((decide ((μ.1 56 0) = 2)) || (decide ((μ.1 56 0) = 3)))))), (2, .int (0 + (nB (xHi0 μ)))), (4, .int (nB (xOp μ q))), (0, .ref 50)]) (st' := [.int 1, .ref 50, .int (0 + (nB (xHi0 μ)))]) (μ' := mGP μ g p f) (by rfl) ?_
          refine zq_call hc (z_cx_ok hH (by rfl)) (fb_X7_isHidden1 d' (by omega) (mGP μ g p f)) (by decide +kernel) (fun r9 μ9 hq => ?_)
          obtain ⟨hμ9, rfl⟩ := hq
          rw [hμ9]
          clear hμ9 μ9
          show Z 0 46 [(1, .int ((0 + (nB (decide ((μ.1 56 0) = 0)))) + (nB (decide ((μ.1 56 1) = 0))))), (5, .int 1), (3, .int (0 + (nB ((decide ((μ.1 56 0) = 2)) || (decide ((μ.1 56 0) = 3)))))), (2, .int (0 + (nB (xHi0 μ)))), (4, .int (nB (xOp μ q))), (0, .ref 50)] [.int (nB (xHi1 μ)), .int (0 + (nB (xHi0 μ)))] (mGP μ g p f)
          have hJ5 : Z 0 54 [(1, .int ((0 + (nB (decide ((μ.1 56 0) = 0)))) + (nB (decide ((μ.1 56 1) = 0))))), (5, .int 1), (3, .int (0 + (nB ((decide ((μ.1 56 0) = 2)) || (decide ((μ.1 56 0) = 3)))))), (2, .int (0 + (nB (xHi0 μ)))), (4, .int (nB (xOp μ q))), (0, .ref 50)] [.int (nB (xHi1 μ)), .int (0 + (nB (xHi0 μ)))] (mGP μ g p f) := by
            refine z_rcs hc hH 6 (pc' := 63) (lv' := [(2, .int ((0 + (nB (xHi0 μ))) + (nB (xHi1 μ)))), (1, .int ((0 + (nB (decide ((μ.1 56 0) = 0)))) + (nB (decide ((μ.1 56 1) = 0))))), (5, .int 1), (3, .int (0 + (nB ((decide ((μ.1 56 0) = 2)) || (decide ((μ.1 56 0) = 3)))))), (4, .int (nB (xOp μ q))), (0, .ref 50)]) (st' := [.int 1, .ref 56, .int (0 + (nB ((decide ((μ.1 56 0) = 2)) || (decide ((μ.1 56 0) = 3)))))]) (μ' := mGP μ g p f) (by rfl) ?_
            refine zq_iald hc hH (by rfl) 4 (by decide +kernel) (show vp_in (nI 1) 4 from vp_in_nI (by decide) (by decide)) ?_
            show Z 0 64 [(2, .int ((0 + (nB (xHi0 μ))) + (nB (xHi1 μ)))), (1, .int ((0 + (nB (decide ((μ.1 56 0) = 0)))) + (nB (decide ((μ.1 56 1) = 0))))), (5, .int 1), (3, .int (0 + (nB ((decide ((μ.1 56 0) = 2)) || (decide ((μ.1 56 0) = 3)))))), (4, .int (nB (xOp μ q))), (0, .ref 50)] [.int (μ.1 56 1), .int (0 + (nB ((decide ((μ.1 56 0) = 2)) || (decide ((μ.1 56 0) = 3)))))] (mGP μ g p f)
            refine z_rcs hc hH 1 (pc' := 65) (lv' := [(2, .int ((0 + (nB (xHi0 μ))) + (nB (xHi1 μ)))), (1, .int ((0 + (nB (decide ((μ.1 56 0) = 0)))) + (nB (decide ((μ.1 56 1) = 0))))), (5, .int 1), (3, .int (0 + (nB ((decide ((μ.1 56 0) = 2)) || (decide ((μ.1 56 0) = 3)))))), (4, .int (nB (xOp μ q))), (0, .ref 50)]) (st' := [.int 2, .int (μ.1 56 1), .int (0 + (nB ((decide ((μ.1 56 0) = 2)) || (decide ((μ.1 56 0) = 3)))))]) (μ' := mGP μ g p f) (by rfl) ?_
            have hJ6 : Z 0 84 [(2, .int ((0 + (nB (xHi0 μ))) + (nB (xHi1 μ)))), (1, .int ((0 + (nB (decide ((μ.1 56 0) = 0)))) + (nB (decide ((μ.1 56 1) = 0))))), (5, .int 1), (3, .int (0 + (nB ((decide ((μ.1 56 0) = 2)) || (decide ((μ.1 56 0) = 3)))))), (4, .int (nB (xOp μ q))), (0, .ref 50)] [.int (nB ((decide ((μ.1 56 1) = 2)) || (decide ((μ.1 56 1) = 3)))), .int (0 + (nB ((decide ((μ.1 56 0) = 2)) || (decide ((μ.1 56 0) = 3)))))] (mGP μ g p f) := by
              refine z_rcs hc hH 11 (pc' := 28) (lv' := [(5, .int 2), (3, .int ((0 + (nB ((decide ((μ.1 56 0) = 2)) || (decide ((μ.1 56 0) = 3))))) + (nB ((decide ((μ.1 56 1) = 2)) || (decide ((μ.1 56 1) = 3)))))), (2, .int ((0 + (nB (xHi0 μ))) + (nB (xHi1 μ)))), (1, .int ((0 + (nB (decide ((μ.1 56 0) = 0)))) + (nB (decide ((μ.1 56 1) = 0))))), (4, .int (nB (xOp μ q))), (0, .ref 50)]) (st' := [.int 2, .ref 56, .int ((0 + (nB (decide ((μ.1 56 0) = 0)))) + (nB (decide ((μ.1 56 1) = 0))))]) (μ' := mGP μ g p f) (by rfl) ?_
              refine zq_iald hc hH (by rfl) 4 (by decide +kernel) (show vp_in (nI 2) 4 from vp_in_nI (by decide) (by decide)) ?_
              show Z 0 29 [(5, .int 2), (3, .int ((0 + (nB ((decide ((μ.1 56 0) = 2)) || (decide ((μ.1 56 0) = 3))))) + (nB ((decide ((μ.1 56 1) = 2)) || (decide ((μ.1 56 1) = 3)))))), (2, .int ((0 + (nB (xHi0 μ))) + (nB (xHi1 μ)))), (1, .int ((0 + (nB (decide ((μ.1 56 0) = 0)))) + (nB (decide ((μ.1 56 1) = 0))))), (4, .int (nB (xOp μ q))), (0, .ref 50)] [.int (μ.1 56 2), .int ((0 + (nB (decide ((μ.1 56 0) = 0)))) + (nB (decide ((μ.1 56 1) = 0))))] (mGP μ g p f)
              have hJ7 : Z 0 37 [(5, .int 2), (3, .int ((0 + (nB ((decide ((μ.1 56 0) = 2)) || (decide ((μ.1 56 0) = 3))))) + (nB ((decide ((μ.1 56 1) = 2)) || (decide ((μ.1 56 1) = 3)))))), (2, .int ((0 + (nB (xHi0 μ))) + (nB (xHi1 μ)))), (1, .int ((0 + (nB (decide ((μ.1 56 0) = 0)))) + (nB (decide ((μ.1 56 1) = 0))))), (4, .int (nB (xOp μ q))), (0, .ref 50)] [.int (nB (decide ((μ.1 56 2) = 0))), .int ((0 + (nB (decide ((μ.1 56 0) = 0)))) + (nB (decide ((μ.1 56 1) = 0))))] (mGP μ g p f) := by
                generalize hyy8 : ((0 + (nB ((decide ((μ.1 56 0) = 2)) || (decide ((μ.1 56 0) = 3))))) + (nB ((decide ((μ.1 56 1) = 2)) || (decide ((μ.1 56 1) = 3)))) : Int32) = yy8
                refine z_rcs hc hH 5 (pc' := 43) (lv' := [(1, .int (((0 + (nB (decide ((μ.1 56 0) = 0)))) + (nB (decide ((μ.1 56 1) = 0)))) + (nB (decide ((μ.1 56 2) = 0))))), (5, .int 2), (3, .int yy8), (2, .int ((0 + (nB (xHi0 μ))) + (nB (xHi1 μ)))), (4, .int (nB (xOp μ q))), (0, .ref 50)]) (st' := [.int 2, .ref 50, .int ((0 + (nB (xHi0 μ))) + (nB (xHi1 μ)))]) (μ' := mGP μ g p f) (by rfl) ?_
                refine zq_call hc (z_cx_ok hH (by rfl)) (fb_X7_isHidden2 d' (by omega) (mGP μ g p f)) (by decide +kernel) (fun r9 μ9 hq => ?_)
                obtain ⟨hμ9, rfl⟩ := hq
                rw [hμ9]
                clear hμ9 μ9
                show Z 0 46 [(1, .int (((0 + (nB (decide ((μ.1 56 0) = 0)))) + (nB (decide ((μ.1 56 1) = 0)))) + (nB (decide ((μ.1 56 2) = 0))))), (5, .int 2), (3, .int yy8), (2, .int ((0 + (nB (xHi0 μ))) + (nB (xHi1 μ)))), (4, .int (nB (xOp μ q))), (0, .ref 50)] [.int (nB (xHi2 μ)), .int ((0 + (nB (xHi0 μ))) + (nB (xHi1 μ)))] (mGP μ g p f)
                have hJ9 : Z 0 54 [(1, .int (((0 + (nB (decide ((μ.1 56 0) = 0)))) + (nB (decide ((μ.1 56 1) = 0)))) + (nB (decide ((μ.1 56 2) = 0))))), (5, .int 2), (3, .int yy8), (2, .int ((0 + (nB (xHi0 μ))) + (nB (xHi1 μ)))), (4, .int (nB (xOp μ q))), (0, .ref 50)] [.int (nB (xHi2 μ)), .int ((0 + (nB (xHi0 μ))) + (nB (xHi1 μ)))] (mGP μ g p f) := by
                  generalize hyy10 : (((0 + (nB (decide ((μ.1 56 0) = 0)))) + (nB (decide ((μ.1 56 1) = 0)))) + (nB (decide ((μ.1 56 2) = 0))) : Int32) = yy10
                  refine z_rcs hc hH 6 (pc' := 63) (lv' := [(2, .int (((0 + (nB (xHi0 μ))) + (nB (xHi1 μ))) + (nB (xHi2 μ)))), (1, .int yy10), (5, .int 2), (3, .int yy8), (4, .int (nB (xOp μ q))), (0, .ref 50)]) (st' := [.int 2, .ref 56, .int yy8]) (μ' := mGP μ g p f) (by rfl) ?_
                  refine zq_iald hc hH (by rfl) 4 (by decide +kernel) (show vp_in (nI 2) 4 from vp_in_nI (by decide) (by decide)) ?_
                  show Z 0 64 [(2, .int (((0 + (nB (xHi0 μ))) + (nB (xHi1 μ))) + (nB (xHi2 μ)))), (1, .int yy10), (5, .int 2), (3, .int yy8), (4, .int (nB (xOp μ q))), (0, .ref 50)] [.int (μ.1 56 2), .int yy8] (mGP μ g p f)
                  refine z_rcs hc hH 1 (pc' := 65) (lv' := [(2, .int (((0 + (nB (xHi0 μ))) + (nB (xHi1 μ))) + (nB (xHi2 μ)))), (1, .int yy10), (5, .int 2), (3, .int yy8), (4, .int (nB (xOp μ q))), (0, .ref 50)]) (st' := [.int 2, .int (μ.1 56 2), .int yy8]) (μ' := mGP μ g p f) (by rfl) ?_
                  have hJ11 : Z 0 84 [(2, .int (((0 + (nB (xHi0 μ))) + (nB (xHi1 μ))) + (nB (xHi2 μ)))), (1, .int yy10), (5, .int 2), (3, .int yy8), (4, .int (nB (xOp μ q))), (0, .ref 50)] [.int (nB ((decide ((μ.1 56 2) = 2)) || (decide ((μ.1 56 2) = 3)))), .int yy8] (mGP μ g p f) := by
                    refine z_rcs hc hH 11 (pc' := 28) (lv' := [(5, .int 3), (3, .int (yy8 + (nB ((decide ((μ.1 56 2) = 2)) || (decide ((μ.1 56 2) = 3)))))), (2, .int (((0 + (nB (xHi0 μ))) + (nB (xHi1 μ))) + (nB (xHi2 μ)))), (1, .int yy10), (4, .int (nB (xOp μ q))), (0, .ref 50)]) (st' := [.int 3, .ref 56, .int yy10]) (μ' := mGP μ g p f) (by rfl) ?_
                    refine zq_iald hc hH (by rfl) 4 (by decide +kernel) (show vp_in (nI 3) 4 from vp_in_nI (by decide) (by decide)) ?_
                    show Z 0 29 [(5, .int 3), (3, .int (yy8 + (nB ((decide ((μ.1 56 2) = 2)) || (decide ((μ.1 56 2) = 3)))))), (2, .int (((0 + (nB (xHi0 μ))) + (nB (xHi1 μ))) + (nB (xHi2 μ)))), (1, .int yy10), (4, .int (nB (xOp μ q))), (0, .ref 50)] [.int (μ.1 56 3), .int yy10] (mGP μ g p f)
                    have hJ12 : Z 0 37 [(5, .int 3), (3, .int (yy8 + (nB ((decide ((μ.1 56 2) = 2)) || (decide ((μ.1 56 2) = 3)))))), (2, .int (((0 + (nB (xHi0 μ))) + (nB (xHi1 μ))) + (nB (xHi2 μ)))), (1, .int yy10), (4, .int (nB (xOp μ q))), (0, .ref 50)] [.int (nB (decide ((μ.1 56 3) = 0))), .int yy10] (mGP μ g p f) := by
                      refine z_rcs hc hH 5 (pc' := 43) (lv' := [(1, .int (yy10 + (nB (decide ((μ.1 56 3) = 0))))), (5, .int 3), (3, .int (yy8 + (nB ((decide ((μ.1 56 2) = 2)) || (decide ((μ.1 56 2) = 3)))))), (2, .int (((0 + (nB (xHi0 μ))) + (nB (xHi1 μ))) + (nB (xHi2 μ)))), (4, .int (nB (xOp μ q))), (0, .ref 50)]) (st' := [.int 3, .ref 50, .int (((0 + (nB (xHi0 μ))) + (nB (xHi1 μ))) + (nB (xHi2 μ)))]) (μ' := mGP μ g p f) (by rfl) ?_
                      refine zq_call hc (z_cx_ok hH (by rfl)) (fb_X7_isHidden3 d' (by omega) (mGP μ g p f)) (by decide +kernel) (fun r9 μ9 hq => ?_)
                      obtain ⟨hμ9, rfl⟩ := hq
                      rw [hμ9]
                      clear hμ9 μ9
                      show Z 0 46 [(1, .int (yy10 + (nB (decide ((μ.1 56 3) = 0))))), (5, .int 3), (3, .int (yy8 + (nB ((decide ((μ.1 56 2) = 2)) || (decide ((μ.1 56 2) = 3)))))), (2, .int (((0 + (nB (xHi0 μ))) + (nB (xHi1 μ))) + (nB (xHi2 μ)))), (4, .int (nB (xOp μ q))), (0, .ref 50)] [.int (nB (xHi3 μ)), .int (((0 + (nB (xHi0 μ))) + (nB (xHi1 μ))) + (nB (xHi2 μ)))] (mGP μ g p f)
                      have hJ13 : Z 0 54 [(1, .int (yy10 + (nB (decide ((μ.1 56 3) = 0))))), (5, .int 3), (3, .int (yy8 + (nB ((decide ((μ.1 56 2) = 2)) || (decide ((μ.1 56 2) = 3)))))), (2, .int (((0 + (nB (xHi0 μ))) + (nB (xHi1 μ))) + (nB (xHi2 μ)))), (4, .int (nB (xOp μ q))), (0, .ref 50)] [.int (nB (xHi3 μ)), .int (((0 + (nB (xHi0 μ))) + (nB (xHi1 μ))) + (nB (xHi2 μ)))] (mGP μ g p f) := by
                        refine z_rcs hc hH 6 (pc' := 63) (lv' := [(2, .int ((((0 + (nB (xHi0 μ))) + (nB (xHi1 μ))) + (nB (xHi2 μ))) + (nB (xHi3 μ)))), (1, .int (yy10 + (nB (decide ((μ.1 56 3) = 0))))), (5, .int 3), (3, .int (yy8 + (nB ((decide ((μ.1 56 2) = 2)) || (decide ((μ.1 56 2) = 3)))))), (4, .int (nB (xOp μ q))), (0, .ref 50)]) (st' := [.int 3, .ref 56, .int (yy8 + (nB ((decide ((μ.1 56 2) = 2)) || (decide ((μ.1 56 2) = 3)))))]) (μ' := mGP μ g p f) (by rfl) ?_
                        refine zq_iald hc hH (by rfl) 4 (by decide +kernel) (show vp_in (nI 3) 4 from vp_in_nI (by decide) (by decide)) ?_
                        show Z 0 64 [(2, .int ((((0 + (nB (xHi0 μ))) + (nB (xHi1 μ))) + (nB (xHi2 μ))) + (nB (xHi3 μ)))), (1, .int (yy10 + (nB (decide ((μ.1 56 3) = 0))))), (5, .int 3), (3, .int (yy8 + (nB ((decide ((μ.1 56 2) = 2)) || (decide ((μ.1 56 2) = 3)))))), (4, .int (nB (xOp μ q))), (0, .ref 50)] [.int (μ.1 56 3), .int (yy8 + (nB ((decide ((μ.1 56 2) = 2)) || (decide ((μ.1 56 2) = 3)))))] (mGP μ g p f)
                        refine z_rcs hc hH 1 (pc' := 65) (lv' := [(2, .int ((((0 + (nB (xHi0 μ))) + (nB (xHi1 μ))) + (nB (xHi2 μ))) + (nB (xHi3 μ)))), (1, .int (yy10 + (nB (decide ((μ.1 56 3) = 0))))), (5, .int 3), (3, .int (yy8 + (nB ((decide ((μ.1 56 2) = 2)) || (decide ((μ.1 56 2) = 3)))))), (4, .int (nB (xOp μ q))), (0, .ref 50)]) (st' := [.int 2, .int (μ.1 56 3), .int (yy8 + (nB ((decide ((μ.1 56 2) = 2)) || (decide ((μ.1 56 2) = 3)))))]) (μ' := mGP μ g p f) (by rfl) ?_
                        have hJ14 : Z 0 84 [(2, .int ((((0 + (nB (xHi0 μ))) + (nB (xHi1 μ))) + (nB (xHi2 μ))) + (nB (xHi3 μ)))), (1, .int (yy10 + (nB (decide ((μ.1 56 3) = 0))))), (5, .int 3), (3, .int (yy8 + (nB ((decide ((μ.1 56 2) = 2)) || (decide ((μ.1 56 2) = 3)))))), (4, .int (nB (xOp μ q))), (0, .ref 50)] [.int (nB ((decide ((μ.1 56 3) = 2)) || (decide ((μ.1 56 3) = 3)))), .int (yy8 + (nB ((decide ((μ.1 56 2) = 2)) || (decide ((μ.1 56 2) = 3)))))] (mGP μ g p f) := by
                          generalize hyy15 : ((((0 + (nB (xHi0 μ))) + (nB (xHi1 μ))) + (nB (xHi2 μ))) + (nB (xHi3 μ)) : Int32) = yy15
                          refine z_rcs hc hH 7 (pc' := 92) (lv' := [(5, .int 4), (3, .int ((yy8 + (nB ((decide ((μ.1 56 2) = 2)) || (decide ((μ.1 56 2) = 3))))) + (nB ((decide ((μ.1 56 3) = 2)) || (decide ((μ.1 56 3) = 3)))))), (2, .int yy15), (1, .int (yy10 + (nB (decide ((μ.1 56 3) = 0))))), (4, .int (nB (xOp μ q))), (0, .ref 50)]) (st' := []) (μ' := mGP μ g p f) (by rfl) ?_
                          subst hyy15
                          subst hyy10
                          subst hyy8
                          exact K
                        refine zq_ic hc hH (by rfl) (tg := 79) (by rfl) (fun h16 => ?_) (fun h16 => ?_)
                        · have h16 : (decide ((μ.1 56 3) = 2)) = true := decide_eq_true (cm_eq9.mp h16)
                          refine z_rcs hc hH 2 (pc' := 84) (lv' := [(2, .int ((((0 + (nB (xHi0 μ))) + (nB (xHi1 μ))) + (nB (xHi2 μ))) + (nB (xHi3 μ)))), (1, .int (yy10 + (nB (decide ((μ.1 56 3) = 0))))), (5, .int 3), (3, .int (yy8 + (nB ((decide ((μ.1 56 2) = 2)) || (decide ((μ.1 56 2) = 3)))))), (4, .int (nB (xOp μ q))), (0, .ref 50)]) (st' := [.int 1, .int (yy8 + (nB ((decide ((μ.1 56 2) = 2)) || (decide ((μ.1 56 2) = 3)))))]) (μ' := mGP μ g p f) (by rfl) ?_
                          exact zJ hJ14 rfl (by simp only [h16, lb_f, Int64.or_zero, nB_t, nB_f, Bool.not_true, Bool.not_false, Bool.and_true, Bool.true_and, Bool.false_and, Bool.and_false, Bool.or_true, Bool.true_or, Bool.false_or, Bool.or_false, cond_true, cond_false]) rfl
                        · have h16 : (decide ((μ.1 56 3) = 2)) = false := decide_eq_false (cn_eq.mp h16)
                          refine z_rcs hc hH 3 (pc' := 74) (lv' := [(2, .int ((((0 + (nB (xHi0 μ))) + (nB (xHi1 μ))) + (nB (xHi2 μ))) + (nB (xHi3 μ)))), (1, .int (yy10 + (nB (decide ((μ.1 56 3) = 0))))), (5, .int 3), (3, .int (yy8 + (nB ((decide ((μ.1 56 2) = 2)) || (decide ((μ.1 56 2) = 3)))))), (4, .int (nB (xOp μ q))), (0, .ref 50)]) (st' := [.int 3, .ref 56, .int (yy8 + (nB ((decide ((μ.1 56 2) = 2)) || (decide ((μ.1 56 2) = 3)))))]) (μ' := mGP μ g p f) (by rfl) ?_
                          refine zq_iald hc hH (by rfl) 4 (by decide +kernel) (show vp_in (nI 3) 4 from vp_in_nI (by decide) (by decide)) ?_
                          show Z 0 75 [(2, .int ((((0 + (nB (xHi0 μ))) + (nB (xHi1 μ))) + (nB (xHi2 μ))) + (nB (xHi3 μ)))), (1, .int (yy10 + (nB (decide ((μ.1 56 3) = 0))))), (5, .int 3), (3, .int (yy8 + (nB ((decide ((μ.1 56 2) = 2)) || (decide ((μ.1 56 2) = 3)))))), (4, .int (nB (xOp μ q))), (0, .ref 50)] [.int (μ.1 56 3), .int (yy8 + (nB ((decide ((μ.1 56 2) = 2)) || (decide ((μ.1 56 2) = 3)))))] (mGP μ g p f)
                          refine z_rcs hc hH 1 (pc' := 76) (lv' := [(2, .int ((((0 + (nB (xHi0 μ))) + (nB (xHi1 μ))) + (nB (xHi2 μ))) + (nB (xHi3 μ)))), (1, .int (yy10 + (nB (decide ((μ.1 56 3) = 0))))), (5, .int 3), (3, .int (yy8 + (nB ((decide ((μ.1 56 2) = 2)) || (decide ((μ.1 56 2) = 3)))))), (4, .int (nB (xOp μ q))), (0, .ref 50)]) (st' := [.int 3, .int (μ.1 56 3), .int (yy8 + (nB ((decide ((μ.1 56 2) = 2)) || (decide ((μ.1 56 2) = 3)))))]) (μ' := mGP μ g p f) (by rfl) ?_
                          refine zq_ic hc hH (by rfl) (tg := 83) (by rfl) (fun h17 => ?_) (fun h17 => ?_)
                          · have h17 : (decide ((μ.1 56 3) = 3)) = false := decide_eq_false (cm_ne.mp h17)
                            refine z_rcs hc hH 1 (pc' := 84) (lv' := [(2, .int ((((0 + (nB (xHi0 μ))) + (nB (xHi1 μ))) + (nB (xHi2 μ))) + (nB (xHi3 μ)))), (1, .int (yy10 + (nB (decide ((μ.1 56 3) = 0))))), (5, .int 3), (3, .int (yy8 + (nB ((decide ((μ.1 56 2) = 2)) || (decide ((μ.1 56 2) = 3)))))), (4, .int (nB (xOp μ q))), (0, .ref 50)]) (st' := [.int 0, .int (yy8 + (nB ((decide ((μ.1 56 2) = 2)) || (decide ((μ.1 56 2) = 3)))))]) (μ' := mGP μ g p f) (by rfl) ?_
                            exact zJ hJ14 rfl (by simp only [h16, h17, lb_f, Int64.or_zero, nB_t, nB_f, Bool.not_true, Bool.not_false, Bool.and_true, Bool.true_and, Bool.false_and, Bool.and_false, Bool.or_true, Bool.true_or, Bool.false_or, Bool.or_false, cond_true, cond_false]) rfl
                          · have h17 : (decide ((μ.1 56 3) = 3)) = true := decide_eq_true (cn_ne.mp h17)
                            refine z_rcs hc hH 2 (pc' := 84) (lv' := [(2, .int ((((0 + (nB (xHi0 μ))) + (nB (xHi1 μ))) + (nB (xHi2 μ))) + (nB (xHi3 μ)))), (1, .int (yy10 + (nB (decide ((μ.1 56 3) = 0))))), (5, .int 3), (3, .int (yy8 + (nB ((decide ((μ.1 56 2) = 2)) || (decide ((μ.1 56 2) = 3)))))), (4, .int (nB (xOp μ q))), (0, .ref 50)]) (st' := [.int 1, .int (yy8 + (nB ((decide ((μ.1 56 2) = 2)) || (decide ((μ.1 56 2) = 3)))))]) (μ' := mGP μ g p f) (by rfl) ?_
                            exact zJ hJ14 rfl (by simp only [h16, h17, lb_f, Int64.or_zero, nB_t, nB_f, Bool.not_true, Bool.not_false, Bool.and_true, Bool.true_and, Bool.false_and, Bool.and_false, Bool.or_true, Bool.true_or, Bool.false_or, Bool.or_false, cond_true, cond_false]) rfl
                      refine zq_if hc hH (by rfl) (tg := 53) (by rfl) (fun h18 => ?_) (fun h18 => ?_)
                      · have h18 : (xHi3 μ) = false := nB_z.mp (cm_eq9.mp h18)
                        refine z_rcs hc hH 1 (pc' := 54) (lv' := [(1, .int (yy10 + (nB (decide ((μ.1 56 3) = 0))))), (5, .int 3), (3, .int (yy8 + (nB ((decide ((μ.1 56 2) = 2)) || (decide ((μ.1 56 2) = 3)))))), (2, .int (((0 + (nB (xHi0 μ))) + (nB (xHi1 μ))) + (nB (xHi2 μ)))), (4, .int (nB (xOp μ q))), (0, .ref 50)]) (st' := [.int 0, .int (((0 + (nB (xHi0 μ))) + (nB (xHi1 μ))) + (nB (xHi2 μ)))]) (μ' := mGP μ g p f) (by rfl) ?_
                        exact zJ hJ13 rfl (by simp only [h18, lb_f, Int64.or_zero, nB_t, nB_f, Bool.not_true, Bool.not_false, Bool.and_true, Bool.true_and, Bool.false_and, Bool.and_false, Bool.or_true, Bool.true_or, Bool.false_or, Bool.or_false, cond_true, cond_false]) rfl
                      · have h18 : (xHi3 μ) = true := nB_n.mp (cn_eq.mp h18)
                        refine z_rcs hc hH 2 (pc' := 54) (lv' := [(1, .int (yy10 + (nB (decide ((μ.1 56 3) = 0))))), (5, .int 3), (3, .int (yy8 + (nB ((decide ((μ.1 56 2) = 2)) || (decide ((μ.1 56 2) = 3)))))), (2, .int (((0 + (nB (xHi0 μ))) + (nB (xHi1 μ))) + (nB (xHi2 μ)))), (4, .int (nB (xOp μ q))), (0, .ref 50)]) (st' := [.int 1, .int (((0 + (nB (xHi0 μ))) + (nB (xHi1 μ))) + (nB (xHi2 μ)))]) (μ' := mGP μ g p f) (by rfl) ?_
                        exact zJ hJ13 rfl (by simp only [h18, lb_f, Int64.or_zero, nB_t, nB_f, Bool.not_true, Bool.not_false, Bool.and_true, Bool.true_and, Bool.false_and, Bool.and_false, Bool.or_true, Bool.true_or, Bool.false_or, Bool.or_false, cond_true, cond_false]) rfl
                    refine zq_if hc hH (by rfl) (tg := 36) (by rfl) (fun h19 => ?_) (fun h19 => ?_)
                    · have h19 : (decide ((μ.1 56 3) = 0)) = false := decide_eq_false (cm_ne.mp h19)
                      refine z_rcs hc hH 1 (pc' := 37) (lv' := [(5, .int 3), (3, .int (yy8 + (nB ((decide ((μ.1 56 2) = 2)) || (decide ((μ.1 56 2) = 3)))))), (2, .int (((0 + (nB (xHi0 μ))) + (nB (xHi1 μ))) + (nB (xHi2 μ)))), (1, .int yy10), (4, .int (nB (xOp μ q))), (0, .ref 50)]) (st' := [.int 0, .int yy10]) (μ' := mGP μ g p f) (by rfl) ?_
                      exact zJ hJ12 rfl (by simp only [h19, lb_f, Int64.or_zero, nB_t, nB_f, Bool.not_true, Bool.not_false, Bool.and_true, Bool.true_and, Bool.false_and, Bool.and_false, Bool.or_true, Bool.true_or, Bool.false_or, Bool.or_false, cond_true, cond_false]) rfl
                    · have h19 : (decide ((μ.1 56 3) = 0)) = true := decide_eq_true (cn_ne.mp h19)
                      refine z_rcs hc hH 2 (pc' := 37) (lv' := [(5, .int 3), (3, .int (yy8 + (nB ((decide ((μ.1 56 2) = 2)) || (decide ((μ.1 56 2) = 3)))))), (2, .int (((0 + (nB (xHi0 μ))) + (nB (xHi1 μ))) + (nB (xHi2 μ)))), (1, .int yy10), (4, .int (nB (xOp μ q))), (0, .ref 50)]) (st' := [.int 1, .int yy10]) (μ' := mGP μ g p f) (by rfl) ?_
                      exact zJ hJ12 rfl (by simp only [h19, lb_f, Int64.or_zero, nB_t, nB_f, Bool.not_true, Bool.not_false, Bool.and_true, Bool.true_and, Bool.false_and, Bool.and_false, Bool.or_true, Bool.true_or, Bool.false_or, Bool.or_false, cond_true, cond_false]) rfl
                  refine zq_ic hc hH (by rfl) (tg := 79) (by rfl) (fun h20 => ?_) (fun h20 => ?_)
                  · have h20 : (decide ((μ.1 56 2) = 2)) = true := decide_eq_true (cm_eq9.mp h20)
                    refine z_rcs hc hH 2 (pc' := 84) (lv' := [(2, .int (((0 + (nB (xHi0 μ))) + (nB (xHi1 μ))) + (nB (xHi2 μ)))), (1, .int yy10), (5, .int 2), (3, .int yy8), (4, .int (nB (xOp μ q))), (0, .ref 50)]) (st' := [.int 1, .int yy8]) (μ' := mGP μ g p f) (by rfl) ?_
                    exact zJ hJ11 rfl (by simp only [h20, lb_f, Int64.or_zero, nB_t, nB_f, Bool.not_true, Bool.not_false, Bool.and_true, Bool.true_and, Bool.false_and, Bool.and_false, Bool.or_true, Bool.true_or, Bool.false_or, Bool.or_false, cond_true, cond_false]) rfl
                  · have h20 : (decide ((μ.1 56 2) = 2)) = false := decide_eq_false (cn_eq.mp h20)
                    refine z_rcs hc hH 3 (pc' := 74) (lv' := [(2, .int (((0 + (nB (xHi0 μ))) + (nB (xHi1 μ))) + (nB (xHi2 μ)))), (1, .int yy10), (5, .int 2), (3, .int yy8), (4, .int (nB (xOp μ q))), (0, .ref 50)]) (st' := [.int 2, .ref 56, .int yy8]) (μ' := mGP μ g p f) (by rfl) ?_
                    refine zq_iald hc hH (by rfl) 4 (by decide +kernel) (show vp_in (nI 2) 4 from vp_in_nI (by decide) (by decide)) ?_
                    show Z 0 75 [(2, .int (((0 + (nB (xHi0 μ))) + (nB (xHi1 μ))) + (nB (xHi2 μ)))), (1, .int yy10), (5, .int 2), (3, .int yy8), (4, .int (nB (xOp μ q))), (0, .ref 50)] [.int (μ.1 56 2), .int yy8] (mGP μ g p f)
                    refine z_rcs hc hH 1 (pc' := 76) (lv' := [(2, .int (((0 + (nB (xHi0 μ))) + (nB (xHi1 μ))) + (nB (xHi2 μ)))), (1, .int yy10), (5, .int 2), (3, .int yy8), (4, .int (nB (xOp μ q))), (0, .ref 50)]) (st' := [.int 3, .int (μ.1 56 2), .int yy8]) (μ' := mGP μ g p f) (by rfl) ?_
                    refine zq_ic hc hH (by rfl) (tg := 83) (by rfl) (fun h21 => ?_) (fun h21 => ?_)
                    · have h21 : (decide ((μ.1 56 2) = 3)) = false := decide_eq_false (cm_ne.mp h21)
                      refine z_rcs hc hH 1 (pc' := 84) (lv' := [(2, .int (((0 + (nB (xHi0 μ))) + (nB (xHi1 μ))) + (nB (xHi2 μ)))), (1, .int yy10), (5, .int 2), (3, .int yy8), (4, .int (nB (xOp μ q))), (0, .ref 50)]) (st' := [.int 0, .int yy8]) (μ' := mGP μ g p f) (by rfl) ?_
                      exact zJ hJ11 rfl (by simp only [h20, h21, lb_f, Int64.or_zero, nB_t, nB_f, Bool.not_true, Bool.not_false, Bool.and_true, Bool.true_and, Bool.false_and, Bool.and_false, Bool.or_true, Bool.true_or, Bool.false_or, Bool.or_false, cond_true, cond_false]) rfl
                    · have h21 : (decide ((μ.1 56 2) = 3)) = true := decide_eq_true (cn_ne.mp h21)
                      refine z_rcs hc hH 2 (pc' := 84) (lv' := [(2, .int (((0 + (nB (xHi0 μ))) + (nB (xHi1 μ))) + (nB (xHi2 μ)))), (1, .int yy10), (5, .int 2), (3, .int yy8), (4, .int (nB (xOp μ q))), (0, .ref 50)]) (st' := [.int 1, .int yy8]) (μ' := mGP μ g p f) (by rfl) ?_
                      exact zJ hJ11 rfl (by simp only [h20, h21, lb_f, Int64.or_zero, nB_t, nB_f, Bool.not_true, Bool.not_false, Bool.and_true, Bool.true_and, Bool.false_and, Bool.and_false, Bool.or_true, Bool.true_or, Bool.false_or, Bool.or_false, cond_true, cond_false]) rfl
                refine zq_if hc hH (by rfl) (tg := 53) (by rfl) (fun h22 => ?_) (fun h22 => ?_)
                · have h22 : (xHi2 μ) = false := nB_z.mp (cm_eq9.mp h22)
                  refine z_rcs hc hH 1 (pc' := 54) (lv' := [(1, .int (((0 + (nB (decide ((μ.1 56 0) = 0)))) + (nB (decide ((μ.1 56 1) = 0)))) + (nB (decide ((μ.1 56 2) = 0))))), (5, .int 2), (3, .int yy8), (2, .int ((0 + (nB (xHi0 μ))) + (nB (xHi1 μ)))), (4, .int (nB (xOp μ q))), (0, .ref 50)]) (st' := [.int 0, .int ((0 + (nB (xHi0 μ))) + (nB (xHi1 μ)))]) (μ' := mGP μ g p f) (by rfl) ?_
                  exact zJ hJ9 rfl (by simp only [h22, lb_f, Int64.or_zero, nB_t, nB_f, Bool.not_true, Bool.not_false, Bool.and_true, Bool.true_and, Bool.false_and, Bool.and_false, Bool.or_true, Bool.true_or, Bool.false_or, Bool.or_false, cond_true, cond_false]) rfl
                · have h22 : (xHi2 μ) = true := nB_n.mp (cn_eq.mp h22)
                  refine z_rcs hc hH 2 (pc' := 54) (lv' := [(1, .int (((0 + (nB (decide ((μ.1 56 0) = 0)))) + (nB (decide ((μ.1 56 1) = 0)))) + (nB (decide ((μ.1 56 2) = 0))))), (5, .int 2), (3, .int yy8), (2, .int ((0 + (nB (xHi0 μ))) + (nB (xHi1 μ)))), (4, .int (nB (xOp μ q))), (0, .ref 50)]) (st' := [.int 1, .int ((0 + (nB (xHi0 μ))) + (nB (xHi1 μ)))]) (μ' := mGP μ g p f) (by rfl) ?_
                  exact zJ hJ9 rfl (by simp only [h22, lb_f, Int64.or_zero, nB_t, nB_f, Bool.not_true, Bool.not_false, Bool.and_true, Bool.true_and, Bool.false_and, Bool.and_false, Bool.or_true, Bool.true_or, Bool.false_or, Bool.or_false, cond_true, cond_false]) rfl
              refine zq_if hc hH (by rfl) (tg := 36) (by rfl) (fun h23 => ?_) (fun h23 => ?_)
              · have h23 : (decide ((μ.1 56 2) = 0)) = false := decide_eq_false (cm_ne.mp h23)
                refine z_rcs hc hH 1 (pc' := 37) (lv' := [(5, .int 2), (3, .int ((0 + (nB ((decide ((μ.1 56 0) = 2)) || (decide ((μ.1 56 0) = 3))))) + (nB ((decide ((μ.1 56 1) = 2)) || (decide ((μ.1 56 1) = 3)))))), (2, .int ((0 + (nB (xHi0 μ))) + (nB (xHi1 μ)))), (1, .int ((0 + (nB (decide ((μ.1 56 0) = 0)))) + (nB (decide ((μ.1 56 1) = 0))))), (4, .int (nB (xOp μ q))), (0, .ref 50)]) (st' := [.int 0, .int ((0 + (nB (decide ((μ.1 56 0) = 0)))) + (nB (decide ((μ.1 56 1) = 0))))]) (μ' := mGP μ g p f) (by rfl) ?_
                exact zJ hJ7 rfl (by simp only [h23, lb_f, Int64.or_zero, nB_t, nB_f, Bool.not_true, Bool.not_false, Bool.and_true, Bool.true_and, Bool.false_and, Bool.and_false, Bool.or_true, Bool.true_or, Bool.false_or, Bool.or_false, cond_true, cond_false]) rfl
              · have h23 : (decide ((μ.1 56 2) = 0)) = true := decide_eq_true (cn_ne.mp h23)
                refine z_rcs hc hH 2 (pc' := 37) (lv' := [(5, .int 2), (3, .int ((0 + (nB ((decide ((μ.1 56 0) = 2)) || (decide ((μ.1 56 0) = 3))))) + (nB ((decide ((μ.1 56 1) = 2)) || (decide ((μ.1 56 1) = 3)))))), (2, .int ((0 + (nB (xHi0 μ))) + (nB (xHi1 μ)))), (1, .int ((0 + (nB (decide ((μ.1 56 0) = 0)))) + (nB (decide ((μ.1 56 1) = 0))))), (4, .int (nB (xOp μ q))), (0, .ref 50)]) (st' := [.int 1, .int ((0 + (nB (decide ((μ.1 56 0) = 0)))) + (nB (decide ((μ.1 56 1) = 0))))]) (μ' := mGP μ g p f) (by rfl) ?_
                exact zJ hJ7 rfl (by simp only [h23, lb_f, Int64.or_zero, nB_t, nB_f, Bool.not_true, Bool.not_false, Bool.and_true, Bool.true_and, Bool.false_and, Bool.and_false, Bool.or_true, Bool.true_or, Bool.false_or, Bool.or_false, cond_true, cond_false]) rfl
            refine zq_ic hc hH (by rfl) (tg := 79) (by rfl) (fun h24 => ?_) (fun h24 => ?_)
            · have h24 : (decide ((μ.1 56 1) = 2)) = true := decide_eq_true (cm_eq9.mp h24)
              refine z_rcs hc hH 2 (pc' := 84) (lv' := [(2, .int ((0 + (nB (xHi0 μ))) + (nB (xHi1 μ)))), (1, .int ((0 + (nB (decide ((μ.1 56 0) = 0)))) + (nB (decide ((μ.1 56 1) = 0))))), (5, .int 1), (3, .int (0 + (nB ((decide ((μ.1 56 0) = 2)) || (decide ((μ.1 56 0) = 3)))))), (4, .int (nB (xOp μ q))), (0, .ref 50)]) (st' := [.int 1, .int (0 + (nB ((decide ((μ.1 56 0) = 2)) || (decide ((μ.1 56 0) = 3)))))]) (μ' := mGP μ g p f) (by rfl) ?_
              exact zJ hJ6 rfl (by simp only [h24, lb_f, Int64.or_zero, nB_t, nB_f, Bool.not_true, Bool.not_false, Bool.and_true, Bool.true_and, Bool.false_and, Bool.and_false, Bool.or_true, Bool.true_or, Bool.false_or, Bool.or_false, cond_true, cond_false]) rfl
            · have h24 : (decide ((μ.1 56 1) = 2)) = false := decide_eq_false (cn_eq.mp h24)
              refine z_rcs hc hH 3 (pc' := 74) (lv' := [(2, .int ((0 + (nB (xHi0 μ))) + (nB (xHi1 μ)))), (1, .int ((0 + (nB (decide ((μ.1 56 0) = 0)))) + (nB (decide ((μ.1 56 1) = 0))))), (5, .int 1), (3, .int (0 + (nB ((decide ((μ.1 56 0) = 2)) || (decide ((μ.1 56 0) = 3)))))), (4, .int (nB (xOp μ q))), (0, .ref 50)]) (st' := [.int 1, .ref 56, .int (0 + (nB ((decide ((μ.1 56 0) = 2)) || (decide ((μ.1 56 0) = 3)))))]) (μ' := mGP μ g p f) (by rfl) ?_
              refine zq_iald hc hH (by rfl) 4 (by decide +kernel) (show vp_in (nI 1) 4 from vp_in_nI (by decide) (by decide)) ?_
              show Z 0 75 [(2, .int ((0 + (nB (xHi0 μ))) + (nB (xHi1 μ)))), (1, .int ((0 + (nB (decide ((μ.1 56 0) = 0)))) + (nB (decide ((μ.1 56 1) = 0))))), (5, .int 1), (3, .int (0 + (nB ((decide ((μ.1 56 0) = 2)) || (decide ((μ.1 56 0) = 3)))))), (4, .int (nB (xOp μ q))), (0, .ref 50)] [.int (μ.1 56 1), .int (0 + (nB ((decide ((μ.1 56 0) = 2)) || (decide ((μ.1 56 0) = 3)))))] (mGP μ g p f)
              refine z_rcs hc hH 1 (pc' := 76) (lv' := [(2, .int ((0 + (nB (xHi0 μ))) + (nB (xHi1 μ)))), (1, .int ((0 + (nB (decide ((μ.1 56 0) = 0)))) + (nB (decide ((μ.1 56 1) = 0))))), (5, .int 1), (3, .int (0 + (nB ((decide ((μ.1 56 0) = 2)) || (decide ((μ.1 56 0) = 3)))))), (4, .int (nB (xOp μ q))), (0, .ref 50)]) (st' := [.int 3, .int (μ.1 56 1), .int (0 + (nB ((decide ((μ.1 56 0) = 2)) || (decide ((μ.1 56 0) = 3)))))]) (μ' := mGP μ g p f) (by rfl) ?_
              refine zq_ic hc hH (by rfl) (tg := 83) (by rfl) (fun h25 => ?_) (fun h25 => ?_)
              · have h25 : (decide ((μ.1 56 1) = 3)) = false := decide_eq_false (cm_ne.mp h25)
                refine z_rcs hc hH 1 (pc' := 84) (lv' := [(2, .int ((0 + (nB (xHi0 μ))) + (nB (xHi1 μ)))), (1, .int ((0 + (nB (decide ((μ.1 56 0) = 0)))) + (nB (decide ((μ.1 56 1) = 0))))), (5, .int 1), (3, .int (0 + (nB ((decide ((μ.1 56 0) = 2)) || (decide ((μ.1 56 0) = 3)))))), (4, .int (nB (xOp μ q))), (0, .ref 50)]) (st' := [.int 0, .int (0 + (nB ((decide ((μ.1 56 0) = 2)) || (decide ((μ.1 56 0) = 3)))))]) (μ' := mGP μ g p f) (by rfl) ?_
                exact zJ hJ6 rfl (by simp only [h24, h25, lb_f, Int64.or_zero, nB_t, nB_f, Bool.not_true, Bool.not_false, Bool.and_true, Bool.true_and, Bool.false_and, Bool.and_false, Bool.or_true, Bool.true_or, Bool.false_or, Bool.or_false, cond_true, cond_false]) rfl
              · have h25 : (decide ((μ.1 56 1) = 3)) = true := decide_eq_true (cn_ne.mp h25)
                refine z_rcs hc hH 2 (pc' := 84) (lv' := [(2, .int ((0 + (nB (xHi0 μ))) + (nB (xHi1 μ)))), (1, .int ((0 + (nB (decide ((μ.1 56 0) = 0)))) + (nB (decide ((μ.1 56 1) = 0))))), (5, .int 1), (3, .int (0 + (nB ((decide ((μ.1 56 0) = 2)) || (decide ((μ.1 56 0) = 3)))))), (4, .int (nB (xOp μ q))), (0, .ref 50)]) (st' := [.int 1, .int (0 + (nB ((decide ((μ.1 56 0) = 2)) || (decide ((μ.1 56 0) = 3)))))]) (μ' := mGP μ g p f) (by rfl) ?_
                exact zJ hJ6 rfl (by simp only [h24, h25, lb_f, Int64.or_zero, nB_t, nB_f, Bool.not_true, Bool.not_false, Bool.and_true, Bool.true_and, Bool.false_and, Bool.and_false, Bool.or_true, Bool.true_or, Bool.false_or, Bool.or_false, cond_true, cond_false]) rfl
          refine zq_if hc hH (by rfl) (tg := 53) (by rfl) (fun h26 => ?_) (fun h26 => ?_)
          · have h26 : (xHi1 μ) = false := nB_z.mp (cm_eq9.mp h26)
            refine z_rcs hc hH 1 (pc' := 54) (lv' := [(1, .int ((0 + (nB (decide ((μ.1 56 0) = 0)))) + (nB (decide ((μ.1 56 1) = 0))))), (5, .int 1), (3, .int (0 + (nB ((decide ((μ.1 56 0) = 2)) || (decide ((μ.1 56 0) = 3)))))), (2, .int (0 + (nB (xHi0 μ)))), (4, .int (nB (xOp μ q))), (0, .ref 50)]) (st' := [.int 0, .int (0 + (nB (xHi0 μ)))]) (μ' := mGP μ g p f) (by rfl) ?_
            exact zJ hJ5 rfl (by simp only [h26, lb_f, Int64.or_zero, nB_t, nB_f, Bool.not_true, Bool.not_false, Bool.and_true, Bool.true_and, Bool.false_and, Bool.and_false, Bool.or_true, Bool.true_or, Bool.false_or, Bool.or_false, cond_true, cond_false]) rfl
          · have h26 : (xHi1 μ) = true := nB_n.mp (cn_eq.mp h26)
            refine z_rcs hc hH 2 (pc' := 54) (lv' := [(1, .int ((0 + (nB (decide ((μ.1 56 0) = 0)))) + (nB (decide ((μ.1 56 1) = 0))))), (5, .int 1), (3, .int (0 + (nB ((decide ((μ.1 56 0) = 2)) || (decide ((μ.1 56 0) = 3)))))), (2, .int (0 + (nB (xHi0 μ)))), (4, .int (nB (xOp μ q))), (0, .ref 50)]) (st' := [.int 1, .int (0 + (nB (xHi0 μ)))]) (μ' := mGP μ g p f) (by rfl) ?_
            exact zJ hJ5 rfl (by simp only [h26, lb_f, Int64.or_zero, nB_t, nB_f, Bool.not_true, Bool.not_false, Bool.and_true, Bool.true_and, Bool.false_and, Bool.and_false, Bool.or_true, Bool.true_or, Bool.false_or, Bool.or_false, cond_true, cond_false]) rfl
        refine zq_if hc hH (by rfl) (tg := 36) (by rfl) (fun h27 => ?_) (fun h27 => ?_)
        · have h27 : (decide ((μ.1 56 1) = 0)) = false := decide_eq_false (cm_ne.mp h27)
          refine z_rcs hc hH 1 (pc' := 37) (lv' := [(5, .int 1), (3, .int (0 + (nB ((decide ((μ.1 56 0) = 2)) || (decide ((μ.1 56 0) = 3)))))), (2, .int (0 + (nB (xHi0 μ)))), (1, .int (0 + (nB (decide ((μ.1 56 0) = 0))))), (4, .int (nB (xOp μ q))), (0, .ref 50)]) (st' := [.int 0, .int (0 + (nB (decide ((μ.1 56 0) = 0))))]) (μ' := mGP μ g p f) (by rfl) ?_
          exact zJ hJ4 rfl (by simp only [h27, lb_f, Int64.or_zero, nB_t, nB_f, Bool.not_true, Bool.not_false, Bool.and_true, Bool.true_and, Bool.false_and, Bool.and_false, Bool.or_true, Bool.true_or, Bool.false_or, Bool.or_false, cond_true, cond_false]) rfl
        · have h27 : (decide ((μ.1 56 1) = 0)) = true := decide_eq_true (cn_ne.mp h27)
          refine z_rcs hc hH 2 (pc' := 37) (lv' := [(5, .int 1), (3, .int (0 + (nB ((decide ((μ.1 56 0) = 2)) || (decide ((μ.1 56 0) = 3)))))), (2, .int (0 + (nB (xHi0 μ)))), (1, .int (0 + (nB (decide ((μ.1 56 0) = 0))))), (4, .int (nB (xOp μ q))), (0, .ref 50)]) (st' := [.int 1, .int (0 + (nB (decide ((μ.1 56 0) = 0))))]) (μ' := mGP μ g p f) (by rfl) ?_
          exact zJ hJ4 rfl (by simp only [h27, lb_f, Int64.or_zero, nB_t, nB_f, Bool.not_true, Bool.not_false, Bool.and_true, Bool.true_and, Bool.false_and, Bool.and_false, Bool.or_true, Bool.true_or, Bool.false_or, Bool.or_false, cond_true, cond_false]) rfl
      refine zq_ic hc hH (by rfl) (tg := 79) (by rfl) (fun h28 => ?_) (fun h28 => ?_)
      · have h28 : (decide ((μ.1 56 0) = 2)) = true := decide_eq_true (cm_eq9.mp h28)
        refine z_rcs hc hH 2 (pc' := 84) (lv' := [(2, .int (0 + (nB (xHi0 μ)))), (1, .int (0 + (nB (decide ((μ.1 56 0) = 0))))), (5, .int 0), (4, .int (nB (xOp μ q))), (3, .int 0), (0, .ref 50)]) (st' := [.int 1, .int 0]) (μ' := mGP μ g p f) (by rfl) ?_
        exact zJ hJ3 rfl (by simp only [h28, lb_f, Int64.or_zero, nB_t, nB_f, Bool.not_true, Bool.not_false, Bool.and_true, Bool.true_and, Bool.false_and, Bool.and_false, Bool.or_true, Bool.true_or, Bool.false_or, Bool.or_false, cond_true, cond_false]) rfl
      · have h28 : (decide ((μ.1 56 0) = 2)) = false := decide_eq_false (cn_eq.mp h28)
        refine z_rcs hc hH 3 (pc' := 74) (lv' := [(2, .int (0 + (nB (xHi0 μ)))), (1, .int (0 + (nB (decide ((μ.1 56 0) = 0))))), (5, .int 0), (4, .int (nB (xOp μ q))), (3, .int 0), (0, .ref 50)]) (st' := [.int 0, .ref 56, .int 0]) (μ' := mGP μ g p f) (by rfl) ?_
        refine zq_iald hc hH (by rfl) 4 (by decide +kernel) (show vp_in (nI 0) 4 from vp_in_nI (by decide) (by decide)) ?_
        show Z 0 75 [(2, .int (0 + (nB (xHi0 μ)))), (1, .int (0 + (nB (decide ((μ.1 56 0) = 0))))), (5, .int 0), (4, .int (nB (xOp μ q))), (3, .int 0), (0, .ref 50)] [.int (μ.1 56 0), .int 0] (mGP μ g p f)
        refine z_rcs hc hH 1 (pc' := 76) (lv' := [(2, .int (0 + (nB (xHi0 μ)))), (1, .int (0 + (nB (decide ((μ.1 56 0) = 0))))), (5, .int 0), (4, .int (nB (xOp μ q))), (3, .int 0), (0, .ref 50)]) (st' := [.int 3, .int (μ.1 56 0), .int 0]) (μ' := mGP μ g p f) (by rfl) ?_
        refine zq_ic hc hH (by rfl) (tg := 83) (by rfl) (fun h29 => ?_) (fun h29 => ?_)
        · have h29 : (decide ((μ.1 56 0) = 3)) = false := decide_eq_false (cm_ne.mp h29)
          refine z_rcs hc hH 1 (pc' := 84) (lv' := [(2, .int (0 + (nB (xHi0 μ)))), (1, .int (0 + (nB (decide ((μ.1 56 0) = 0))))), (5, .int 0), (4, .int (nB (xOp μ q))), (3, .int 0), (0, .ref 50)]) (st' := [.int 0, .int 0]) (μ' := mGP μ g p f) (by rfl) ?_
          exact zJ hJ3 rfl (by simp only [h28, h29, lb_f, Int64.or_zero, nB_t, nB_f, Bool.not_true, Bool.not_false, Bool.and_true, Bool.true_and, Bool.false_and, Bool.and_false, Bool.or_true, Bool.true_or, Bool.false_or, Bool.or_false, cond_true, cond_false]) rfl
        · have h29 : (decide ((μ.1 56 0) = 3)) = true := decide_eq_true (cn_ne.mp h29)
          refine z_rcs hc hH 2 (pc' := 84) (lv' := [(2, .int (0 + (nB (xHi0 μ)))), (1, .int (0 + (nB (decide ((μ.1 56 0) = 0))))), (5, .int 0), (4, .int (nB (xOp μ q))), (3, .int 0), (0, .ref 50)]) (st' := [.int 1, .int 0]) (μ' := mGP μ g p f) (by rfl) ?_
          exact zJ hJ3 rfl (by simp only [h28, h29, lb_f, Int64.or_zero, nB_t, nB_f, Bool.not_true, Bool.not_false, Bool.and_true, Bool.true_and, Bool.false_and, Bool.and_false, Bool.or_true, Bool.true_or, Bool.false_or, Bool.or_false, cond_true, cond_false]) rfl
    refine zq_if hc hH (by rfl) (tg := 53) (by rfl) (fun h30 => ?_) (fun h30 => ?_)
    · have h30 : (xHi0 μ) = false := nB_z.mp (cm_eq9.mp h30)
      refine z_rcs hc hH 1 (pc' := 54) (lv' := [(1, .int (0 + (nB (decide ((μ.1 56 0) = 0))))), (5, .int 0), (4, .int (nB (xOp μ q))), (3, .int 0), (2, .int 0), (0, .ref 50)]) (st' := [.int 0, .int 0]) (μ' := mGP μ g p f) (by rfl) ?_
      exact zJ hJ2 rfl (by simp only [h30, lb_f, Int64.or_zero, nB_t, nB_f, Bool.not_true, Bool.not_false, Bool.and_true, Bool.true_and, Bool.false_and, Bool.and_false, Bool.or_true, Bool.true_or, Bool.false_or, Bool.or_false, cond_true, cond_false]) rfl
    · have h30 : (xHi0 μ) = true := nB_n.mp (cn_eq.mp h30)
      refine z_rcs hc hH 2 (pc' := 54) (lv' := [(1, .int (0 + (nB (decide ((μ.1 56 0) = 0))))), (5, .int 0), (4, .int (nB (xOp μ q))), (3, .int 0), (2, .int 0), (0, .ref 50)]) (st' := [.int 1, .int 0]) (μ' := mGP μ g p f) (by rfl) ?_
      exact zJ hJ2 rfl (by simp only [h30, lb_f, Int64.or_zero, nB_t, nB_f, Bool.not_true, Bool.not_false, Bool.and_true, Bool.true_and, Bool.false_and, Bool.and_false, Bool.or_true, Bool.true_or, Bool.false_or, Bool.or_false, cond_true, cond_false]) rfl
  refine zq_if hc hH (by rfl) (tg := 36) (by rfl) (fun h31 => ?_) (fun h31 => ?_)
  · have h31 : (decide ((μ.1 56 0) = 0)) = false := decide_eq_false (cm_ne.mp h31)
    refine z_rcs hc hH 1 (pc' := 37) (lv' := [(5, .int 0), (4, .int (nB (xOp μ q))), (3, .int 0), (2, .int 0), (1, .int 0), (0, .ref 50)]) (st' := [.int 0, .int 0]) (μ' := mGP μ g p f) (by rfl) ?_
    exact zJ hJ1 rfl (by simp only [h31, lb_f, Int64.or_zero, nB_t, nB_f, Bool.not_true, Bool.not_false, Bool.and_true, Bool.true_and, Bool.false_and, Bool.and_false, Bool.or_true, Bool.true_or, Bool.false_or, Bool.or_false, cond_true, cond_false]) rfl
  · have h31 : (decide ((μ.1 56 0) = 0)) = true := decide_eq_true (cn_ne.mp h31)
    refine z_rcs hc hH 2 (pc' := 37) (lv' := [(5, .int 0), (4, .int (nB (xOp μ q))), (3, .int 0), (2, .int 0), (1, .int 0), (0, .ref 50)]) (st' := [.int 1, .int 0]) (μ' := mGP μ g p f) (by rfl) ?_
    exact zJ hJ1 rfl (by simp only [h31, lb_f, Int64.or_zero, nB_t, nB_f, Bool.not_true, Bool.not_false, Bool.and_true, Bool.true_and, Bool.false_and, Bool.and_false, Bool.or_true, Bool.true_or, Bool.false_or, Bool.or_false, cond_true, cond_false]) rfl
theorem fs92 (d' : Nat) (Z : zK) (hd : 4 ≤ d') (μ : zM) (q : Nat) (hq : q ≤ 4) (e4 : μ.1 50 4 = nI q) (s l : Nat → Nat) (hA : AY μ s l) (hco : vp_in (μ.1 50 22) 5) (hc : z_clo z_x0 mi_X7_firstSort (z_C d') Z) (x3 : Int32) (x2 : Int32) (x1 : Int32) (b4 : Bool) (g p : Int64) (f : Int32) (K : Z 0 164 [(6, .int (nB (!(decide (4 ≤ (μ.1 50 22))) && (decide ((μ.1 56 (μ.1 50 22).toNatClampNeg) = 0))))), (5, .int (nB ((xDr (μ.1 50 21)) || ((decide ((μ.1 50 21) = (27 + (μ.1 50 8)))) || (decide ((μ.1 50 21) = (27 + (μ.1 50 9)))))))), (3, .int x3), (2, .int x2), (1, .int x1), (4, .int (nB b4)), (0, .ref 50)] [] (mGP μ g p f)) : Z 0 92 [(5, .int 4), (3, .int x3), (2, .int x2), (1, .int x1), (4, .int (nB b4)), (0, .ref 50)] [] (mGP μ g p f) := by
  have hH : zH mi_X7_firstSort zt_X7_firstSort 79 7 14 := hh_X7_firstSort
  refine z_rcs hc hH 2 (pc' := 96) (lv' := [(5, .int 4), (3, .int x3), (2, .int x2), (1, .int x1), (4, .int (nB b4)), (0, .ref 50)]) (st' := [.int (μ.1 50 21)]) (μ' := mGP μ g p f) (by rfl) ?_
  refine zq_call hc (z_cx_ok hH (by rfl)) (fb_X7_isDragon d' (by omega) (mGP μ g p f) (μ.1 50 21)) (by decide +kernel) (fun r9 μ9 hq => ?_)
  obtain ⟨hμ9, rfl⟩ := hq
  rw [hμ9]
  clear hμ9 μ9
  show Z 0 99 [(5, .int 4), (3, .int x3), (2, .int x2), (1, .int x1), (4, .int (nB b4)), (0, .ref 50)] [.int (nB (xDr (μ.1 50 21)))] (mGP μ g p f)
  have hJ1 : Z 0 135 [(5, .int 4), (3, .int x3), (2, .int x2), (1, .int x1), (4, .int (nB b4)), (0, .ref 50)] [.int (nB ((xDr (μ.1 50 21)) || ((decide ((μ.1 50 21) = (27 + (μ.1 50 8)))) || (decide ((μ.1 50 21) = (27 + (μ.1 50 9)))))))] (mGP μ g p f) := by
    generalize hee2 : ((xDr (μ.1 50 21)) || ((decide ((μ.1 50 21) = (27 + (μ.1 50 8)))) || (decide ((μ.1 50 21) = (27 + (μ.1 50 9)))))) = ee2
    refine z_rcs hc hH 4 (pc' := 142) (lv' := [(5, .int (nB ee2)), (3, .int x3), (2, .int x2), (1, .int x1), (4, .int (nB b4)), (0, .ref 50)]) (st' := [.int 4, .int (μ.1 50 22)]) (μ' := mGP μ g p f) (by rfl) ?_
    have hJ3 : Z 0 162 [(5, .int (nB ee2)), (3, .int x3), (2, .int x2), (1, .int x1), (4, .int (nB b4)), (0, .ref 50)] [.int (nB (!(decide (4 ≤ (μ.1 50 22))) && (decide ((μ.1 56 (μ.1 50 22).toNatClampNeg) = 0))))] (mGP μ g p f) := by
      generalize hee4 : (!(decide (4 ≤ (μ.1 50 22))) && (decide ((μ.1 56 (μ.1 50 22).toNatClampNeg) = 0))) = ee4
      refine z_rcs hc hH 1 (pc' := 164) (lv' := [(6, .int (nB ee4)), (5, .int (nB ee2)), (3, .int x3), (2, .int x2), (1, .int x1), (4, .int (nB b4)), (0, .ref 50)]) (st' := []) (μ' := mGP μ g p f) (by rfl) ?_
      subst hee4
      subst hee2
      exact K
    refine zq_ic hc hH (by rfl) (tg := 161) (by rfl) (fun h5 => ?_) (fun h5 => ?_)
    · have h5 : (decide (4 ≤ (μ.1 50 22))) = true := decide_eq_true (cm_ge.mp h5)
      refine z_rcs hc hH 1 (pc' := 162) (lv' := [(5, .int (nB ee2)), (3, .int x3), (2, .int x2), (1, .int x1), (4, .int (nB b4)), (0, .ref 50)]) (st' := [.int 0]) (μ' := mGP μ g p f) (by rfl) ?_
      exact zJ hJ3 rfl (by simp only [h5, lb_f, Int64.or_zero, nB_t, nB_f, Bool.not_true, Bool.not_false, Bool.and_true, Bool.true_and, Bool.false_and, Bool.and_false, Bool.or_true, Bool.true_or, Bool.false_or, Bool.or_false, cond_true, cond_false]) rfl
    · have h5 : (decide (4 ≤ (μ.1 50 22))) = false := decide_eq_false (cn_ge.mp h5)
      refine z_rcs hc hH 4 (pc' := 153) (lv' := [(5, .int (nB ee2)), (3, .int x3), (2, .int x2), (1, .int x1), (4, .int (nB b4)), (0, .ref 50)]) (st' := [.int (μ.1 50 22), .ref 56]) (μ' := mGP μ g p f) (by rfl) ?_
      refine zq_iald hc hH (by rfl) 4 (by decide +kernel) (in4a hco h5) ?_
      refine zq_if hc hH (by rfl) (tg := 161) (by rfl) (fun h6 => ?_) (fun h6 => ?_)
      · have h6 : (decide ((μ.1 56 (μ.1 50 22).toNatClampNeg) = 0)) = false := decide_eq_false (cm_ne.mp h6)
        refine z_rcs hc hH 1 (pc' := 162) (lv' := [(5, .int (nB ee2)), (3, .int x3), (2, .int x2), (1, .int x1), (4, .int (nB b4)), (0, .ref 50)]) (st' := [.int 0]) (μ' := mGP μ g p f) (by rfl) ?_
        exact zJ hJ3 rfl (by simp only [h5, h6, lb_f, Int64.or_zero, nB_t, nB_f, Bool.not_true, Bool.not_false, Bool.and_true, Bool.true_and, Bool.false_and, Bool.and_false, Bool.or_true, Bool.true_or, Bool.false_or, Bool.or_false, cond_true, cond_false]) rfl
      · have h6 : (decide ((μ.1 56 (μ.1 50 22).toNatClampNeg) = 0)) = true := decide_eq_true (cn_ne.mp h6)
        refine z_rcs hc hH 2 (pc' := 162) (lv' := [(5, .int (nB ee2)), (3, .int x3), (2, .int x2), (1, .int x1), (4, .int (nB b4)), (0, .ref 50)]) (st' := [.int 1]) (μ' := mGP μ g p f) (by rfl) ?_
        exact zJ hJ3 rfl (by simp only [h5, h6, lb_f, Int64.or_zero, nB_t, nB_f, Bool.not_true, Bool.not_false, Bool.and_true, Bool.true_and, Bool.false_and, Bool.and_false, Bool.or_true, Bool.true_or, Bool.false_or, Bool.or_false, cond_true, cond_false]) rfl
  refine zq_if hc hH (by rfl) (tg := 130) (by rfl) (fun h7 => ?_) (fun h7 => ?_)
  · have h7 : (xDr (μ.1 50 21)) = true := nB_n.mp (cm_ne.mp h7)
    refine z_rcs hc hH 2 (pc' := 135) (lv' := [(5, .int 4), (3, .int x3), (2, .int x2), (1, .int x1), (4, .int (nB b4)), (0, .ref 50)]) (st' := [.int 1]) (μ' := mGP μ g p f) (by rfl) ?_
    exact zJ hJ1 rfl (by simp only [h7, lb_f, Int64.or_zero, nB_t, nB_f, Bool.not_true, Bool.not_false, Bool.and_true, Bool.true_and, Bool.false_and, Bool.and_false, Bool.or_true, Bool.true_or, Bool.false_or, Bool.or_false, cond_true, cond_false]) rfl
  · have h7 : (xDr (μ.1 50 21)) = false := nB_z.mp (cn_ne.mp h7)
    refine z_rcs hc hH 6 (pc' := 113) (lv' := [(5, .int 4), (3, .int x3), (2, .int x2), (1, .int x1), (4, .int (nB b4)), (0, .ref 50)]) (st' := [.int (27 + (μ.1 50 8)), .int (μ.1 50 21)]) (μ' := mGP μ g p f) (by rfl) ?_
    refine zq_ic hc hH (by rfl) (tg := 130) (by rfl) (fun h8 => ?_) (fun h8 => ?_)
    · have h8 : (decide ((μ.1 50 21) = (27 + (μ.1 50 8)))) = true := decide_eq_true (cm_eq9.mp h8)
      refine z_rcs hc hH 2 (pc' := 135) (lv' := [(5, .int 4), (3, .int x3), (2, .int x2), (1, .int x1), (4, .int (nB b4)), (0, .ref 50)]) (st' := [.int 1]) (μ' := mGP μ g p f) (by rfl) ?_
      exact zJ hJ1 rfl (by simp only [h7, h8, lb_f, Int64.or_zero, nB_t, nB_f, Bool.not_true, Bool.not_false, Bool.and_true, Bool.true_and, Bool.false_and, Bool.and_false, Bool.or_true, Bool.true_or, Bool.false_or, Bool.or_false, cond_true, cond_false]) rfl
    · have h8 : (decide ((μ.1 50 21) = (27 + (μ.1 50 8)))) = false := decide_eq_false (cn_eq.mp h8)
      refine z_rcs hc hH 6 (pc' := 127) (lv' := [(5, .int 4), (3, .int x3), (2, .int x2), (1, .int x1), (4, .int (nB b4)), (0, .ref 50)]) (st' := [.int (27 + (μ.1 50 9)), .int (μ.1 50 21)]) (μ' := mGP μ g p f) (by rfl) ?_
      refine zq_ic hc hH (by rfl) (tg := 134) (by rfl) (fun h9 => ?_) (fun h9 => ?_)
      · have h9 : (decide ((μ.1 50 21) = (27 + (μ.1 50 9)))) = false := decide_eq_false (cm_ne.mp h9)
        refine z_rcs hc hH 1 (pc' := 135) (lv' := [(5, .int 4), (3, .int x3), (2, .int x2), (1, .int x1), (4, .int (nB b4)), (0, .ref 50)]) (st' := [.int 0]) (μ' := mGP μ g p f) (by rfl) ?_
        exact zJ hJ1 rfl (by simp only [h7, h8, h9, lb_f, Int64.or_zero, nB_t, nB_f, Bool.not_true, Bool.not_false, Bool.and_true, Bool.true_and, Bool.false_and, Bool.and_false, Bool.or_true, Bool.true_or, Bool.false_or, Bool.or_false, cond_true, cond_false]) rfl
      · have h9 : (decide ((μ.1 50 21) = (27 + (μ.1 50 9)))) = true := decide_eq_true (cn_ne.mp h9)
        refine z_rcs hc hH 2 (pc' := 135) (lv' := [(5, .int 4), (3, .int x3), (2, .int x2), (1, .int x1), (4, .int (nB b4)), (0, .ref 50)]) (st' := [.int 1]) (μ' := mGP μ g p f) (by rfl) ?_
        exact zJ hJ1 rfl (by simp only [h7, h8, h9, lb_f, Int64.or_zero, nB_t, nB_f, Bool.not_true, Bool.not_false, Bool.and_true, Bool.true_and, Bool.false_and, Bool.and_false, Bool.or_true, Bool.true_or, Bool.false_or, Bool.or_false, cond_true, cond_false]) rfl
theorem fs164 (d' : Nat) (Z : zK) (hd : 4 ≤ d') (μ : zM) (q : Nat) (hq : q ≤ 4) (e4 : μ.1 50 4 = nI q) (s l : Nat → Nat) (hA : AY μ s l) (hco : vp_in (μ.1 50 22) 5) (hc : z_clo z_x0 mi_X7_firstSort (z_C d') Z) (b6 : Bool) (b5 : Bool) (x3 : Int32) (x2 : Int32) (x1 : Int32) (b4 : Bool) (h6 : b6 = true → decide ((4 : Int32) ≤ μ.1 50 22) = false) (g p : Int64) (f : Int32) (K : Z 0 184 [(7, .int (bif b6 then μ.1 57 (μ.1 50 22).toNatClampNeg else 0)), (6, .int (nB b6)), (5, .int (nB b5)), (3, .int x3), (2, .int x2), (1, .int x1), (4, .int (nB b4)), (0, .ref 50)] [] (mGP μ g p f)) : Z 0 164 [(6, .int (nB b6)), (5, .int (nB b5)), (3, .int x3), (2, .int x2), (1, .int x1), (4, .int (nB b4)), (0, .ref 50)] [] (mGP μ g p f) := by
  have hH : zH mi_X7_firstSort zt_X7_firstSort 79 7 14 := hh_X7_firstSort
  refine z_rcs hc hH 1 (pc' := 166) (lv' := [(6, .int (nB b6)), (5, .int (nB b5)), (3, .int x3), (2, .int x2), (1, .int x1), (4, .int (nB b4)), (0, .ref 50)]) (st' := [.int (nB b6)]) (μ' := mGP μ g p f) (by rfl) ?_
  have hJ1 : Z 0 182 [(6, .int (nB b6)), (5, .int (nB b5)), (3, .int x3), (2, .int x2), (1, .int x1), (4, .int (nB b4)), (0, .ref 50)] [.int (bif b6 then μ.1 57 (μ.1 50 22).toNatClampNeg else 0)] (mGP μ g p f) := by
    refine z_rcs hc hH 1 (pc' := 184) (lv' := [(7, .int (bif b6 then μ.1 57 (μ.1 50 22).toNatClampNeg else 0)), (6, .int (nB b6)), (5, .int (nB b5)), (3, .int x3), (2, .int x2), (1, .int x1), (4, .int (nB b4)), (0, .ref 50)]) (st' := []) (μ' := mGP μ g p f) (by rfl) ?_
    exact K
  refine zq_if hc hH (by rfl) (tg := 181) (by rfl) (fun h2 => ?_) (fun h2 => ?_)
  · have h2 : (b6) = false := nB_z.mp (cm_eq9.mp h2)
    refine z_rcs hc hH 1 (pc' := 182) (lv' := [(6, .int (nB b6)), (5, .int (nB b5)), (3, .int x3), (2, .int x2), (1, .int x1), (4, .int (nB b4)), (0, .ref 50)]) (st' := [.int 0]) (μ' := mGP μ g p f) (by rfl) ?_
    exact zJ hJ1 rfl (by simp only [h2, lb_f, Int64.or_zero, nB_t, nB_f, Bool.not_true, Bool.not_false, Bool.and_true, Bool.true_and, Bool.false_and, Bool.and_false, Bool.or_true, Bool.true_or, Bool.false_or, Bool.or_false, cond_true, cond_false]) rfl
  · have h2 : (b6) = true := nB_n.mp (cn_eq.mp h2)
    refine z_rcs hc hH 4 (pc' := 177) (lv' := [(6, .int (nB b6)), (5, .int (nB b5)), (3, .int x3), (2, .int x2), (1, .int x1), (4, .int (nB b4)), (0, .ref 50)]) (st' := [.int (μ.1 50 22), .ref 57]) (μ' := mGP μ g p f) (by rfl) ?_
    refine zq_iald hc hH (by rfl) 4 (by decide +kernel) (in4a hco (h6 h2)) ?_
    refine z_rcs hc hH 1 (pc' := 182) (lv' := [(6, .int (nB b6)), (5, .int (nB b5)), (3, .int x3), (2, .int x2), (1, .int x1), (4, .int (nB b4)), (0, .ref 50)]) (st' := [.int (μ.1 57 (μ.1 50 22).toNatClampNeg)]) (μ' := mGP μ g p f) (by rfl) ?_
    exact zJ hJ1 rfl (by simp only [h2, lb_f, Int64.or_zero, nB_t, nB_f, Bool.not_true, Bool.not_false, Bool.and_true, Bool.true_and, Bool.false_and, Bool.and_false, Bool.or_true, Bool.true_or, Bool.false_or, Bool.or_false, cond_true, cond_false]) rfl
theorem fs184 (d' : Nat) (Z : zK) (hd : 4 ≤ d') (μ : zM) (q : Nat) (hq : q ≤ 4) (e4 : μ.1 50 4 = nI q) (s l : Nat → Nat) (hA : AY μ s l) (hco : vp_in (μ.1 50 22) 5) (hc : z_clo z_x0 mi_X7_firstSort (z_C d') Z) (x7 : Int32) (b6 : Bool) (b5 : Bool) (x3 : Int32) (x2 : Int32) (x1 : Int32) (b4 : Bool) (g p : Int64) (f : Int32) (K : Z 0 261 [(9, .int (nB (!b4 && ((decide (x1 = 4)) && (!b5 && (b6 && (bif decide ((μ.1 50 7) = x7) then !(decide ((x7 - x7 / 9 * 9) = 6)) || ((decide ((μ.1 50 7) = (x7 + 2))) && (!(decide ((x7 - x7 / 9 * 9) = 0)))) else (decide ((μ.1 50 7) = (x7 + 2))) && (!(decide ((x7 - x7 / 9 * 9) = 0)))))))))), (8, .int (nB (b6 && (bif decide ((μ.1 50 7) = x7) then !(decide ((x7 - x7 / 9 * 9) = 6)) || ((decide ((μ.1 50 7) = (x7 + 2))) && (!(decide ((x7 - x7 / 9 * 9) = 0)))) else (decide ((μ.1 50 7) = (x7 + 2))) && (!(decide ((x7 - x7 / 9 * 9) = 0))))))), (7, .int x7), (6, .int (nB b6)), (5, .int (nB b5)), (3, .int x3), (2, .int x2), (1, .int x1), (4, .int (nB b4)), (0, .ref 50)] [] (mGP μ g p f)) : Z 0 184 [(7, .int x7), (6, .int (nB b6)), (5, .int (nB b5)), (3, .int x3), (2, .int x2), (1, .int x1), (4, .int (nB b4)), (0, .ref 50)] [] (mGP μ g p f) := by
  have hH : zH mi_X7_firstSort zt_X7_firstSort 79 7 14 := hh_X7_firstSort
  refine z_rcs hc hH 1 (pc' := 186) (lv' := [(7, .int x7), (6, .int (nB b6)), (5, .int (nB b5)), (3, .int x3), (2, .int x2), (1, .int x1), (4, .int (nB b4)), (0, .ref 50)]) (st' := [.int (nB b6)]) (μ' := mGP μ g p f) (by rfl) ?_
  have hJ1 : Z 0 232 [(7, .int x7), (6, .int (nB b6)), (5, .int (nB b5)), (3, .int x3), (2, .int x2), (1, .int x1), (4, .int (nB b4)), (0, .ref 50)] [.int (nB (b6 && (bif decide ((μ.1 50 7) = x7) then !(decide ((x7 - x7 / 9 * 9) = 6)) || ((decide ((μ.1 50 7) = (x7 + 2))) && (!(decide ((x7 - x7 / 9 * 9) = 0)))) else (decide ((μ.1 50 7) = (x7 + 2))) && (!(decide ((x7 - x7 / 9 * 9) = 0))))))] (mGP μ g p f) := by
    generalize hee2 : (b6 && (bif decide ((μ.1 50 7) = x7) then !(decide ((x7 - x7 / 9 * 9) = 6)) || ((decide ((μ.1 50 7) = (x7 + 2))) && (!(decide ((x7 - x7 / 9 * 9) = 0)))) else (decide ((μ.1 50 7) = (x7 + 2))) && (!(decide ((x7 - x7 / 9 * 9) = 0))))) = ee2
    refine z_rcs hc hH 2 (pc' := 236) (lv' := [(8, .int (nB ee2)), (7, .int x7), (6, .int (nB b6)), (5, .int (nB b5)), (3, .int x3), (2, .int x2), (1, .int x1), (4, .int (nB b4)), (0, .ref 50)]) (st' := [.int (nB b4)]) (μ' := mGP μ g p f) (by rfl) ?_
    have hJ3 : Z 0 259 [(8, .int (nB ee2)), (7, .int x7), (6, .int (nB b6)), (5, .int (nB b5)), (3, .int x3), (2, .int x2), (1, .int x1), (4, .int (nB b4)), (0, .ref 50)] [.int (nB (!b4 && ((decide (x1 = 4)) && (!b5 && ee2))))] (mGP μ g p f) := by
      refine z_rcs hc hH 1 (pc' := 261) (lv' := [(9, .int (nB (!b4 && ((decide (x1 = 4)) && (!b5 && ee2))))), (8, .int (nB ee2)), (7, .int x7), (6, .int (nB b6)), (5, .int (nB b5)), (3, .int x3), (2, .int x2), (1, .int x1), (4, .int (nB b4)), (0, .ref 50)]) (st' := []) (μ' := mGP μ g p f) (by rfl) ?_
      subst hee2
      exact K
    refine zq_if hc hH (by rfl) (tg := 258) (by rfl) (fun h4 => ?_) (fun h4 => ?_)
    · have h4 : (b4) = true := nB_n.mp (cm_ne.mp h4)
      refine z_rcs hc hH 1 (pc' := 259) (lv' := [(8, .int (nB ee2)), (7, .int x7), (6, .int (nB b6)), (5, .int (nB b5)), (3, .int x3), (2, .int x2), (1, .int x1), (4, .int (nB b4)), (0, .ref 50)]) (st' := [.int 0]) (μ' := mGP μ g p f) (by rfl) ?_
      exact zJ hJ3 rfl (by simp only [h4, lb_f, Int64.or_zero, nB_t, nB_f, Bool.not_true, Bool.not_false, Bool.and_true, Bool.true_and, Bool.false_and, Bool.and_false, Bool.or_true, Bool.true_or, Bool.false_or, Bool.or_false, cond_true, cond_false]) rfl
    · have h4 : (b4) = false := nB_z.mp (cn_ne.mp h4)
      refine z_rcs hc hH 2 (pc' := 241) (lv' := [(8, .int (nB ee2)), (7, .int x7), (6, .int (nB b6)), (5, .int (nB b5)), (3, .int x3), (2, .int x2), (1, .int x1), (4, .int (nB b4)), (0, .ref 50)]) (st' := [.int 4, .int x1]) (μ' := mGP μ g p f) (by rfl) ?_
      refine zq_ic hc hH (by rfl) (tg := 258) (by rfl) (fun h5 => ?_) (fun h5 => ?_)
      · have h5 : (decide (x1 = 4)) = false := decide_eq_false (cm_ne.mp h5)
        refine z_rcs hc hH 1 (pc' := 259) (lv' := [(8, .int (nB ee2)), (7, .int x7), (6, .int (nB b6)), (5, .int (nB b5)), (3, .int x3), (2, .int x2), (1, .int x1), (4, .int (nB b4)), (0, .ref 50)]) (st' := [.int 0]) (μ' := mGP μ g p f) (by rfl) ?_
        exact zJ hJ3 rfl (by simp only [h4, h5, lb_f, Int64.or_zero, nB_t, nB_f, Bool.not_true, Bool.not_false, Bool.and_true, Bool.true_and, Bool.false_and, Bool.and_false, Bool.or_true, Bool.true_or, Bool.false_or, Bool.or_false, cond_true, cond_false]) rfl
      · have h5 : (decide (x1 = 4)) = true := decide_eq_true (cn_ne.mp h5)
        refine z_rcs hc hH 1 (pc' := 246) (lv' := [(8, .int (nB ee2)), (7, .int x7), (6, .int (nB b6)), (5, .int (nB b5)), (3, .int x3), (2, .int x2), (1, .int x1), (4, .int (nB b4)), (0, .ref 50)]) (st' := [.int (nB b5)]) (μ' := mGP μ g p f) (by rfl) ?_
        refine zq_if hc hH (by rfl) (tg := 258) (by rfl) (fun h6 => ?_) (fun h6 => ?_)
        · have h6 : (b5) = true := nB_n.mp (cm_ne.mp h6)
          refine z_rcs hc hH 1 (pc' := 259) (lv' := [(8, .int (nB ee2)), (7, .int x7), (6, .int (nB b6)), (5, .int (nB b5)), (3, .int x3), (2, .int x2), (1, .int x1), (4, .int (nB b4)), (0, .ref 50)]) (st' := [.int 0]) (μ' := mGP μ g p f) (by rfl) ?_
          exact zJ hJ3 rfl (by simp only [h4, h5, h6, lb_f, Int64.or_zero, nB_t, nB_f, Bool.not_true, Bool.not_false, Bool.and_true, Bool.true_and, Bool.false_and, Bool.and_false, Bool.or_true, Bool.true_or, Bool.false_or, Bool.or_false, cond_true, cond_false]) rfl
        · have h6 : (b5) = false := nB_z.mp (cn_ne.mp h6)
          refine z_rcs hc hH 1 (pc' := 251) (lv' := [(8, .int (nB ee2)), (7, .int x7), (6, .int (nB b6)), (5, .int (nB b5)), (3, .int x3), (2, .int x2), (1, .int x1), (4, .int (nB b4)), (0, .ref 50)]) (st' := [.int (nB ee2)]) (μ' := mGP μ g p f) (by rfl) ?_
          refine zq_if hc hH (by rfl) (tg := 258) (by rfl) (fun h7 => ?_) (fun h7 => ?_)
          · have h7 : (ee2) = false := nB_z.mp (cm_eq9.mp h7)
            refine z_rcs hc hH 1 (pc' := 259) (lv' := [(8, .int (nB ee2)), (7, .int x7), (6, .int (nB b6)), (5, .int (nB b5)), (3, .int x3), (2, .int x2), (1, .int x1), (4, .int (nB b4)), (0, .ref 50)]) (st' := [.int 0]) (μ' := mGP μ g p f) (by rfl) ?_
            exact zJ hJ3 rfl (by simp only [h4, h5, h6, h7, lb_f, Int64.or_zero, nB_t, nB_f, Bool.not_true, Bool.not_false, Bool.and_true, Bool.true_and, Bool.false_and, Bool.and_false, Bool.or_true, Bool.true_or, Bool.false_or, Bool.or_false, cond_true, cond_false]) rfl
          · have h7 : (ee2) = true := nB_n.mp (cn_eq.mp h7)
            refine z_rcs hc hH 2 (pc' := 259) (lv' := [(8, .int (nB ee2)), (7, .int x7), (6, .int (nB b6)), (5, .int (nB b5)), (3, .int x3), (2, .int x2), (1, .int x1), (4, .int (nB b4)), (0, .ref 50)]) (st' := [.int 1]) (μ' := mGP μ g p f) (by rfl) ?_
            exact zJ hJ3 rfl (by simp only [h4, h5, h6, h7, lb_f, Int64.or_zero, nB_t, nB_f, Bool.not_true, Bool.not_false, Bool.and_true, Bool.true_and, Bool.false_and, Bool.and_false, Bool.or_true, Bool.true_or, Bool.false_or, Bool.or_false, cond_true, cond_false]) rfl
  refine zq_if hc hH (by rfl) (tg := 231) (by rfl) (fun h8 => ?_) (fun h8 => ?_)
  · have h8 : (b6) = false := nB_z.mp (cm_eq9.mp h8)
    refine z_rcs hc hH 1 (pc' := 232) (lv' := [(7, .int x7), (6, .int (nB b6)), (5, .int (nB b5)), (3, .int x3), (2, .int x2), (1, .int x1), (4, .int (nB b4)), (0, .ref 50)]) (st' := [.int 0]) (μ' := mGP μ g p f) (by rfl) ?_
    exact zJ hJ1 rfl (by simp only [h8, lb_f, Int64.or_zero, nB_t, nB_f, Bool.not_true, Bool.not_false, Bool.and_true, Bool.true_and, Bool.false_and, Bool.and_false, Bool.or_true, Bool.true_or, Bool.false_or, Bool.or_false, cond_true, cond_false]) rfl
  · have h8 : (b6) = true := nB_n.mp (cn_eq.mp h8)
    refine z_rcs hc hH 3 (pc' := 195) (lv' := [(7, .int x7), (6, .int (nB b6)), (5, .int (nB b5)), (3, .int x3), (2, .int x2), (1, .int x1), (4, .int (nB b4)), (0, .ref 50)]) (st' := [.int x7, .int (μ.1 50 7)]) (μ' := mGP μ g p f) (by rfl) ?_
    refine zq_ic hc hH (by rfl) (tg := 208) (by rfl) (fun h9 => ?_) (fun h9 => ?_)
    · have h9 : (decide ((μ.1 50 7) = x7)) = false := decide_eq_false (cm_ne.mp h9)
      refine z_rcs hc hH 5 (pc' := 216) (lv' := [(7, .int x7), (6, .int (nB b6)), (5, .int (nB b5)), (3, .int x3), (2, .int x2), (1, .int x1), (4, .int (nB b4)), (0, .ref 50)]) (st' := [.int (x7 + 2), .int (μ.1 50 7)]) (μ' := mGP μ g p f) (by rfl) ?_
      refine zq_ic hc hH (by rfl) (tg := 231) (by rfl) (fun h10 => ?_) (fun h10 => ?_)
      · have h10 : (decide ((μ.1 50 7) = (x7 + 2))) = false := decide_eq_false (cm_ne.mp h10)
        refine z_rcs hc hH 1 (pc' := 232) (lv' := [(7, .int x7), (6, .int (nB b6)), (5, .int (nB b5)), (3, .int x3), (2, .int x2), (1, .int x1), (4, .int (nB b4)), (0, .ref 50)]) (st' := [.int 0]) (μ' := mGP μ g p f) (by rfl) ?_
        exact zJ hJ1 rfl (by simp only [h8, h9, h10, lb_f, Int64.or_zero, nB_t, nB_f, Bool.not_true, Bool.not_false, Bool.and_true, Bool.true_and, Bool.false_and, Bool.and_false, Bool.or_true, Bool.true_or, Bool.false_or, Bool.or_false, cond_true, cond_false]) rfl
      · have h10 : (decide ((μ.1 50 7) = (x7 + 2))) = true := decide_eq_true (cn_ne.mp h10)
        refine z_rcs hc hH 3 (pc' := 224) (lv' := [(7, .int x7), (6, .int (nB b6)), (5, .int (nB b5)), (3, .int x3), (2, .int x2), (1, .int x1), (4, .int (nB b4)), (0, .ref 50)]) (st' := [.int (x7 - x7 / 9 * 9)]) (μ' := mGP μ g p f) (by rfl) ?_
        refine zq_if hc hH (by rfl) (tg := 231) (by rfl) (fun h11 => ?_) (fun h11 => ?_)
        · have h11 : (decide ((x7 - x7 / 9 * 9) = 0)) = true := decide_eq_true (cm_eq9.mp h11)
          refine z_rcs hc hH 1 (pc' := 232) (lv' := [(7, .int x7), (6, .int (nB b6)), (5, .int (nB b5)), (3, .int x3), (2, .int x2), (1, .int x1), (4, .int (nB b4)), (0, .ref 50)]) (st' := [.int 0]) (μ' := mGP μ g p f) (by rfl) ?_
          exact zJ hJ1 rfl (by simp only [h8, h9, h10, h11, lb_f, Int64.or_zero, nB_t, nB_f, Bool.not_true, Bool.not_false, Bool.and_true, Bool.true_and, Bool.false_and, Bool.and_false, Bool.or_true, Bool.true_or, Bool.false_or, Bool.or_false, cond_true, cond_false]) rfl
        · have h11 : (decide ((x7 - x7 / 9 * 9) = 0)) = false := decide_eq_false (cn_eq.mp h11)
          refine z_rcs hc hH 2 (pc' := 232) (lv' := [(7, .int x7), (6, .int (nB b6)), (5, .int (nB b5)), (3, .int x3), (2, .int x2), (1, .int x1), (4, .int (nB b4)), (0, .ref 50)]) (st' := [.int 1]) (μ' := mGP μ g p f) (by rfl) ?_
          exact zJ hJ1 rfl (by simp only [h8, h9, h10, h11, lb_f, Int64.or_zero, nB_t, nB_f, Bool.not_true, Bool.not_false, Bool.and_true, Bool.true_and, Bool.false_and, Bool.and_false, Bool.or_true, Bool.true_or, Bool.false_or, Bool.or_false, cond_true, cond_false]) rfl
    · have h9 : (decide ((μ.1 50 7) = x7)) = true := decide_eq_true (cn_ne.mp h9)
      refine z_rcs hc hH 4 (pc' := 205) (lv' := [(7, .int x7), (6, .int (nB b6)), (5, .int (nB b5)), (3, .int x3), (2, .int x2), (1, .int x1), (4, .int (nB b4)), (0, .ref 50)]) (st' := [.int 6, .int (x7 - x7 / 9 * 9)]) (μ' := mGP μ g p f) (by rfl) ?_
      refine zq_ic hc hH (by rfl) (tg := 227) (by rfl) (fun h12 => ?_) (fun h12 => ?_)
      · have h12 : (decide ((x7 - x7 / 9 * 9) = 6)) = false := decide_eq_false (cm_ne.mp h12)
        refine z_rcs hc hH 2 (pc' := 232) (lv' := [(7, .int x7), (6, .int (nB b6)), (5, .int (nB b5)), (3, .int x3), (2, .int x2), (1, .int x1), (4, .int (nB b4)), (0, .ref 50)]) (st' := [.int 1]) (μ' := mGP μ g p f) (by rfl) ?_
        exact zJ hJ1 rfl (by simp only [h8, h9, h12, lb_f, Int64.or_zero, nB_t, nB_f, Bool.not_true, Bool.not_false, Bool.and_true, Bool.true_and, Bool.false_and, Bool.and_false, Bool.or_true, Bool.true_or, Bool.false_or, Bool.or_false, cond_true, cond_false]) rfl
      · have h12 : (decide ((x7 - x7 / 9 * 9) = 6)) = true := decide_eq_true (cn_ne.mp h12)
        refine z_rcs hc hH 5 (pc' := 216) (lv' := [(7, .int x7), (6, .int (nB b6)), (5, .int (nB b5)), (3, .int x3), (2, .int x2), (1, .int x1), (4, .int (nB b4)), (0, .ref 50)]) (st' := [.int (x7 + 2), .int (μ.1 50 7)]) (μ' := mGP μ g p f) (by rfl) ?_
        refine zq_ic hc hH (by rfl) (tg := 231) (by rfl) (fun h13 => ?_) (fun h13 => ?_)
        · have h13 : (decide ((μ.1 50 7) = (x7 + 2))) = false := decide_eq_false (cm_ne.mp h13)
          refine z_rcs hc hH 1 (pc' := 232) (lv' := [(7, .int x7), (6, .int (nB b6)), (5, .int (nB b5)), (3, .int x3), (2, .int x2), (1, .int x1), (4, .int (nB b4)), (0, .ref 50)]) (st' := [.int 0]) (μ' := mGP μ g p f) (by rfl) ?_
          exact zJ hJ1 rfl (by simp only [h8, h9, h12, h13, lb_f, Int64.or_zero, nB_t, nB_f, Bool.not_true, Bool.not_false, Bool.and_true, Bool.true_and, Bool.false_and, Bool.and_false, Bool.or_true, Bool.true_or, Bool.false_or, Bool.or_false, cond_true, cond_false]) rfl
        · have h13 : (decide ((μ.1 50 7) = (x7 + 2))) = true := decide_eq_true (cn_ne.mp h13)
          refine z_rcs hc hH 3 (pc' := 224) (lv' := [(7, .int x7), (6, .int (nB b6)), (5, .int (nB b5)), (3, .int x3), (2, .int x2), (1, .int x1), (4, .int (nB b4)), (0, .ref 50)]) (st' := [.int (x7 - x7 / 9 * 9)]) (μ' := mGP μ g p f) (by rfl) ?_
          refine zq_if hc hH (by rfl) (tg := 231) (by rfl) (fun h14 => ?_) (fun h14 => ?_)
          · have h14 : (decide ((x7 - x7 / 9 * 9) = 0)) = true := decide_eq_true (cm_eq9.mp h14)
            refine z_rcs hc hH 1 (pc' := 232) (lv' := [(7, .int x7), (6, .int (nB b6)), (5, .int (nB b5)), (3, .int x3), (2, .int x2), (1, .int x1), (4, .int (nB b4)), (0, .ref 50)]) (st' := [.int 0]) (μ' := mGP μ g p f) (by rfl) ?_
            exact zJ hJ1 rfl (by simp only [h8, h9, h12, h13, h14, lb_f, Int64.or_zero, nB_t, nB_f, Bool.not_true, Bool.not_false, Bool.and_true, Bool.true_and, Bool.false_and, Bool.and_false, Bool.or_true, Bool.true_or, Bool.false_or, Bool.or_false, cond_true, cond_false]) rfl
          · have h14 : (decide ((x7 - x7 / 9 * 9) = 0)) = false := decide_eq_false (cn_eq.mp h14)
            refine z_rcs hc hH 2 (pc' := 232) (lv' := [(7, .int x7), (6, .int (nB b6)), (5, .int (nB b5)), (3, .int x3), (2, .int x2), (1, .int x1), (4, .int (nB b4)), (0, .ref 50)]) (st' := [.int 1]) (μ' := mGP μ g p f) (by rfl) ?_
            exact zJ hJ1 rfl (by simp only [h8, h9, h12, h13, h14, lb_f, Int64.or_zero, nB_t, nB_f, Bool.not_true, Bool.not_false, Bool.and_true, Bool.true_and, Bool.false_and, Bool.and_false, Bool.or_true, Bool.true_or, Bool.false_or, Bool.or_false, cond_true, cond_false]) rfl
theorem fs261 (d' : Nat) (Z : zK) (hd : 4 ≤ d') (μ : zM) (q : Nat) (hq : q ≤ 4) (e4 : μ.1 50 4 = nI q) (s l : Nat → Nat) (hA : AY μ s l) (hco : vp_in (μ.1 50 22) 5) (hc : z_clo z_x0 mi_X7_firstSort (z_C d') Z) (b9 : Bool) (b8 : Bool) (x7 : Int32) (b6 : Bool) (b5 : Bool) (x3 : Int32) (x2 : Int32) (x1 : Int32) (b4 : Bool) (g p : Int64) (f : Int32) (K : Z 0 302 [(10, .int 0), (9, .int (nB b9)), (8, .int (nB b8)), (7, .int x7), (6, .int (nB b6)), (5, .int (nB b5)), (3, .int x3), (2, .int x2), (1, .int x1), (4, .int (nB b4)), (0, .ref 50)] [] (mGP μ (0 : Int64) (bif b4 then (0 : Int64) ||| (lb b9 9) else (((0 : Int64) ||| (lb b9 9)) ||| (lb (decide ((nI (twn s l 27)) = 1)) 10)) ||| (lb (decide ((nI (twn s l 27)) = 2)) 28)) f)) : Z 0 261 [(9, .int (nB b9)), (8, .int (nB b8)), (7, .int x7), (6, .int (nB b6)), (5, .int (nB b5)), (3, .int x3), (2, .int x2), (1, .int x1), (4, .int (nB b4)), (0, .ref 50)] [] (mGP μ g p f) := by
  have hH : zH mi_X7_firstSort zt_X7_firstSort 79 7 14 := hh_X7_firstSort
  refine z_rcs hc hH 3 (pc' := 266) (lv' := [(9, .int (nB b9)), (8, .int (nB b8)), (7, .int x7), (6, .int (nB b6)), (5, .int (nB b5)), (3, .int x3), (2, .int x2), (1, .int x1), (4, .int (nB b4)), (0, .ref 50)]) (st' := []) (μ' := z_uj (mGP μ g p f) 50 24 (0 : Int64)) (by rfl) ?_
  rw [mGP_g]
  refine z_rcs hc hH 3 (pc' := 271) (lv' := [(9, .int (nB b9)), (8, .int (nB b8)), (7, .int x7), (6, .int (nB b6)), (5, .int (nB b5)), (3, .int x3), (2, .int x2), (1, .int x1), (4, .int (nB b4)), (0, .ref 50)]) (st' := []) (μ' := z_uj (mGP μ (0 : Int64) p f) 50 25 (0 : Int64)) (by rfl) ?_
  rw [mGP_p]
  refine z_rcs hc hH 1 (pc' := 273) (lv' := [(9, .int (nB b9)), (8, .int (nB b8)), (7, .int x7), (6, .int (nB b6)), (5, .int (nB b5)), (3, .int x3), (2, .int x2), (1, .int x1), (4, .int (nB b4)), (0, .ref 50)]) (st' := [.int (nB b9)]) (μ' := mGP μ (0 : Int64) (0 : Int64) f) (by rfl) ?_
  have hJ1 : Z 0 290 [(9, .int (nB b9)), (8, .int (nB b8)), (7, .int x7), (6, .int (nB b6)), (5, .int (nB b5)), (3, .int x3), (2, .int x2), (1, .int x1), (4, .int (nB b4)), (0, .ref 50)] [] (mGP μ (0 : Int64) ((0 : Int64) ||| (lb b9 9)) f) := by
    refine z_rcs0 hc hH 1 (pc' := 292) (lv' := [(9, .int (nB b9)), (8, .int (nB b8)), (7, .int x7), (6, .int (nB b6)), (5, .int (nB b5)), (3, .int x3), (2, .int x2), (1, .int x1), (4, .int (nB b4)), (0, .ref 50)]) (st' := [.int (nB b4)]) (by rfl) ?_
    have hJ2 : Z 0 299 [(9, .int (nB b9)), (8, .int (nB b8)), (7, .int x7), (6, .int (nB b6)), (5, .int (nB b5)), (3, .int x3), (2, .int x2), (1, .int x1), (4, .int (nB b4)), (0, .ref 50)] [] (mGP μ (0 : Int64) (bif b4 then (0 : Int64) ||| (lb b9 9) else (((0 : Int64) ||| (lb b9 9)) ||| (lb (decide ((nI (twn s l 27)) = 1)) 10)) ||| (lb (decide ((nI (twn s l 27)) = 2)) 28)) f) := by
      generalize hyy3 : (bif b4 then (0 : Int64) ||| (lb b9 9) else (((0 : Int64) ||| (lb b9 9)) ||| (lb (decide ((nI (twn s l 27)) = 1)) 10)) ||| (lb (decide ((nI (twn s l 27)) = 2)) 28) : Int64) = yy3
      refine z_rcs hc hH 2 (pc' := 302) (lv' := [(10, .int 0), (9, .int (nB b9)), (8, .int (nB b8)), (7, .int x7), (6, .int (nB b6)), (5, .int (nB b5)), (3, .int x3), (2, .int x2), (1, .int x1), (4, .int (nB b4)), (0, .ref 50)]) (st' := []) (μ' := mGP μ (0 : Int64) yy3 f) (by rfl) ?_
      subst hyy3
      exact K
    refine zq_if hc hH (by rfl) (tg := 299) (by rfl) (fun h4 => ?_) (fun h4 => ?_)
    · have h4 : (b4) = true := nB_n.mp (cm_ne.mp h4)
      exact zJ hJ2 rfl rfl (by simp only [h4, lb_f, Int64.or_zero, nB_t, nB_f, Bool.not_true, Bool.not_false, Bool.and_true, Bool.true_and, Bool.false_and, Bool.and_false, Bool.or_true, Bool.true_or, Bool.false_or, Bool.or_false, cond_true, cond_false])
    · have h4 : (b4) = false := nB_z.mp (cn_ne.mp h4)
      refine z_rcs hc hH 1 (pc' := 296) (lv' := [(9, .int (nB b9)), (8, .int (nB b8)), (7, .int x7), (6, .int (nB b6)), (5, .int (nB b5)), (3, .int x3), (2, .int x2), (1, .int x1), (4, .int (nB b4)), (0, .ref 50)]) (st' := [.ref 50]) (μ' := mGP μ (0 : Int64) ((0 : Int64) ||| (lb b9 9)) f) (by rfl) ?_
      refine zq_call hc (z_cx_ok hH (by rfl)) (fb_X7_twins d' (by omega) (mGP μ (0 : Int64) ((0 : Int64) ||| (lb b9 9)) f) s l hA) (by decide +kernel) (fun r9 μ9 hq => ?_)
      obtain ⟨rfl, rfl⟩ := hq
      rw [mGP2]
      show Z 0 299 [(9, .int (nB b9)), (8, .int (nB b8)), (7, .int x7), (6, .int (nB b6)), (5, .int (nB b5)), (3, .int x3), (2, .int x2), (1, .int x1), (4, .int (nB b4)), (0, .ref 50)] [] (mGP μ (0 : Int64) ((((0 : Int64) ||| (lb b9 9)) ||| (lb (decide ((nI (twn s l 27)) = 1)) 10)) ||| (lb (decide ((nI (twn s l 27)) = 2)) 28)) f)
      exact zJ hJ2 rfl rfl (by simp only [h4, lb_f, Int64.or_zero, nB_t, nB_f, Bool.not_true, Bool.not_false, Bool.and_true, Bool.true_and, Bool.false_and, Bool.and_false, Bool.or_true, Bool.true_or, Bool.false_or, Bool.or_false, cond_true, cond_false])
  refine zq_if hc hH (by rfl) (tg := 290) (by rfl) (fun h5 => ?_) (fun h5 => ?_)
  · have h5 : (b9) = false := nB_z.mp (cm_eq9.mp h5)
    exact zJ hJ1 rfl rfl (by simp only [h5, lb_f, Int64.or_zero, nB_t, nB_f, Bool.not_true, Bool.not_false, Bool.and_true, Bool.true_and, Bool.false_and, Bool.and_false, Bool.or_true, Bool.true_or, Bool.false_or, Bool.or_false, cond_true, cond_false])
  · have h5 : (b9) = true := nB_n.mp (cn_eq.mp h5)
    refine z_rcs hc hH 4 (pc' := 283) (lv' := [(9, .int (nB b9)), (8, .int (nB b8)), (7, .int x7), (6, .int (nB b6)), (5, .int (nB b5)), (3, .int x3), (2, .int x2), (1, .int x1), (4, .int (nB b4)), (0, .ref 50)]) (st' := [.int 9, .long (0 : Int64), .ref 50]) (μ' := mGP μ (0 : Int64) (0 : Int64) f) (by rfl) ?_
    refine zq_call hc (z_cx_ok hH (by rfl)) (fb_X7_bit d' (by omega) (mGP μ (0 : Int64) (0 : Int64) f) 9) (by decide +kernel) (fun r9 μ9 hq => ?_)
    obtain ⟨hμ9, rfl⟩ := hq
    rw [hμ9]
    clear hμ9 μ9
    show Z 0 286 [(9, .int (nB b9)), (8, .int (nB b8)), (7, .int x7), (6, .int (nB b6)), (5, .int (nB b5)), (3, .int x3), (2, .int x2), (1, .int x1), (4, .int (nB b4)), (0, .ref 50)] [.long (lb true 9), .long (0 : Int64), .ref 50] _
    refine z_rcs hc hH 2 (pc' := 290) (lv' := [(9, .int (nB b9)), (8, .int (nB b8)), (7, .int x7), (6, .int (nB b6)), (5, .int (nB b5)), (3, .int x3), (2, .int x2), (1, .int x1), (4, .int (nB b4)), (0, .ref 50)]) (st' := []) (μ' := z_uj (mGP μ (0 : Int64) (0 : Int64) f) 50 25 ((0 : Int64) ||| (lb true 9))) (by rfl) ?_
    rw [mGP_p]
    exact zJ hJ1 rfl rfl (by simp only [h5, lb_f, Int64.or_zero, nB_t, nB_f, Bool.not_true, Bool.not_false, Bool.and_true, Bool.true_and, Bool.false_and, Bool.and_false, Bool.or_true, Bool.true_or, Bool.false_or, Bool.or_false, cond_true, cond_false])
theorem fs302 (d' : Nat) (Z : zK) (hd : 4 ≤ d') (μ : zM) (q : Nat) (hq : q ≤ 4) (e4 : μ.1 50 4 = nI q) (s l : Nat → Nat) (hA : AY μ s l) (hco : vp_in (μ.1 50 22) 5) (hc : z_clo z_x0 mi_X7_firstSort (z_C d') Z) (b9 : Bool) (b8 : Bool) (x7 : Int32) (b6 : Bool) (b5 : Bool) (x3 : Int32) (x2 : Int32) (x1 : Int32) (b4 : Bool) (g p : Int64) (f : Int32) (K : Z 0 402 [(10, .int 0), (9, .int (nB b9)), (8, .int (nB b8)), (7, .int x7), (6, .int (nB b6)), (5, .int (nB b5)), (3, .int x3), (2, .int x2), (1, .int x1), (4, .int (nB b4)), (0, .ref 50)] [] (mGP μ g (((((p ||| (lb (xT μ 31) 11)) ||| (lb (xT μ 32) 12)) ||| (lb (xT μ 33) 13)) ||| (lb (xT μ (27 + (μ.1 50 8))) 14)) ||| (lb (xT μ (27 + (μ.1 50 9))) 15)) f)) : Z 0 302 [(10, .int 0), (9, .int (nB b9)), (8, .int (nB b8)), (7, .int x7), (6, .int (nB b6)), (5, .int (nB b5)), (3, .int x3), (2, .int x2), (1, .int x1), (4, .int (nB b4)), (0, .ref 50)] [] (mGP μ g p f) := by
  have hH : zH mi_X7_firstSort zt_X7_firstSort 79 7 14 := hh_X7_firstSort
  refine z_rcs hc hH 7 (pc' := 314) (lv' := [(10, .int 0), (9, .int (nB b9)), (8, .int (nB b8)), (7, .int x7), (6, .int (nB b6)), (5, .int (nB b5)), (3, .int x3), (2, .int x2), (1, .int x1), (4, .int (nB b4)), (0, .ref 50)]) (st' := [.int 31, .ref 50]) (μ' := mGP μ g p f) (by rfl) ?_
  refine zq_call hc (z_cx_ok hH (by rfl)) (fb_X7_hasThree d' (by omega) (mGP μ g p f) 31) (by decide +kernel) (fun r9 μ9 hq => ?_)
  obtain ⟨hμ9, rfl⟩ := hq
  rw [hμ9]
  clear hμ9 μ9
  show Z 0 317 [(10, .int 0), (9, .int (nB b9)), (8, .int (nB b8)), (7, .int x7), (6, .int (nB b6)), (5, .int (nB b5)), (3, .int x3), (2, .int x2), (1, .int x1), (4, .int (nB b4)), (0, .ref 50)] [.int (nB (xT μ 31))] (mGP μ g p f)
  have hJ1 : Z 0 337 [(10, .int 0), (9, .int (nB b9)), (8, .int (nB b8)), (7, .int x7), (6, .int (nB b6)), (5, .int (nB b5)), (3, .int x3), (2, .int x2), (1, .int x1), (4, .int (nB b4)), (0, .ref 50)] [] (mGP μ g (p ||| (lb (xT μ 31) 11)) f) := by
    refine z_rcs0 hc hH 9 (pc' := 314) (lv' := [(10, .int 1), (9, .int (nB b9)), (8, .int (nB b8)), (7, .int x7), (6, .int (nB b6)), (5, .int (nB b5)), (3, .int x3), (2, .int x2), (1, .int x1), (4, .int (nB b4)), (0, .ref 50)]) (st' := [.int 32, .ref 50]) (by rfl) ?_
    refine zq_call hc (z_cx_ok hH (by rfl)) (fb_X7_hasThree d' (by omega) (mGP μ g (p ||| (lb (xT μ 31) 11)) f) 32) (by decide +kernel) (fun r9 μ9 hq => ?_)
    obtain ⟨hμ9, rfl⟩ := hq
    rw [hμ9]
    clear hμ9 μ9
    show Z 0 317 [(10, .int 1), (9, .int (nB b9)), (8, .int (nB b8)), (7, .int x7), (6, .int (nB b6)), (5, .int (nB b5)), (3, .int x3), (2, .int x2), (1, .int x1), (4, .int (nB b4)), (0, .ref 50)] [.int (nB (xT μ 32))] _
    have hJ2 : Z 0 337 [(10, .int 1), (9, .int (nB b9)), (8, .int (nB b8)), (7, .int x7), (6, .int (nB b6)), (5, .int (nB b5)), (3, .int x3), (2, .int x2), (1, .int x1), (4, .int (nB b4)), (0, .ref 50)] [] (mGP μ g ((p ||| (lb (xT μ 31) 11)) ||| (lb (xT μ 32) 12)) f) := by
      refine z_rcs0 hc hH 9 (pc' := 314) (lv' := [(10, .int 2), (9, .int (nB b9)), (8, .int (nB b8)), (7, .int x7), (6, .int (nB b6)), (5, .int (nB b5)), (3, .int x3), (2, .int x2), (1, .int x1), (4, .int (nB b4)), (0, .ref 50)]) (st' := [.int 33, .ref 50]) (by rfl) ?_
      refine zq_call hc (z_cx_ok hH (by rfl)) (fb_X7_hasThree d' (by omega) (mGP μ g ((p ||| (lb (xT μ 31) 11)) ||| (lb (xT μ 32) 12)) f) 33) (by decide +kernel) (fun r9 μ9 hq => ?_)
      obtain ⟨hμ9, rfl⟩ := hq
      rw [hμ9]
      clear hμ9 μ9
      show Z 0 317 [(10, .int 2), (9, .int (nB b9)), (8, .int (nB b8)), (7, .int x7), (6, .int (nB b6)), (5, .int (nB b5)), (3, .int x3), (2, .int x2), (1, .int x1), (4, .int (nB b4)), (0, .ref 50)] [.int (nB (xT μ 33))] _
      have hJ3 : Z 0 337 [(10, .int 2), (9, .int (nB b9)), (8, .int (nB b8)), (7, .int x7), (6, .int (nB b6)), (5, .int (nB b5)), (3, .int x3), (2, .int x2), (1, .int x1), (4, .int (nB b4)), (0, .ref 50)] [] (mGP μ g (((p ||| (lb (xT μ 31) 11)) ||| (lb (xT μ 32) 12)) ||| (lb (xT μ 33) 13)) f) := by
        generalize hyy4 : (((p ||| (lb (xT μ 31) 11)) ||| (lb (xT μ 32) 12)) ||| (lb (xT μ 33) 13) : Int64) = yy4
        refine z_rcs hc hH 10 (pc' := 351) (lv' := [(10, .int 3), (9, .int (nB b9)), (8, .int (nB b8)), (7, .int x7), (6, .int (nB b6)), (5, .int (nB b5)), (3, .int x3), (2, .int x2), (1, .int x1), (4, .int (nB b4)), (0, .ref 50)]) (st' := [.int (27 + (μ.1 50 8)), .ref 50]) (μ' := mGP μ g yy4 f) (by rfl) ?_
        refine zq_call hc (z_cx_ok hH (by rfl)) (fb_X7_hasThree d' (by omega) (mGP μ g yy4 f) (27 + (μ.1 50 8))) (by decide +kernel) (fun r9 μ9 hq => ?_)
        obtain ⟨hμ9, rfl⟩ := hq
        rw [hμ9]
        clear hμ9 μ9
        show Z 0 354 [(10, .int 3), (9, .int (nB b9)), (8, .int (nB b8)), (7, .int x7), (6, .int (nB b6)), (5, .int (nB b5)), (3, .int x3), (2, .int x2), (1, .int x1), (4, .int (nB b4)), (0, .ref 50)] [.int (nB (xT μ (27 + (μ.1 50 8))))] (mGP μ g yy4 f)
        have hJ5 : Z 0 371 [(10, .int 3), (9, .int (nB b9)), (8, .int (nB b8)), (7, .int x7), (6, .int (nB b6)), (5, .int (nB b5)), (3, .int x3), (2, .int x2), (1, .int x1), (4, .int (nB b4)), (0, .ref 50)] [] (mGP μ g (yy4 ||| (lb (xT μ (27 + (μ.1 50 8))) 14)) f) := by
          refine z_rcs0 hc hH 5 (pc' := 379) (lv' := [(10, .int 3), (9, .int (nB b9)), (8, .int (nB b8)), (7, .int x7), (6, .int (nB b6)), (5, .int (nB b5)), (3, .int x3), (2, .int x2), (1, .int x1), (4, .int (nB b4)), (0, .ref 50)]) (st' := [.int (27 + (μ.1 50 9)), .ref 50]) (by rfl) ?_
          refine zq_call hc (z_cx_ok hH (by rfl)) (fb_X7_hasThree d' (by omega) (mGP μ g (yy4 ||| (lb (xT μ (27 + (μ.1 50 8))) 14)) f) (27 + (μ.1 50 9))) (by decide +kernel) (fun r9 μ9 hq => ?_)
          obtain ⟨hμ9, rfl⟩ := hq
          rw [hμ9]
          clear hμ9 μ9
          show Z 0 382 [(10, .int 3), (9, .int (nB b9)), (8, .int (nB b8)), (7, .int x7), (6, .int (nB b6)), (5, .int (nB b5)), (3, .int x3), (2, .int x2), (1, .int x1), (4, .int (nB b4)), (0, .ref 50)] [.int (nB (xT μ (27 + (μ.1 50 9))))] _
          have hJ6 : Z 0 399 [(10, .int 3), (9, .int (nB b9)), (8, .int (nB b8)), (7, .int x7), (6, .int (nB b6)), (5, .int (nB b5)), (3, .int x3), (2, .int x2), (1, .int x1), (4, .int (nB b4)), (0, .ref 50)] [] (mGP μ g ((yy4 ||| (lb (xT μ (27 + (μ.1 50 8))) 14)) ||| (lb (xT μ (27 + (μ.1 50 9))) 15)) f) := by
            generalize hyy7 : ((yy4 ||| (lb (xT μ (27 + (μ.1 50 8))) 14)) ||| (lb (xT μ (27 + (μ.1 50 9))) 15) : Int64) = yy7
            refine z_rcs hc hH 2 (pc' := 402) (lv' := [(10, .int 0), (9, .int (nB b9)), (8, .int (nB b8)), (7, .int x7), (6, .int (nB b6)), (5, .int (nB b5)), (3, .int x3), (2, .int x2), (1, .int x1), (4, .int (nB b4)), (0, .ref 50)]) (st' := []) (μ' := mGP μ g yy7 f) (by rfl) ?_
            subst hyy7
            subst hyy4
            exact K
          refine zq_if hc hH (by rfl) (tg := 399) (by rfl) (fun h8 => ?_) (fun h8 => ?_)
          · have h8 : (xT μ (27 + (μ.1 50 9))) = false := nB_z.mp (cm_eq9.mp h8)
            exact zJ hJ6 rfl rfl (by simp only [h8, lb_f, Int64.or_zero, nB_t, nB_f, Bool.not_true, Bool.not_false, Bool.and_true, Bool.true_and, Bool.false_and, Bool.and_false, Bool.or_true, Bool.true_or, Bool.false_or, Bool.or_false, cond_true, cond_false])
          · have h8 : (xT μ (27 + (μ.1 50 9))) = true := nB_n.mp (cn_eq.mp h8)
            refine z_rcs hc hH 4 (pc' := 392) (lv' := [(10, .int 3), (9, .int (nB b9)), (8, .int (nB b8)), (7, .int x7), (6, .int (nB b6)), (5, .int (nB b5)), (3, .int x3), (2, .int x2), (1, .int x1), (4, .int (nB b4)), (0, .ref 50)]) (st' := [.int 15, .long (yy4 ||| (lb (xT μ (27 + (μ.1 50 8))) 14)), .ref 50]) (μ' := mGP μ g (yy4 ||| (lb (xT μ (27 + (μ.1 50 8))) 14)) f) (by rfl) ?_
            refine zq_call hc (z_cx_ok hH (by rfl)) (fb_X7_bit d' (by omega) (mGP μ g (yy4 ||| (lb (xT μ (27 + (μ.1 50 8))) 14)) f) 15) (by decide +kernel) (fun r9 μ9 hq => ?_)
            obtain ⟨hμ9, rfl⟩ := hq
            rw [hμ9]
            clear hμ9 μ9
            show Z 0 395 [(10, .int 3), (9, .int (nB b9)), (8, .int (nB b8)), (7, .int x7), (6, .int (nB b6)), (5, .int (nB b5)), (3, .int x3), (2, .int x2), (1, .int x1), (4, .int (nB b4)), (0, .ref 50)] [.long (lb true 15), .long (yy4 ||| (lb (xT μ (27 + (μ.1 50 8))) 14)), .ref 50] _
            refine z_rcs hc hH 2 (pc' := 399) (lv' := [(10, .int 3), (9, .int (nB b9)), (8, .int (nB b8)), (7, .int x7), (6, .int (nB b6)), (5, .int (nB b5)), (3, .int x3), (2, .int x2), (1, .int x1), (4, .int (nB b4)), (0, .ref 50)]) (st' := []) (μ' := z_uj (mGP μ g (yy4 ||| (lb (xT μ (27 + (μ.1 50 8))) 14)) f) 50 25 ((yy4 ||| (lb (xT μ (27 + (μ.1 50 8))) 14)) ||| (lb true 15))) (by rfl) ?_
            rw [mGP_p]
            exact zJ hJ6 rfl rfl (by simp only [h8, lb_f, Int64.or_zero, nB_t, nB_f, Bool.not_true, Bool.not_false, Bool.and_true, Bool.true_and, Bool.false_and, Bool.and_false, Bool.or_true, Bool.true_or, Bool.false_or, Bool.or_false, cond_true, cond_false])
        refine zq_if hc hH (by rfl) (tg := 371) (by rfl) (fun h9 => ?_) (fun h9 => ?_)
        · have h9 : (xT μ (27 + (μ.1 50 8))) = false := nB_z.mp (cm_eq9.mp h9)
          exact zJ hJ5 rfl rfl (by simp only [h9, lb_f, Int64.or_zero, nB_t, nB_f, Bool.not_true, Bool.not_false, Bool.and_true, Bool.true_and, Bool.false_and, Bool.and_false, Bool.or_true, Bool.true_or, Bool.false_or, Bool.or_false, cond_true, cond_false])
        · have h9 : (xT μ (27 + (μ.1 50 8))) = true := nB_n.mp (cn_eq.mp h9)
          refine z_rcs hc hH 4 (pc' := 364) (lv' := [(10, .int 3), (9, .int (nB b9)), (8, .int (nB b8)), (7, .int x7), (6, .int (nB b6)), (5, .int (nB b5)), (3, .int x3), (2, .int x2), (1, .int x1), (4, .int (nB b4)), (0, .ref 50)]) (st' := [.int 14, .long yy4, .ref 50]) (μ' := mGP μ g yy4 f) (by rfl) ?_
          refine zq_call hc (z_cx_ok hH (by rfl)) (fb_X7_bit d' (by omega) (mGP μ g yy4 f) 14) (by decide +kernel) (fun r9 μ9 hq => ?_)
          obtain ⟨hμ9, rfl⟩ := hq
          rw [hμ9]
          clear hμ9 μ9
          show Z 0 367 [(10, .int 3), (9, .int (nB b9)), (8, .int (nB b8)), (7, .int x7), (6, .int (nB b6)), (5, .int (nB b5)), (3, .int x3), (2, .int x2), (1, .int x1), (4, .int (nB b4)), (0, .ref 50)] [.long (lb true 14), .long yy4, .ref 50] (mGP μ g yy4 f)
          refine z_rcs hc hH 2 (pc' := 371) (lv' := [(10, .int 3), (9, .int (nB b9)), (8, .int (nB b8)), (7, .int x7), (6, .int (nB b6)), (5, .int (nB b5)), (3, .int x3), (2, .int x2), (1, .int x1), (4, .int (nB b4)), (0, .ref 50)]) (st' := []) (μ' := z_uj (mGP μ g yy4 f) 50 25 (yy4 ||| (lb true 14))) (by rfl) ?_
          rw [mGP_p]
          exact zJ hJ5 rfl rfl (by simp only [h9, lb_f, Int64.or_zero, nB_t, nB_f, Bool.not_true, Bool.not_false, Bool.and_true, Bool.true_and, Bool.false_and, Bool.and_false, Bool.or_true, Bool.true_or, Bool.false_or, Bool.or_false, cond_true, cond_false])
      refine zq_if hc hH (by rfl) (tg := 337) (by rfl) (fun h10 => ?_) (fun h10 => ?_)
      · have h10 : (xT μ 33) = false := nB_z.mp (cm_eq9.mp h10)
        exact zJ hJ3 rfl rfl (by simp only [h10, lb_f, Int64.or_zero, nB_t, nB_f, Bool.not_true, Bool.not_false, Bool.and_true, Bool.true_and, Bool.false_and, Bool.and_false, Bool.or_true, Bool.true_or, Bool.false_or, Bool.or_false, cond_true, cond_false])
      · have h10 : (xT μ 33) = true := nB_n.mp (cn_eq.mp h10)
        refine z_rcs hc hH 6 (pc' := 330) (lv' := [(10, .int 2), (9, .int (nB b9)), (8, .int (nB b8)), (7, .int x7), (6, .int (nB b6)), (5, .int (nB b5)), (3, .int x3), (2, .int x2), (1, .int x1), (4, .int (nB b4)), (0, .ref 50)]) (st' := [.int 13, .long ((p ||| (lb (xT μ 31) 11)) ||| (lb (xT μ 32) 12)), .ref 50]) (μ' := mGP μ g ((p ||| (lb (xT μ 31) 11)) ||| (lb (xT μ 32) 12)) f) (by rfl) ?_
        refine zq_call hc (z_cx_ok hH (by rfl)) (fb_X7_bit d' (by omega) (mGP μ g ((p ||| (lb (xT μ 31) 11)) ||| (lb (xT μ 32) 12)) f) 13) (by decide +kernel) (fun r9 μ9 hq => ?_)
        obtain ⟨hμ9, rfl⟩ := hq
        rw [hμ9]
        clear hμ9 μ9
        show Z 0 333 [(10, .int 2), (9, .int (nB b9)), (8, .int (nB b8)), (7, .int x7), (6, .int (nB b6)), (5, .int (nB b5)), (3, .int x3), (2, .int x2), (1, .int x1), (4, .int (nB b4)), (0, .ref 50)] [.long (lb true 13), .long ((p ||| (lb (xT μ 31) 11)) ||| (lb (xT μ 32) 12)), .ref 50] _
        refine z_rcs hc hH 2 (pc' := 337) (lv' := [(10, .int 2), (9, .int (nB b9)), (8, .int (nB b8)), (7, .int x7), (6, .int (nB b6)), (5, .int (nB b5)), (3, .int x3), (2, .int x2), (1, .int x1), (4, .int (nB b4)), (0, .ref 50)]) (st' := []) (μ' := z_uj (mGP μ g ((p ||| (lb (xT μ 31) 11)) ||| (lb (xT μ 32) 12)) f) 50 25 (((p ||| (lb (xT μ 31) 11)) ||| (lb (xT μ 32) 12)) ||| (lb true 13))) (by rfl) ?_
        rw [mGP_p]
        exact zJ hJ3 rfl rfl (by simp only [h10, lb_f, Int64.or_zero, nB_t, nB_f, Bool.not_true, Bool.not_false, Bool.and_true, Bool.true_and, Bool.false_and, Bool.and_false, Bool.or_true, Bool.true_or, Bool.false_or, Bool.or_false, cond_true, cond_false])
    refine zq_if hc hH (by rfl) (tg := 337) (by rfl) (fun h11 => ?_) (fun h11 => ?_)
    · have h11 : (xT μ 32) = false := nB_z.mp (cm_eq9.mp h11)
      exact zJ hJ2 rfl rfl (by simp only [h11, lb_f, Int64.or_zero, nB_t, nB_f, Bool.not_true, Bool.not_false, Bool.and_true, Bool.true_and, Bool.false_and, Bool.and_false, Bool.or_true, Bool.true_or, Bool.false_or, Bool.or_false, cond_true, cond_false])
    · have h11 : (xT μ 32) = true := nB_n.mp (cn_eq.mp h11)
      refine z_rcs hc hH 6 (pc' := 330) (lv' := [(10, .int 1), (9, .int (nB b9)), (8, .int (nB b8)), (7, .int x7), (6, .int (nB b6)), (5, .int (nB b5)), (3, .int x3), (2, .int x2), (1, .int x1), (4, .int (nB b4)), (0, .ref 50)]) (st' := [.int 12, .long (p ||| (lb (xT μ 31) 11)), .ref 50]) (μ' := mGP μ g (p ||| (lb (xT μ 31) 11)) f) (by rfl) ?_
      refine zq_call hc (z_cx_ok hH (by rfl)) (fb_X7_bit d' (by omega) (mGP μ g (p ||| (lb (xT μ 31) 11)) f) 12) (by decide +kernel) (fun r9 μ9 hq => ?_)
      obtain ⟨hμ9, rfl⟩ := hq
      rw [hμ9]
      clear hμ9 μ9
      show Z 0 333 [(10, .int 1), (9, .int (nB b9)), (8, .int (nB b8)), (7, .int x7), (6, .int (nB b6)), (5, .int (nB b5)), (3, .int x3), (2, .int x2), (1, .int x1), (4, .int (nB b4)), (0, .ref 50)] [.long (lb true 12), .long (p ||| (lb (xT μ 31) 11)), .ref 50] _
      refine z_rcs hc hH 2 (pc' := 337) (lv' := [(10, .int 1), (9, .int (nB b9)), (8, .int (nB b8)), (7, .int x7), (6, .int (nB b6)), (5, .int (nB b5)), (3, .int x3), (2, .int x2), (1, .int x1), (4, .int (nB b4)), (0, .ref 50)]) (st' := []) (μ' := z_uj (mGP μ g (p ||| (lb (xT μ 31) 11)) f) 50 25 ((p ||| (lb (xT μ 31) 11)) ||| (lb true 12))) (by rfl) ?_
      rw [mGP_p]
      exact zJ hJ2 rfl rfl (by simp only [h11, lb_f, Int64.or_zero, nB_t, nB_f, Bool.not_true, Bool.not_false, Bool.and_true, Bool.true_and, Bool.false_and, Bool.and_false, Bool.or_true, Bool.true_or, Bool.false_or, Bool.or_false, cond_true, cond_false])
  refine zq_if hc hH (by rfl) (tg := 337) (by rfl) (fun h12 => ?_) (fun h12 => ?_)
  · have h12 : (xT μ 31) = false := nB_z.mp (cm_eq9.mp h12)
    exact zJ hJ1 rfl rfl (by simp only [h12, lb_f, Int64.or_zero, nB_t, nB_f, Bool.not_true, Bool.not_false, Bool.and_true, Bool.true_and, Bool.false_and, Bool.and_false, Bool.or_true, Bool.true_or, Bool.false_or, Bool.or_false, cond_true, cond_false])
  · have h12 : (xT μ 31) = true := nB_n.mp (cn_eq.mp h12)
    refine z_rcs hc hH 6 (pc' := 330) (lv' := [(10, .int 0), (9, .int (nB b9)), (8, .int (nB b8)), (7, .int x7), (6, .int (nB b6)), (5, .int (nB b5)), (3, .int x3), (2, .int x2), (1, .int x1), (4, .int (nB b4)), (0, .ref 50)]) (st' := [.int 11, .long p, .ref 50]) (μ' := mGP μ g p f) (by rfl) ?_
    refine zq_call hc (z_cx_ok hH (by rfl)) (fb_X7_bit d' (by omega) (mGP μ g p f) 11) (by decide +kernel) (fun r9 μ9 hq => ?_)
    obtain ⟨hμ9, rfl⟩ := hq
    rw [hμ9]
    clear hμ9 μ9
    show Z 0 333 [(10, .int 0), (9, .int (nB b9)), (8, .int (nB b8)), (7, .int x7), (6, .int (nB b6)), (5, .int (nB b5)), (3, .int x3), (2, .int x2), (1, .int x1), (4, .int (nB b4)), (0, .ref 50)] [.long (lb true 11), .long p, .ref 50] (mGP μ g p f)
    refine z_rcs hc hH 2 (pc' := 337) (lv' := [(10, .int 0), (9, .int (nB b9)), (8, .int (nB b8)), (7, .int x7), (6, .int (nB b6)), (5, .int (nB b5)), (3, .int x3), (2, .int x2), (1, .int x1), (4, .int (nB b4)), (0, .ref 50)]) (st' := []) (μ' := z_uj (mGP μ g p f) 50 25 (p ||| (lb true 11))) (by rfl) ?_
    rw [mGP_p]
    exact zJ hJ1 rfl rfl (by simp only [h12, lb_f, Int64.or_zero, nB_t, nB_f, Bool.not_true, Bool.not_false, Bool.and_true, Bool.true_and, Bool.false_and, Bool.and_false, Bool.or_true, Bool.true_or, Bool.false_or, Bool.or_false, cond_true, cond_false])
theorem fs402_0 (d' : Nat) (Z : zK) (hd : 4 ≤ d') (μ : zM) (q : Nat) (hq : q ≤ 4) (e4 : μ.1 50 4 = nI q) (s l : Nat → Nat) (hA : AY μ s l) (hco : vp_in (μ.1 50 22) 5) (hc : z_clo z_x0 mi_X7_firstSort (z_C d') Z) (b9 : Bool) (b8 : Bool) (x7 : Int32) (b6 : Bool) (b5 : Bool) (x3 : Int32) (x2 : Int32) (x1 : Int32) (b4 : Bool) (g p : Int64) (f : Int32) (K : Z 0 402 [(10, .int 1), (9, .int (nB b9)), (8, .int (nB b8)), (7, .int x7), (6, .int (nB b6)), (5, .int (nB b5)), (3, .int x3), (2, .int x2), (1, .int x1), (4, .int (nB b4)), (0, .ref 50)] [] (mGP μ g ((p ||| (lb ((xR μ 0) && ((xR μ 9) && (xR μ 18))) 17)) ||| (lb ((xT μ 0) && ((xT μ 9) && (xT μ 18))) 22)) f)) : Z 0 402 [(10, .int 0), (9, .int (nB b9)), (8, .int (nB b8)), (7, .int x7), (6, .int (nB b6)), (5, .int (nB b5)), (3, .int x3), (2, .int x2), (1, .int x1), (4, .int (nB b4)), (0, .ref 50)] [] (mGP μ g p f) := by
  have hH : zH mi_X7_firstSort zt_X7_firstSort 79 7 14 := hh_X7_firstSort
  refine z_rcs hc hH 8 (pc' := 419) (lv' := [(10, .int 0), (9, .int (nB b9)), (8, .int (nB b8)), (7, .int x7), (6, .int (nB b6)), (5, .int (nB b5)), (3, .int x3), (2, .int x2), (1, .int x1), (4, .int (nB b4)), (0, .ref 50)]) (st' := [.int 0, .ref 50]) (μ' := mGP μ g p f) (by rfl) ?_
  refine zq_call hc (z_cx_ok hH (by rfl)) (fb_X7_hasRun d' (by omega) (mGP μ g p f) 0) (by decide +kernel) (fun r9 μ9 hq => ?_)
  obtain ⟨hμ9, rfl⟩ := hq
  rw [hμ9]
  clear hμ9 μ9
  show Z 0 422 [(10, .int 0), (9, .int (nB b9)), (8, .int (nB b8)), (7, .int x7), (6, .int (nB b6)), (5, .int (nB b5)), (3, .int x3), (2, .int x2), (1, .int x1), (4, .int (nB b4)), (0, .ref 50)] [.int (nB (xR μ 0))] (mGP μ g p f)
  have hJ1 : Z 0 463 [(10, .int 0), (9, .int (nB b9)), (8, .int (nB b8)), (7, .int x7), (6, .int (nB b6)), (5, .int (nB b5)), (3, .int x3), (2, .int x2), (1, .int x1), (4, .int (nB b4)), (0, .ref 50)] [] (mGP μ g (p ||| (lb ((xR μ 0) && ((xR μ 9) && (xR μ 18))) 17)) f) := by
    refine z_rcs0 hc hH 2 (pc' := 466) (lv' := [(10, .int 0), (9, .int (nB b9)), (8, .int (nB b8)), (7, .int x7), (6, .int (nB b6)), (5, .int (nB b5)), (3, .int x3), (2, .int x2), (1, .int x1), (4, .int (nB b4)), (0, .ref 50)]) (st' := [.int 0, .ref 50]) (by rfl) ?_
    refine zq_call hc (z_cx_ok hH (by rfl)) (fb_X7_hasThree d' (by omega) (mGP μ g (p ||| (lb ((xR μ 0) && ((xR μ 9) && (xR μ 18))) 17)) f) 0) (by decide +kernel) (fun r9 μ9 hq => ?_)
    obtain ⟨hμ9, rfl⟩ := hq
    rw [hμ9]
    clear hμ9 μ9
    show Z 0 469 [(10, .int 0), (9, .int (nB b9)), (8, .int (nB b8)), (7, .int x7), (6, .int (nB b6)), (5, .int (nB b5)), (3, .int x3), (2, .int x2), (1, .int x1), (4, .int (nB b4)), (0, .ref 50)] [.int (nB (xT μ 0))] _
    have hJ2 : Z 0 510 [(10, .int 0), (9, .int (nB b9)), (8, .int (nB b8)), (7, .int x7), (6, .int (nB b6)), (5, .int (nB b5)), (3, .int x3), (2, .int x2), (1, .int x1), (4, .int (nB b4)), (0, .ref 50)] [] (mGP μ g ((p ||| (lb ((xR μ 0) && ((xR μ 9) && (xR μ 18))) 17)) ||| (lb ((xT μ 0) && ((xT μ 9) && (xT μ 18))) 22)) f) := by
      generalize hyy3 : ((p ||| (lb ((xR μ 0) && ((xR μ 9) && (xR μ 18))) 17)) ||| (lb ((xT μ 0) && ((xT μ 9) && (xT μ 18))) 22) : Int64) = yy3
      refine z_rcs hc hH 2 (pc' := 402) (lv' := [(10, .int 1), (9, .int (nB b9)), (8, .int (nB b8)), (7, .int x7), (6, .int (nB b6)), (5, .int (nB b5)), (3, .int x3), (2, .int x2), (1, .int x1), (4, .int (nB b4)), (0, .ref 50)]) (st' := []) (μ' := mGP μ g yy3 f) (by rfl) ?_
      subst hyy3
      exact K
    refine zq_if hc hH (by rfl) (tg := 510) (by rfl) (fun h4 => ?_) (fun h4 => ?_)
    · have h4 : (xT μ 0) = false := nB_z.mp (cm_eq9.mp h4)
      exact zJ hJ2 rfl rfl (by simp only [h4, lb_f, Int64.or_zero, nB_t, nB_f, Bool.not_true, Bool.not_false, Bool.and_true, Bool.true_and, Bool.false_and, Bool.and_false, Bool.or_true, Bool.true_or, Bool.false_or, Bool.or_false, cond_true, cond_false])
    · have h4 : (xT μ 0) = true := nB_n.mp (cn_eq.mp h4)
      refine z_rcs hc hH 4 (pc' := 478) (lv' := [(10, .int 0), (9, .int (nB b9)), (8, .int (nB b8)), (7, .int x7), (6, .int (nB b6)), (5, .int (nB b5)), (3, .int x3), (2, .int x2), (1, .int x1), (4, .int (nB b4)), (0, .ref 50)]) (st' := [.int 9, .ref 50]) (μ' := mGP μ g (p ||| (lb ((xR μ 0) && ((xR μ 9) && (xR μ 18))) 17)) f) (by rfl) ?_
      refine zq_call hc (z_cx_ok hH (by rfl)) (fb_X7_hasThree d' (by omega) (mGP μ g (p ||| (lb ((xR μ 0) && ((xR μ 9) && (xR μ 18))) 17)) f) 9) (by decide +kernel) (fun r9 μ9 hq => ?_)
      obtain ⟨hμ9, rfl⟩ := hq
      rw [hμ9]
      clear hμ9 μ9
      show Z 0 481 [(10, .int 0), (9, .int (nB b9)), (8, .int (nB b8)), (7, .int x7), (6, .int (nB b6)), (5, .int (nB b5)), (3, .int x3), (2, .int x2), (1, .int x1), (4, .int (nB b4)), (0, .ref 50)] [.int (nB (xT μ 9))] _
      refine zq_if hc hH (by rfl) (tg := 510) (by rfl) (fun h5 => ?_) (fun h5 => ?_)
      · have h5 : (xT μ 9) = false := nB_z.mp (cm_eq9.mp h5)
        exact zJ hJ2 rfl rfl (by simp only [h4, h5, lb_f, Int64.or_zero, nB_t, nB_f, Bool.not_true, Bool.not_false, Bool.and_true, Bool.true_and, Bool.false_and, Bool.and_false, Bool.or_true, Bool.true_or, Bool.false_or, Bool.or_false, cond_true, cond_false])
      · have h5 : (xT μ 9) = true := nB_n.mp (cn_eq.mp h5)
        refine z_rcs0 hc hH 4 (pc' := 490) (lv' := [(10, .int 0), (9, .int (nB b9)), (8, .int (nB b8)), (7, .int x7), (6, .int (nB b6)), (5, .int (nB b5)), (3, .int x3), (2, .int x2), (1, .int x1), (4, .int (nB b4)), (0, .ref 50)]) (st' := [.int 18, .ref 50]) (by rfl) ?_
        refine zq_call hc (z_cx_ok hH (by rfl)) (fb_X7_hasThree d' (by omega) (mGP μ g (p ||| (lb ((xR μ 0) && ((xR μ 9) && (xR μ 18))) 17)) f) 18) (by decide +kernel) (fun r9 μ9 hq => ?_)
        obtain ⟨hμ9, rfl⟩ := hq
        rw [hμ9]
        clear hμ9 μ9
        show Z 0 493 [(10, .int 0), (9, .int (nB b9)), (8, .int (nB b8)), (7, .int x7), (6, .int (nB b6)), (5, .int (nB b5)), (3, .int x3), (2, .int x2), (1, .int x1), (4, .int (nB b4)), (0, .ref 50)] [.int (nB (xT μ 18))] _
        refine zq_if hc hH (by rfl) (tg := 510) (by rfl) (fun h6 => ?_) (fun h6 => ?_)
        · have h6 : (xT μ 18) = false := nB_z.mp (cm_eq9.mp h6)
          exact zJ hJ2 rfl rfl (by simp only [h4, h5, h6, lb_f, Int64.or_zero, nB_t, nB_f, Bool.not_true, Bool.not_false, Bool.and_true, Bool.true_and, Bool.false_and, Bool.and_false, Bool.or_true, Bool.true_or, Bool.false_or, Bool.or_false, cond_true, cond_false])
        · have h6 : (xT μ 18) = true := nB_n.mp (cn_eq.mp h6)
          refine z_rcs0 hc hH 4 (pc' := 503) (lv' := [(10, .int 0), (9, .int (nB b9)), (8, .int (nB b8)), (7, .int x7), (6, .int (nB b6)), (5, .int (nB b5)), (3, .int x3), (2, .int x2), (1, .int x1), (4, .int (nB b4)), (0, .ref 50)]) (st' := [.int 22, .long (p ||| (lb ((xR μ 0) && ((xR μ 9) && (xR μ 18))) 17)), .ref 50]) (by rfl) ?_
          refine zq_call hc (z_cx_ok hH (by rfl)) (fb_X7_bit d' (by omega) (mGP μ g (p ||| (lb ((xR μ 0) && ((xR μ 9) && (xR μ 18))) 17)) f) 22) (by decide +kernel) (fun r9 μ9 hq => ?_)
          obtain ⟨hμ9, rfl⟩ := hq
          rw [hμ9]
          clear hμ9 μ9
          show Z 0 506 [(10, .int 0), (9, .int (nB b9)), (8, .int (nB b8)), (7, .int x7), (6, .int (nB b6)), (5, .int (nB b5)), (3, .int x3), (2, .int x2), (1, .int x1), (4, .int (nB b4)), (0, .ref 50)] [.long (lb true 22), .long (p ||| (lb ((xR μ 0) && ((xR μ 9) && (xR μ 18))) 17)), .ref 50] _
          refine z_rcs hc hH 2 (pc' := 510) (lv' := [(10, .int 0), (9, .int (nB b9)), (8, .int (nB b8)), (7, .int x7), (6, .int (nB b6)), (5, .int (nB b5)), (3, .int x3), (2, .int x2), (1, .int x1), (4, .int (nB b4)), (0, .ref 50)]) (st' := []) (μ' := z_uj (mGP μ g (p ||| (lb ((xR μ 0) && ((xR μ 9) && (xR μ 18))) 17)) f) 50 25 ((p ||| (lb ((xR μ 0) && ((xR μ 9) && (xR μ 18))) 17)) ||| (lb true 22))) (by rfl) ?_
          rw [mGP_p]
          exact zJ hJ2 rfl rfl (by simp only [h4, h5, h6, lb_f, Int64.or_zero, nB_t, nB_f, Bool.not_true, Bool.not_false, Bool.and_true, Bool.true_and, Bool.false_and, Bool.and_false, Bool.or_true, Bool.true_or, Bool.false_or, Bool.or_false, cond_true, cond_false])
  refine zq_if hc hH (by rfl) (tg := 463) (by rfl) (fun h7 => ?_) (fun h7 => ?_)
  · have h7 : (xR μ 0) = false := nB_z.mp (cm_eq9.mp h7)
    exact zJ hJ1 rfl rfl (by simp only [h7, lb_f, Int64.or_zero, nB_t, nB_f, Bool.not_true, Bool.not_false, Bool.and_true, Bool.true_and, Bool.false_and, Bool.and_false, Bool.or_true, Bool.true_or, Bool.false_or, Bool.or_false, cond_true, cond_false])
  · have h7 : (xR μ 0) = true := nB_n.mp (cn_eq.mp h7)
    refine z_rcs hc hH 4 (pc' := 431) (lv' := [(10, .int 0), (9, .int (nB b9)), (8, .int (nB b8)), (7, .int x7), (6, .int (nB b6)), (5, .int (nB b5)), (3, .int x3), (2, .int x2), (1, .int x1), (4, .int (nB b4)), (0, .ref 50)]) (st' := [.int 9, .ref 50]) (μ' := mGP μ g p f) (by rfl) ?_
    refine zq_call hc (z_cx_ok hH (by rfl)) (fb_X7_hasRun d' (by omega) (mGP μ g p f) 9) (by decide +kernel) (fun r9 μ9 hq => ?_)
    obtain ⟨hμ9, rfl⟩ := hq
    rw [hμ9]
    clear hμ9 μ9
    show Z 0 434 [(10, .int 0), (9, .int (nB b9)), (8, .int (nB b8)), (7, .int x7), (6, .int (nB b6)), (5, .int (nB b5)), (3, .int x3), (2, .int x2), (1, .int x1), (4, .int (nB b4)), (0, .ref 50)] [.int (nB (xR μ 9))] (mGP μ g p f)
    refine zq_if hc hH (by rfl) (tg := 463) (by rfl) (fun h8 => ?_) (fun h8 => ?_)
    · have h8 : (xR μ 9) = false := nB_z.mp (cm_eq9.mp h8)
      exact zJ hJ1 rfl rfl (by simp only [h7, h8, lb_f, Int64.or_zero, nB_t, nB_f, Bool.not_true, Bool.not_false, Bool.and_true, Bool.true_and, Bool.false_and, Bool.and_false, Bool.or_true, Bool.true_or, Bool.false_or, Bool.or_false, cond_true, cond_false])
    · have h8 : (xR μ 9) = true := nB_n.mp (cn_eq.mp h8)
      refine z_rcs hc hH 4 (pc' := 443) (lv' := [(10, .int 0), (9, .int (nB b9)), (8, .int (nB b8)), (7, .int x7), (6, .int (nB b6)), (5, .int (nB b5)), (3, .int x3), (2, .int x2), (1, .int x1), (4, .int (nB b4)), (0, .ref 50)]) (st' := [.int 18, .ref 50]) (μ' := mGP μ g p f) (by rfl) ?_
      refine zq_call hc (z_cx_ok hH (by rfl)) (fb_X7_hasRun d' (by omega) (mGP μ g p f) 18) (by decide +kernel) (fun r9 μ9 hq => ?_)
      obtain ⟨hμ9, rfl⟩ := hq
      rw [hμ9]
      clear hμ9 μ9
      show Z 0 446 [(10, .int 0), (9, .int (nB b9)), (8, .int (nB b8)), (7, .int x7), (6, .int (nB b6)), (5, .int (nB b5)), (3, .int x3), (2, .int x2), (1, .int x1), (4, .int (nB b4)), (0, .ref 50)] [.int (nB (xR μ 18))] (mGP μ g p f)
      refine zq_if hc hH (by rfl) (tg := 463) (by rfl) (fun h9 => ?_) (fun h9 => ?_)
      · have h9 : (xR μ 18) = false := nB_z.mp (cm_eq9.mp h9)
        exact zJ hJ1 rfl rfl (by simp only [h7, h8, h9, lb_f, Int64.or_zero, nB_t, nB_f, Bool.not_true, Bool.not_false, Bool.and_true, Bool.true_and, Bool.false_and, Bool.and_false, Bool.or_true, Bool.true_or, Bool.false_or, Bool.or_false, cond_true, cond_false])
      · have h9 : (xR μ 18) = true := nB_n.mp (cn_eq.mp h9)
        refine z_rcs hc hH 4 (pc' := 456) (lv' := [(10, .int 0), (9, .int (nB b9)), (8, .int (nB b8)), (7, .int x7), (6, .int (nB b6)), (5, .int (nB b5)), (3, .int x3), (2, .int x2), (1, .int x1), (4, .int (nB b4)), (0, .ref 50)]) (st' := [.int 17, .long p, .ref 50]) (μ' := mGP μ g p f) (by rfl) ?_
        refine zq_call hc (z_cx_ok hH (by rfl)) (fb_X7_bit d' (by omega) (mGP μ g p f) 17) (by decide +kernel) (fun r9 μ9 hq => ?_)
        obtain ⟨hμ9, rfl⟩ := hq
        rw [hμ9]
        clear hμ9 μ9
        show Z 0 459 [(10, .int 0), (9, .int (nB b9)), (8, .int (nB b8)), (7, .int x7), (6, .int (nB b6)), (5, .int (nB b5)), (3, .int x3), (2, .int x2), (1, .int x1), (4, .int (nB b4)), (0, .ref 50)] [.long (lb true 17), .long p, .ref 50] (mGP μ g p f)
        refine z_rcs hc hH 2 (pc' := 463) (lv' := [(10, .int 0), (9, .int (nB b9)), (8, .int (nB b8)), (7, .int x7), (6, .int (nB b6)), (5, .int (nB b5)), (3, .int x3), (2, .int x2), (1, .int x1), (4, .int (nB b4)), (0, .ref 50)]) (st' := []) (μ' := z_uj (mGP μ g p f) 50 25 (p ||| (lb true 17))) (by rfl) ?_
        rw [mGP_p]
        exact zJ hJ1 rfl rfl (by simp only [h7, h8, h9, lb_f, Int64.or_zero, nB_t, nB_f, Bool.not_true, Bool.not_false, Bool.and_true, Bool.true_and, Bool.false_and, Bool.and_false, Bool.or_true, Bool.true_or, Bool.false_or, Bool.or_false, cond_true, cond_false])
theorem fs402_1 (d' : Nat) (Z : zK) (hd : 4 ≤ d') (μ : zM) (q : Nat) (hq : q ≤ 4) (e4 : μ.1 50 4 = nI q) (s l : Nat → Nat) (hA : AY μ s l) (hco : vp_in (μ.1 50 22) 5) (hc : z_clo z_x0 mi_X7_firstSort (z_C d') Z) (b9 : Bool) (b8 : Bool) (x7 : Int32) (b6 : Bool) (b5 : Bool) (x3 : Int32) (x2 : Int32) (x1 : Int32) (b4 : Bool) (g p : Int64) (f : Int32) (K : Z 0 402 [(10, .int 2), (9, .int (nB b9)), (8, .int (nB b8)), (7, .int x7), (6, .int (nB b6)), (5, .int (nB b5)), (3, .int x3), (2, .int x2), (1, .int x1), (4, .int (nB b4)), (0, .ref 50)] [] (mGP μ g ((p ||| (lb ((xR μ 1) && ((xR μ 10) && (xR μ 19))) 17)) ||| (lb ((xT μ 1) && ((xT μ 10) && (xT μ 19))) 22)) f)) : Z 0 402 [(10, .int 1), (9, .int (nB b9)), (8, .int (nB b8)), (7, .int x7), (6, .int (nB b6)), (5, .int (nB b5)), (3, .int x3), (2, .int x2), (1, .int x1), (4, .int (nB b4)), (0, .ref 50)] [] (mGP μ g p f) := by
  have hH : zH mi_X7_firstSort zt_X7_firstSort 79 7 14 := hh_X7_firstSort
  refine z_rcs hc hH 8 (pc' := 419) (lv' := [(10, .int 1), (9, .int (nB b9)), (8, .int (nB b8)), (7, .int x7), (6, .int (nB b6)), (5, .int (nB b5)), (3, .int x3), (2, .int x2), (1, .int x1), (4, .int (nB b4)), (0, .ref 50)]) (st' := [.int 1, .ref 50]) (μ' := mGP μ g p f) (by rfl) ?_
  refine zq_call hc (z_cx_ok hH (by rfl)) (fb_X7_hasRun d' (by omega) (mGP μ g p f) 1) (by decide +kernel) (fun r9 μ9 hq => ?_)
  obtain ⟨hμ9, rfl⟩ := hq
  rw [hμ9]
  clear hμ9 μ9
  show Z 0 422 [(10, .int 1), (9, .int (nB b9)), (8, .int (nB b8)), (7, .int x7), (6, .int (nB b6)), (5, .int (nB b5)), (3, .int x3), (2, .int x2), (1, .int x1), (4, .int (nB b4)), (0, .ref 50)] [.int (nB (xR μ 1))] (mGP μ g p f)
  have hJ1 : Z 0 463 [(10, .int 1), (9, .int (nB b9)), (8, .int (nB b8)), (7, .int x7), (6, .int (nB b6)), (5, .int (nB b5)), (3, .int x3), (2, .int x2), (1, .int x1), (4, .int (nB b4)), (0, .ref 50)] [] (mGP μ g (p ||| (lb ((xR μ 1) && ((xR μ 10) && (xR μ 19))) 17)) f) := by
    refine z_rcs0 hc hH 2 (pc' := 466) (lv' := [(10, .int 1), (9, .int (nB b9)), (8, .int (nB b8)), (7, .int x7), (6, .int (nB b6)), (5, .int (nB b5)), (3, .int x3), (2, .int x2), (1, .int x1), (4, .int (nB b4)), (0, .ref 50)]) (st' := [.int 1, .ref 50]) (by rfl) ?_
    refine zq_call hc (z_cx_ok hH (by rfl)) (fb_X7_hasThree d' (by omega) (mGP μ g (p ||| (lb ((xR μ 1) && ((xR μ 10) && (xR μ 19))) 17)) f) 1) (by decide +kernel) (fun r9 μ9 hq => ?_)
    obtain ⟨hμ9, rfl⟩ := hq
    rw [hμ9]
    clear hμ9 μ9
    show Z 0 469 [(10, .int 1), (9, .int (nB b9)), (8, .int (nB b8)), (7, .int x7), (6, .int (nB b6)), (5, .int (nB b5)), (3, .int x3), (2, .int x2), (1, .int x1), (4, .int (nB b4)), (0, .ref 50)] [.int (nB (xT μ 1))] _
    have hJ2 : Z 0 510 [(10, .int 1), (9, .int (nB b9)), (8, .int (nB b8)), (7, .int x7), (6, .int (nB b6)), (5, .int (nB b5)), (3, .int x3), (2, .int x2), (1, .int x1), (4, .int (nB b4)), (0, .ref 50)] [] (mGP μ g ((p ||| (lb ((xR μ 1) && ((xR μ 10) && (xR μ 19))) 17)) ||| (lb ((xT μ 1) && ((xT μ 10) && (xT μ 19))) 22)) f) := by
      generalize hyy3 : ((p ||| (lb ((xR μ 1) && ((xR μ 10) && (xR μ 19))) 17)) ||| (lb ((xT μ 1) && ((xT μ 10) && (xT μ 19))) 22) : Int64) = yy3
      refine z_rcs hc hH 2 (pc' := 402) (lv' := [(10, .int 2), (9, .int (nB b9)), (8, .int (nB b8)), (7, .int x7), (6, .int (nB b6)), (5, .int (nB b5)), (3, .int x3), (2, .int x2), (1, .int x1), (4, .int (nB b4)), (0, .ref 50)]) (st' := []) (μ' := mGP μ g yy3 f) (by rfl) ?_
      subst hyy3
      exact K
    refine zq_if hc hH (by rfl) (tg := 510) (by rfl) (fun h4 => ?_) (fun h4 => ?_)
    · have h4 : (xT μ 1) = false := nB_z.mp (cm_eq9.mp h4)
      exact zJ hJ2 rfl rfl (by simp only [h4, lb_f, Int64.or_zero, nB_t, nB_f, Bool.not_true, Bool.not_false, Bool.and_true, Bool.true_and, Bool.false_and, Bool.and_false, Bool.or_true, Bool.true_or, Bool.false_or, Bool.or_false, cond_true, cond_false])
    · have h4 : (xT μ 1) = true := nB_n.mp (cn_eq.mp h4)
      refine z_rcs hc hH 4 (pc' := 478) (lv' := [(10, .int 1), (9, .int (nB b9)), (8, .int (nB b8)), (7, .int x7), (6, .int (nB b6)), (5, .int (nB b5)), (3, .int x3), (2, .int x2), (1, .int x1), (4, .int (nB b4)), (0, .ref 50)]) (st' := [.int 10, .ref 50]) (μ' := mGP μ g (p ||| (lb ((xR μ 1) && ((xR μ 10) && (xR μ 19))) 17)) f) (by rfl) ?_
      refine zq_call hc (z_cx_ok hH (by rfl)) (fb_X7_hasThree d' (by omega) (mGP μ g (p ||| (lb ((xR μ 1) && ((xR μ 10) && (xR μ 19))) 17)) f) 10) (by decide +kernel) (fun r9 μ9 hq => ?_)
      obtain ⟨hμ9, rfl⟩ := hq
      rw [hμ9]
      clear hμ9 μ9
      show Z 0 481 [(10, .int 1), (9, .int (nB b9)), (8, .int (nB b8)), (7, .int x7), (6, .int (nB b6)), (5, .int (nB b5)), (3, .int x3), (2, .int x2), (1, .int x1), (4, .int (nB b4)), (0, .ref 50)] [.int (nB (xT μ 10))] _
      refine zq_if hc hH (by rfl) (tg := 510) (by rfl) (fun h5 => ?_) (fun h5 => ?_)
      · have h5 : (xT μ 10) = false := nB_z.mp (cm_eq9.mp h5)
        exact zJ hJ2 rfl rfl (by simp only [h4, h5, lb_f, Int64.or_zero, nB_t, nB_f, Bool.not_true, Bool.not_false, Bool.and_true, Bool.true_and, Bool.false_and, Bool.and_false, Bool.or_true, Bool.true_or, Bool.false_or, Bool.or_false, cond_true, cond_false])
      · have h5 : (xT μ 10) = true := nB_n.mp (cn_eq.mp h5)
        refine z_rcs0 hc hH 4 (pc' := 490) (lv' := [(10, .int 1), (9, .int (nB b9)), (8, .int (nB b8)), (7, .int x7), (6, .int (nB b6)), (5, .int (nB b5)), (3, .int x3), (2, .int x2), (1, .int x1), (4, .int (nB b4)), (0, .ref 50)]) (st' := [.int 19, .ref 50]) (by rfl) ?_
        refine zq_call hc (z_cx_ok hH (by rfl)) (fb_X7_hasThree d' (by omega) (mGP μ g (p ||| (lb ((xR μ 1) && ((xR μ 10) && (xR μ 19))) 17)) f) 19) (by decide +kernel) (fun r9 μ9 hq => ?_)
        obtain ⟨hμ9, rfl⟩ := hq
        rw [hμ9]
        clear hμ9 μ9
        show Z 0 493 [(10, .int 1), (9, .int (nB b9)), (8, .int (nB b8)), (7, .int x7), (6, .int (nB b6)), (5, .int (nB b5)), (3, .int x3), (2, .int x2), (1, .int x1), (4, .int (nB b4)), (0, .ref 50)] [.int (nB (xT μ 19))] _
        refine zq_if hc hH (by rfl) (tg := 510) (by rfl) (fun h6 => ?_) (fun h6 => ?_)
        · have h6 : (xT μ 19) = false := nB_z.mp (cm_eq9.mp h6)
          exact zJ hJ2 rfl rfl (by simp only [h4, h5, h6, lb_f, Int64.or_zero, nB_t, nB_f, Bool.not_true, Bool.not_false, Bool.and_true, Bool.true_and, Bool.false_and, Bool.and_false, Bool.or_true, Bool.true_or, Bool.false_or, Bool.or_false, cond_true, cond_false])
        · have h6 : (xT μ 19) = true := nB_n.mp (cn_eq.mp h6)
          refine z_rcs0 hc hH 4 (pc' := 503) (lv' := [(10, .int 1), (9, .int (nB b9)), (8, .int (nB b8)), (7, .int x7), (6, .int (nB b6)), (5, .int (nB b5)), (3, .int x3), (2, .int x2), (1, .int x1), (4, .int (nB b4)), (0, .ref 50)]) (st' := [.int 22, .long (p ||| (lb ((xR μ 1) && ((xR μ 10) && (xR μ 19))) 17)), .ref 50]) (by rfl) ?_
          refine zq_call hc (z_cx_ok hH (by rfl)) (fb_X7_bit d' (by omega) (mGP μ g (p ||| (lb ((xR μ 1) && ((xR μ 10) && (xR μ 19))) 17)) f) 22) (by decide +kernel) (fun r9 μ9 hq => ?_)
          obtain ⟨hμ9, rfl⟩ := hq
          rw [hμ9]
          clear hμ9 μ9
          show Z 0 506 [(10, .int 1), (9, .int (nB b9)), (8, .int (nB b8)), (7, .int x7), (6, .int (nB b6)), (5, .int (nB b5)), (3, .int x3), (2, .int x2), (1, .int x1), (4, .int (nB b4)), (0, .ref 50)] [.long (lb true 22), .long (p ||| (lb ((xR μ 1) && ((xR μ 10) && (xR μ 19))) 17)), .ref 50] _
          refine z_rcs hc hH 2 (pc' := 510) (lv' := [(10, .int 1), (9, .int (nB b9)), (8, .int (nB b8)), (7, .int x7), (6, .int (nB b6)), (5, .int (nB b5)), (3, .int x3), (2, .int x2), (1, .int x1), (4, .int (nB b4)), (0, .ref 50)]) (st' := []) (μ' := z_uj (mGP μ g (p ||| (lb ((xR μ 1) && ((xR μ 10) && (xR μ 19))) 17)) f) 50 25 ((p ||| (lb ((xR μ 1) && ((xR μ 10) && (xR μ 19))) 17)) ||| (lb true 22))) (by rfl) ?_
          rw [mGP_p]
          exact zJ hJ2 rfl rfl (by simp only [h4, h5, h6, lb_f, Int64.or_zero, nB_t, nB_f, Bool.not_true, Bool.not_false, Bool.and_true, Bool.true_and, Bool.false_and, Bool.and_false, Bool.or_true, Bool.true_or, Bool.false_or, Bool.or_false, cond_true, cond_false])
  refine zq_if hc hH (by rfl) (tg := 463) (by rfl) (fun h7 => ?_) (fun h7 => ?_)
  · have h7 : (xR μ 1) = false := nB_z.mp (cm_eq9.mp h7)
    exact zJ hJ1 rfl rfl (by simp only [h7, lb_f, Int64.or_zero, nB_t, nB_f, Bool.not_true, Bool.not_false, Bool.and_true, Bool.true_and, Bool.false_and, Bool.and_false, Bool.or_true, Bool.true_or, Bool.false_or, Bool.or_false, cond_true, cond_false])
  · have h7 : (xR μ 1) = true := nB_n.mp (cn_eq.mp h7)
    refine z_rcs hc hH 4 (pc' := 431) (lv' := [(10, .int 1), (9, .int (nB b9)), (8, .int (nB b8)), (7, .int x7), (6, .int (nB b6)), (5, .int (nB b5)), (3, .int x3), (2, .int x2), (1, .int x1), (4, .int (nB b4)), (0, .ref 50)]) (st' := [.int 10, .ref 50]) (μ' := mGP μ g p f) (by rfl) ?_
    refine zq_call hc (z_cx_ok hH (by rfl)) (fb_X7_hasRun d' (by omega) (mGP μ g p f) 10) (by decide +kernel) (fun r9 μ9 hq => ?_)
    obtain ⟨hμ9, rfl⟩ := hq
    rw [hμ9]
    clear hμ9 μ9
    show Z 0 434 [(10, .int 1), (9, .int (nB b9)), (8, .int (nB b8)), (7, .int x7), (6, .int (nB b6)), (5, .int (nB b5)), (3, .int x3), (2, .int x2), (1, .int x1), (4, .int (nB b4)), (0, .ref 50)] [.int (nB (xR μ 10))] (mGP μ g p f)
    refine zq_if hc hH (by rfl) (tg := 463) (by rfl) (fun h8 => ?_) (fun h8 => ?_)
    · have h8 : (xR μ 10) = false := nB_z.mp (cm_eq9.mp h8)
      exact zJ hJ1 rfl rfl (by simp only [h7, h8, lb_f, Int64.or_zero, nB_t, nB_f, Bool.not_true, Bool.not_false, Bool.and_true, Bool.true_and, Bool.false_and, Bool.and_false, Bool.or_true, Bool.true_or, Bool.false_or, Bool.or_false, cond_true, cond_false])
    · have h8 : (xR μ 10) = true := nB_n.mp (cn_eq.mp h8)
      refine z_rcs hc hH 4 (pc' := 443) (lv' := [(10, .int 1), (9, .int (nB b9)), (8, .int (nB b8)), (7, .int x7), (6, .int (nB b6)), (5, .int (nB b5)), (3, .int x3), (2, .int x2), (1, .int x1), (4, .int (nB b4)), (0, .ref 50)]) (st' := [.int 19, .ref 50]) (μ' := mGP μ g p f) (by rfl) ?_
      refine zq_call hc (z_cx_ok hH (by rfl)) (fb_X7_hasRun d' (by omega) (mGP μ g p f) 19) (by decide +kernel) (fun r9 μ9 hq => ?_)
      obtain ⟨hμ9, rfl⟩ := hq
      rw [hμ9]
      clear hμ9 μ9
      show Z 0 446 [(10, .int 1), (9, .int (nB b9)), (8, .int (nB b8)), (7, .int x7), (6, .int (nB b6)), (5, .int (nB b5)), (3, .int x3), (2, .int x2), (1, .int x1), (4, .int (nB b4)), (0, .ref 50)] [.int (nB (xR μ 19))] (mGP μ g p f)
      refine zq_if hc hH (by rfl) (tg := 463) (by rfl) (fun h9 => ?_) (fun h9 => ?_)
      · have h9 : (xR μ 19) = false := nB_z.mp (cm_eq9.mp h9)
        exact zJ hJ1 rfl rfl (by simp only [h7, h8, h9, lb_f, Int64.or_zero, nB_t, nB_f, Bool.not_true, Bool.not_false, Bool.and_true, Bool.true_and, Bool.false_and, Bool.and_false, Bool.or_true, Bool.true_or, Bool.false_or, Bool.or_false, cond_true, cond_false])
      · have h9 : (xR μ 19) = true := nB_n.mp (cn_eq.mp h9)
        refine z_rcs hc hH 4 (pc' := 456) (lv' := [(10, .int 1), (9, .int (nB b9)), (8, .int (nB b8)), (7, .int x7), (6, .int (nB b6)), (5, .int (nB b5)), (3, .int x3), (2, .int x2), (1, .int x1), (4, .int (nB b4)), (0, .ref 50)]) (st' := [.int 17, .long p, .ref 50]) (μ' := mGP μ g p f) (by rfl) ?_
        refine zq_call hc (z_cx_ok hH (by rfl)) (fb_X7_bit d' (by omega) (mGP μ g p f) 17) (by decide +kernel) (fun r9 μ9 hq => ?_)
        obtain ⟨hμ9, rfl⟩ := hq
        rw [hμ9]
        clear hμ9 μ9
        show Z 0 459 [(10, .int 1), (9, .int (nB b9)), (8, .int (nB b8)), (7, .int x7), (6, .int (nB b6)), (5, .int (nB b5)), (3, .int x3), (2, .int x2), (1, .int x1), (4, .int (nB b4)), (0, .ref 50)] [.long (lb true 17), .long p, .ref 50] (mGP μ g p f)
        refine z_rcs hc hH 2 (pc' := 463) (lv' := [(10, .int 1), (9, .int (nB b9)), (8, .int (nB b8)), (7, .int x7), (6, .int (nB b6)), (5, .int (nB b5)), (3, .int x3), (2, .int x2), (1, .int x1), (4, .int (nB b4)), (0, .ref 50)]) (st' := []) (μ' := z_uj (mGP μ g p f) 50 25 (p ||| (lb true 17))) (by rfl) ?_
        rw [mGP_p]
        exact zJ hJ1 rfl rfl (by simp only [h7, h8, h9, lb_f, Int64.or_zero, nB_t, nB_f, Bool.not_true, Bool.not_false, Bool.and_true, Bool.true_and, Bool.false_and, Bool.and_false, Bool.or_true, Bool.true_or, Bool.false_or, Bool.or_false, cond_true, cond_false])
theorem fs402_2 (d' : Nat) (Z : zK) (hd : 4 ≤ d') (μ : zM) (q : Nat) (hq : q ≤ 4) (e4 : μ.1 50 4 = nI q) (s l : Nat → Nat) (hA : AY μ s l) (hco : vp_in (μ.1 50 22) 5) (hc : z_clo z_x0 mi_X7_firstSort (z_C d') Z) (b9 : Bool) (b8 : Bool) (x7 : Int32) (b6 : Bool) (b5 : Bool) (x3 : Int32) (x2 : Int32) (x1 : Int32) (b4 : Bool) (g p : Int64) (f : Int32) (K : Z 0 402 [(10, .int 3), (9, .int (nB b9)), (8, .int (nB b8)), (7, .int x7), (6, .int (nB b6)), (5, .int (nB b5)), (3, .int x3), (2, .int x2), (1, .int x1), (4, .int (nB b4)), (0, .ref 50)] [] (mGP μ g ((p ||| (lb ((xR μ 2) && ((xR μ 11) && (xR μ 20))) 17)) ||| (lb ((xT μ 2) && ((xT μ 11) && (xT μ 20))) 22)) f)) : Z 0 402 [(10, .int 2), (9, .int (nB b9)), (8, .int (nB b8)), (7, .int x7), (6, .int (nB b6)), (5, .int (nB b5)), (3, .int x3), (2, .int x2), (1, .int x1), (4, .int (nB b4)), (0, .ref 50)] [] (mGP μ g p f) := by
  have hH : zH mi_X7_firstSort zt_X7_firstSort 79 7 14 := hh_X7_firstSort
  refine z_rcs hc hH 8 (pc' := 419) (lv' := [(10, .int 2), (9, .int (nB b9)), (8, .int (nB b8)), (7, .int x7), (6, .int (nB b6)), (5, .int (nB b5)), (3, .int x3), (2, .int x2), (1, .int x1), (4, .int (nB b4)), (0, .ref 50)]) (st' := [.int 2, .ref 50]) (μ' := mGP μ g p f) (by rfl) ?_
  refine zq_call hc (z_cx_ok hH (by rfl)) (fb_X7_hasRun d' (by omega) (mGP μ g p f) 2) (by decide +kernel) (fun r9 μ9 hq => ?_)
  obtain ⟨hμ9, rfl⟩ := hq
  rw [hμ9]
  clear hμ9 μ9
  show Z 0 422 [(10, .int 2), (9, .int (nB b9)), (8, .int (nB b8)), (7, .int x7), (6, .int (nB b6)), (5, .int (nB b5)), (3, .int x3), (2, .int x2), (1, .int x1), (4, .int (nB b4)), (0, .ref 50)] [.int (nB (xR μ 2))] (mGP μ g p f)
  have hJ1 : Z 0 463 [(10, .int 2), (9, .int (nB b9)), (8, .int (nB b8)), (7, .int x7), (6, .int (nB b6)), (5, .int (nB b5)), (3, .int x3), (2, .int x2), (1, .int x1), (4, .int (nB b4)), (0, .ref 50)] [] (mGP μ g (p ||| (lb ((xR μ 2) && ((xR μ 11) && (xR μ 20))) 17)) f) := by
    refine z_rcs0 hc hH 2 (pc' := 466) (lv' := [(10, .int 2), (9, .int (nB b9)), (8, .int (nB b8)), (7, .int x7), (6, .int (nB b6)), (5, .int (nB b5)), (3, .int x3), (2, .int x2), (1, .int x1), (4, .int (nB b4)), (0, .ref 50)]) (st' := [.int 2, .ref 50]) (by rfl) ?_
    refine zq_call hc (z_cx_ok hH (by rfl)) (fb_X7_hasThree d' (by omega) (mGP μ g (p ||| (lb ((xR μ 2) && ((xR μ 11) && (xR μ 20))) 17)) f) 2) (by decide +kernel) (fun r9 μ9 hq => ?_)
    obtain ⟨hμ9, rfl⟩ := hq
    rw [hμ9]
    clear hμ9 μ9
    show Z 0 469 [(10, .int 2), (9, .int (nB b9)), (8, .int (nB b8)), (7, .int x7), (6, .int (nB b6)), (5, .int (nB b5)), (3, .int x3), (2, .int x2), (1, .int x1), (4, .int (nB b4)), (0, .ref 50)] [.int (nB (xT μ 2))] _
    have hJ2 : Z 0 510 [(10, .int 2), (9, .int (nB b9)), (8, .int (nB b8)), (7, .int x7), (6, .int (nB b6)), (5, .int (nB b5)), (3, .int x3), (2, .int x2), (1, .int x1), (4, .int (nB b4)), (0, .ref 50)] [] (mGP μ g ((p ||| (lb ((xR μ 2) && ((xR μ 11) && (xR μ 20))) 17)) ||| (lb ((xT μ 2) && ((xT μ 11) && (xT μ 20))) 22)) f) := by
      generalize hyy3 : ((p ||| (lb ((xR μ 2) && ((xR μ 11) && (xR μ 20))) 17)) ||| (lb ((xT μ 2) && ((xT μ 11) && (xT μ 20))) 22) : Int64) = yy3
      refine z_rcs hc hH 2 (pc' := 402) (lv' := [(10, .int 3), (9, .int (nB b9)), (8, .int (nB b8)), (7, .int x7), (6, .int (nB b6)), (5, .int (nB b5)), (3, .int x3), (2, .int x2), (1, .int x1), (4, .int (nB b4)), (0, .ref 50)]) (st' := []) (μ' := mGP μ g yy3 f) (by rfl) ?_
      subst hyy3
      exact K
    refine zq_if hc hH (by rfl) (tg := 510) (by rfl) (fun h4 => ?_) (fun h4 => ?_)
    · have h4 : (xT μ 2) = false := nB_z.mp (cm_eq9.mp h4)
      exact zJ hJ2 rfl rfl (by simp only [h4, lb_f, Int64.or_zero, nB_t, nB_f, Bool.not_true, Bool.not_false, Bool.and_true, Bool.true_and, Bool.false_and, Bool.and_false, Bool.or_true, Bool.true_or, Bool.false_or, Bool.or_false, cond_true, cond_false])
    · have h4 : (xT μ 2) = true := nB_n.mp (cn_eq.mp h4)
      refine z_rcs hc hH 4 (pc' := 478) (lv' := [(10, .int 2), (9, .int (nB b9)), (8, .int (nB b8)), (7, .int x7), (6, .int (nB b6)), (5, .int (nB b5)), (3, .int x3), (2, .int x2), (1, .int x1), (4, .int (nB b4)), (0, .ref 50)]) (st' := [.int 11, .ref 50]) (μ' := mGP μ g (p ||| (lb ((xR μ 2) && ((xR μ 11) && (xR μ 20))) 17)) f) (by rfl) ?_
      refine zq_call hc (z_cx_ok hH (by rfl)) (fb_X7_hasThree d' (by omega) (mGP μ g (p ||| (lb ((xR μ 2) && ((xR μ 11) && (xR μ 20))) 17)) f) 11) (by decide +kernel) (fun r9 μ9 hq => ?_)
      obtain ⟨hμ9, rfl⟩ := hq
      rw [hμ9]
      clear hμ9 μ9
      show Z 0 481 [(10, .int 2), (9, .int (nB b9)), (8, .int (nB b8)), (7, .int x7), (6, .int (nB b6)), (5, .int (nB b5)), (3, .int x3), (2, .int x2), (1, .int x1), (4, .int (nB b4)), (0, .ref 50)] [.int (nB (xT μ 11))] _
      refine zq_if hc hH (by rfl) (tg := 510) (by rfl) (fun h5 => ?_) (fun h5 => ?_)
      · have h5 : (xT μ 11) = false := nB_z.mp (cm_eq9.mp h5)
        exact zJ hJ2 rfl rfl (by simp only [h4, h5, lb_f, Int64.or_zero, nB_t, nB_f, Bool.not_true, Bool.not_false, Bool.and_true, Bool.true_and, Bool.false_and, Bool.and_false, Bool.or_true, Bool.true_or, Bool.false_or, Bool.or_false, cond_true, cond_false])
      · have h5 : (xT μ 11) = true := nB_n.mp (cn_eq.mp h5)
        refine z_rcs0 hc hH 4 (pc' := 490) (lv' := [(10, .int 2), (9, .int (nB b9)), (8, .int (nB b8)), (7, .int x7), (6, .int (nB b6)), (5, .int (nB b5)), (3, .int x3), (2, .int x2), (1, .int x1), (4, .int (nB b4)), (0, .ref 50)]) (st' := [.int 20, .ref 50]) (by rfl) ?_
        refine zq_call hc (z_cx_ok hH (by rfl)) (fb_X7_hasThree d' (by omega) (mGP μ g (p ||| (lb ((xR μ 2) && ((xR μ 11) && (xR μ 20))) 17)) f) 20) (by decide +kernel) (fun r9 μ9 hq => ?_)
        obtain ⟨hμ9, rfl⟩ := hq
        rw [hμ9]
        clear hμ9 μ9
        show Z 0 493 [(10, .int 2), (9, .int (nB b9)), (8, .int (nB b8)), (7, .int x7), (6, .int (nB b6)), (5, .int (nB b5)), (3, .int x3), (2, .int x2), (1, .int x1), (4, .int (nB b4)), (0, .ref 50)] [.int (nB (xT μ 20))] _
        refine zq_if hc hH (by rfl) (tg := 510) (by rfl) (fun h6 => ?_) (fun h6 => ?_)
        · have h6 : (xT μ 20) = false := nB_z.mp (cm_eq9.mp h6)
          exact zJ hJ2 rfl rfl (by simp only [h4, h5, h6, lb_f, Int64.or_zero, nB_t, nB_f, Bool.not_true, Bool.not_false, Bool.and_true, Bool.true_and, Bool.false_and, Bool.and_false, Bool.or_true, Bool.true_or, Bool.false_or, Bool.or_false, cond_true, cond_false])
        · have h6 : (xT μ 20) = true := nB_n.mp (cn_eq.mp h6)
          refine z_rcs0 hc hH 4 (pc' := 503) (lv' := [(10, .int 2), (9, .int (nB b9)), (8, .int (nB b8)), (7, .int x7), (6, .int (nB b6)), (5, .int (nB b5)), (3, .int x3), (2, .int x2), (1, .int x1), (4, .int (nB b4)), (0, .ref 50)]) (st' := [.int 22, .long (p ||| (lb ((xR μ 2) && ((xR μ 11) && (xR μ 20))) 17)), .ref 50]) (by rfl) ?_
          refine zq_call hc (z_cx_ok hH (by rfl)) (fb_X7_bit d' (by omega) (mGP μ g (p ||| (lb ((xR μ 2) && ((xR μ 11) && (xR μ 20))) 17)) f) 22) (by decide +kernel) (fun r9 μ9 hq => ?_)
          obtain ⟨hμ9, rfl⟩ := hq
          rw [hμ9]
          clear hμ9 μ9
          show Z 0 506 [(10, .int 2), (9, .int (nB b9)), (8, .int (nB b8)), (7, .int x7), (6, .int (nB b6)), (5, .int (nB b5)), (3, .int x3), (2, .int x2), (1, .int x1), (4, .int (nB b4)), (0, .ref 50)] [.long (lb true 22), .long (p ||| (lb ((xR μ 2) && ((xR μ 11) && (xR μ 20))) 17)), .ref 50] _
          refine z_rcs hc hH 2 (pc' := 510) (lv' := [(10, .int 2), (9, .int (nB b9)), (8, .int (nB b8)), (7, .int x7), (6, .int (nB b6)), (5, .int (nB b5)), (3, .int x3), (2, .int x2), (1, .int x1), (4, .int (nB b4)), (0, .ref 50)]) (st' := []) (μ' := z_uj (mGP μ g (p ||| (lb ((xR μ 2) && ((xR μ 11) && (xR μ 20))) 17)) f) 50 25 ((p ||| (lb ((xR μ 2) && ((xR μ 11) && (xR μ 20))) 17)) ||| (lb true 22))) (by rfl) ?_
          rw [mGP_p]
          exact zJ hJ2 rfl rfl (by simp only [h4, h5, h6, lb_f, Int64.or_zero, nB_t, nB_f, Bool.not_true, Bool.not_false, Bool.and_true, Bool.true_and, Bool.false_and, Bool.and_false, Bool.or_true, Bool.true_or, Bool.false_or, Bool.or_false, cond_true, cond_false])
  refine zq_if hc hH (by rfl) (tg := 463) (by rfl) (fun h7 => ?_) (fun h7 => ?_)
  · have h7 : (xR μ 2) = false := nB_z.mp (cm_eq9.mp h7)
    exact zJ hJ1 rfl rfl (by simp only [h7, lb_f, Int64.or_zero, nB_t, nB_f, Bool.not_true, Bool.not_false, Bool.and_true, Bool.true_and, Bool.false_and, Bool.and_false, Bool.or_true, Bool.true_or, Bool.false_or, Bool.or_false, cond_true, cond_false])
  · have h7 : (xR μ 2) = true := nB_n.mp (cn_eq.mp h7)
    refine z_rcs hc hH 4 (pc' := 431) (lv' := [(10, .int 2), (9, .int (nB b9)), (8, .int (nB b8)), (7, .int x7), (6, .int (nB b6)), (5, .int (nB b5)), (3, .int x3), (2, .int x2), (1, .int x1), (4, .int (nB b4)), (0, .ref 50)]) (st' := [.int 11, .ref 50]) (μ' := mGP μ g p f) (by rfl) ?_
    refine zq_call hc (z_cx_ok hH (by rfl)) (fb_X7_hasRun d' (by omega) (mGP μ g p f) 11) (by decide +kernel) (fun r9 μ9 hq => ?_)
    obtain ⟨hμ9, rfl⟩ := hq
    rw [hμ9]
    clear hμ9 μ9
    show Z 0 434 [(10, .int 2), (9, .int (nB b9)), (8, .int (nB b8)), (7, .int x7), (6, .int (nB b6)), (5, .int (nB b5)), (3, .int x3), (2, .int x2), (1, .int x1), (4, .int (nB b4)), (0, .ref 50)] [.int (nB (xR μ 11))] (mGP μ g p f)
    refine zq_if hc hH (by rfl) (tg := 463) (by rfl) (fun h8 => ?_) (fun h8 => ?_)
    · have h8 : (xR μ 11) = false := nB_z.mp (cm_eq9.mp h8)
      exact zJ hJ1 rfl rfl (by simp only [h7, h8, lb_f, Int64.or_zero, nB_t, nB_f, Bool.not_true, Bool.not_false, Bool.and_true, Bool.true_and, Bool.false_and, Bool.and_false, Bool.or_true, Bool.true_or, Bool.false_or, Bool.or_false, cond_true, cond_false])
    · have h8 : (xR μ 11) = true := nB_n.mp (cn_eq.mp h8)
      refine z_rcs hc hH 4 (pc' := 443) (lv' := [(10, .int 2), (9, .int (nB b9)), (8, .int (nB b8)), (7, .int x7), (6, .int (nB b6)), (5, .int (nB b5)), (3, .int x3), (2, .int x2), (1, .int x1), (4, .int (nB b4)), (0, .ref 50)]) (st' := [.int 20, .ref 50]) (μ' := mGP μ g p f) (by rfl) ?_
      refine zq_call hc (z_cx_ok hH (by rfl)) (fb_X7_hasRun d' (by omega) (mGP μ g p f) 20) (by decide +kernel) (fun r9 μ9 hq => ?_)
      obtain ⟨hμ9, rfl⟩ := hq
      rw [hμ9]
      clear hμ9 μ9
      show Z 0 446 [(10, .int 2), (9, .int (nB b9)), (8, .int (nB b8)), (7, .int x7), (6, .int (nB b6)), (5, .int (nB b5)), (3, .int x3), (2, .int x2), (1, .int x1), (4, .int (nB b4)), (0, .ref 50)] [.int (nB (xR μ 20))] (mGP μ g p f)
      refine zq_if hc hH (by rfl) (tg := 463) (by rfl) (fun h9 => ?_) (fun h9 => ?_)
      · have h9 : (xR μ 20) = false := nB_z.mp (cm_eq9.mp h9)
        exact zJ hJ1 rfl rfl (by simp only [h7, h8, h9, lb_f, Int64.or_zero, nB_t, nB_f, Bool.not_true, Bool.not_false, Bool.and_true, Bool.true_and, Bool.false_and, Bool.and_false, Bool.or_true, Bool.true_or, Bool.false_or, Bool.or_false, cond_true, cond_false])
      · have h9 : (xR μ 20) = true := nB_n.mp (cn_eq.mp h9)
        refine z_rcs hc hH 4 (pc' := 456) (lv' := [(10, .int 2), (9, .int (nB b9)), (8, .int (nB b8)), (7, .int x7), (6, .int (nB b6)), (5, .int (nB b5)), (3, .int x3), (2, .int x2), (1, .int x1), (4, .int (nB b4)), (0, .ref 50)]) (st' := [.int 17, .long p, .ref 50]) (μ' := mGP μ g p f) (by rfl) ?_
        refine zq_call hc (z_cx_ok hH (by rfl)) (fb_X7_bit d' (by omega) (mGP μ g p f) 17) (by decide +kernel) (fun r9 μ9 hq => ?_)
        obtain ⟨hμ9, rfl⟩ := hq
        rw [hμ9]
        clear hμ9 μ9
        show Z 0 459 [(10, .int 2), (9, .int (nB b9)), (8, .int (nB b8)), (7, .int x7), (6, .int (nB b6)), (5, .int (nB b5)), (3, .int x3), (2, .int x2), (1, .int x1), (4, .int (nB b4)), (0, .ref 50)] [.long (lb true 17), .long p, .ref 50] (mGP μ g p f)
        refine z_rcs hc hH 2 (pc' := 463) (lv' := [(10, .int 2), (9, .int (nB b9)), (8, .int (nB b8)), (7, .int x7), (6, .int (nB b6)), (5, .int (nB b5)), (3, .int x3), (2, .int x2), (1, .int x1), (4, .int (nB b4)), (0, .ref 50)]) (st' := []) (μ' := z_uj (mGP μ g p f) 50 25 (p ||| (lb true 17))) (by rfl) ?_
        rw [mGP_p]
        exact zJ hJ1 rfl rfl (by simp only [h7, h8, h9, lb_f, Int64.or_zero, nB_t, nB_f, Bool.not_true, Bool.not_false, Bool.and_true, Bool.true_and, Bool.false_and, Bool.and_false, Bool.or_true, Bool.true_or, Bool.false_or, Bool.or_false, cond_true, cond_false])
theorem fs402_3 (d' : Nat) (Z : zK) (hd : 4 ≤ d') (μ : zM) (q : Nat) (hq : q ≤ 4) (e4 : μ.1 50 4 = nI q) (s l : Nat → Nat) (hA : AY μ s l) (hco : vp_in (μ.1 50 22) 5) (hc : z_clo z_x0 mi_X7_firstSort (z_C d') Z) (b9 : Bool) (b8 : Bool) (x7 : Int32) (b6 : Bool) (b5 : Bool) (x3 : Int32) (x2 : Int32) (x1 : Int32) (b4 : Bool) (g p : Int64) (f : Int32) (K : Z 0 402 [(10, .int 4), (9, .int (nB b9)), (8, .int (nB b8)), (7, .int x7), (6, .int (nB b6)), (5, .int (nB b5)), (3, .int x3), (2, .int x2), (1, .int x1), (4, .int (nB b4)), (0, .ref 50)] [] (mGP μ g ((p ||| (lb ((xR μ 3) && ((xR μ 12) && (xR μ 21))) 17)) ||| (lb ((xT μ 3) && ((xT μ 12) && (xT μ 21))) 22)) f)) : Z 0 402 [(10, .int 3), (9, .int (nB b9)), (8, .int (nB b8)), (7, .int x7), (6, .int (nB b6)), (5, .int (nB b5)), (3, .int x3), (2, .int x2), (1, .int x1), (4, .int (nB b4)), (0, .ref 50)] [] (mGP μ g p f) := by
  have hH : zH mi_X7_firstSort zt_X7_firstSort 79 7 14 := hh_X7_firstSort
  refine z_rcs hc hH 8 (pc' := 419) (lv' := [(10, .int 3), (9, .int (nB b9)), (8, .int (nB b8)), (7, .int x7), (6, .int (nB b6)), (5, .int (nB b5)), (3, .int x3), (2, .int x2), (1, .int x1), (4, .int (nB b4)), (0, .ref 50)]) (st' := [.int 3, .ref 50]) (μ' := mGP μ g p f) (by rfl) ?_
  refine zq_call hc (z_cx_ok hH (by rfl)) (fb_X7_hasRun d' (by omega) (mGP μ g p f) 3) (by decide +kernel) (fun r9 μ9 hq => ?_)
  obtain ⟨hμ9, rfl⟩ := hq
  rw [hμ9]
  clear hμ9 μ9
  show Z 0 422 [(10, .int 3), (9, .int (nB b9)), (8, .int (nB b8)), (7, .int x7), (6, .int (nB b6)), (5, .int (nB b5)), (3, .int x3), (2, .int x2), (1, .int x1), (4, .int (nB b4)), (0, .ref 50)] [.int (nB (xR μ 3))] (mGP μ g p f)
  have hJ1 : Z 0 463 [(10, .int 3), (9, .int (nB b9)), (8, .int (nB b8)), (7, .int x7), (6, .int (nB b6)), (5, .int (nB b5)), (3, .int x3), (2, .int x2), (1, .int x1), (4, .int (nB b4)), (0, .ref 50)] [] (mGP μ g (p ||| (lb ((xR μ 3) && ((xR μ 12) && (xR μ 21))) 17)) f) := by
    refine z_rcs0 hc hH 2 (pc' := 466) (lv' := [(10, .int 3), (9, .int (nB b9)), (8, .int (nB b8)), (7, .int x7), (6, .int (nB b6)), (5, .int (nB b5)), (3, .int x3), (2, .int x2), (1, .int x1), (4, .int (nB b4)), (0, .ref 50)]) (st' := [.int 3, .ref 50]) (by rfl) ?_
    refine zq_call hc (z_cx_ok hH (by rfl)) (fb_X7_hasThree d' (by omega) (mGP μ g (p ||| (lb ((xR μ 3) && ((xR μ 12) && (xR μ 21))) 17)) f) 3) (by decide +kernel) (fun r9 μ9 hq => ?_)
    obtain ⟨hμ9, rfl⟩ := hq
    rw [hμ9]
    clear hμ9 μ9
    show Z 0 469 [(10, .int 3), (9, .int (nB b9)), (8, .int (nB b8)), (7, .int x7), (6, .int (nB b6)), (5, .int (nB b5)), (3, .int x3), (2, .int x2), (1, .int x1), (4, .int (nB b4)), (0, .ref 50)] [.int (nB (xT μ 3))] _
    have hJ2 : Z 0 510 [(10, .int 3), (9, .int (nB b9)), (8, .int (nB b8)), (7, .int x7), (6, .int (nB b6)), (5, .int (nB b5)), (3, .int x3), (2, .int x2), (1, .int x1), (4, .int (nB b4)), (0, .ref 50)] [] (mGP μ g ((p ||| (lb ((xR μ 3) && ((xR μ 12) && (xR μ 21))) 17)) ||| (lb ((xT μ 3) && ((xT μ 12) && (xT μ 21))) 22)) f) := by
      generalize hyy3 : ((p ||| (lb ((xR μ 3) && ((xR μ 12) && (xR μ 21))) 17)) ||| (lb ((xT μ 3) && ((xT μ 12) && (xT μ 21))) 22) : Int64) = yy3
      refine z_rcs hc hH 2 (pc' := 402) (lv' := [(10, .int 4), (9, .int (nB b9)), (8, .int (nB b8)), (7, .int x7), (6, .int (nB b6)), (5, .int (nB b5)), (3, .int x3), (2, .int x2), (1, .int x1), (4, .int (nB b4)), (0, .ref 50)]) (st' := []) (μ' := mGP μ g yy3 f) (by rfl) ?_
      subst hyy3
      exact K
    refine zq_if hc hH (by rfl) (tg := 510) (by rfl) (fun h4 => ?_) (fun h4 => ?_)
    · have h4 : (xT μ 3) = false := nB_z.mp (cm_eq9.mp h4)
      exact zJ hJ2 rfl rfl (by simp only [h4, lb_f, Int64.or_zero, nB_t, nB_f, Bool.not_true, Bool.not_false, Bool.and_true, Bool.true_and, Bool.false_and, Bool.and_false, Bool.or_true, Bool.true_or, Bool.false_or, Bool.or_false, cond_true, cond_false])
    · have h4 : (xT μ 3) = true := nB_n.mp (cn_eq.mp h4)
      refine z_rcs hc hH 4 (pc' := 478) (lv' := [(10, .int 3), (9, .int (nB b9)), (8, .int (nB b8)), (7, .int x7), (6, .int (nB b6)), (5, .int (nB b5)), (3, .int x3), (2, .int x2), (1, .int x1), (4, .int (nB b4)), (0, .ref 50)]) (st' := [.int 12, .ref 50]) (μ' := mGP μ g (p ||| (lb ((xR μ 3) && ((xR μ 12) && (xR μ 21))) 17)) f) (by rfl) ?_
      refine zq_call hc (z_cx_ok hH (by rfl)) (fb_X7_hasThree d' (by omega) (mGP μ g (p ||| (lb ((xR μ 3) && ((xR μ 12) && (xR μ 21))) 17)) f) 12) (by decide +kernel) (fun r9 μ9 hq => ?_)
      obtain ⟨hμ9, rfl⟩ := hq
      rw [hμ9]
      clear hμ9 μ9
      show Z 0 481 [(10, .int 3), (9, .int (nB b9)), (8, .int (nB b8)), (7, .int x7), (6, .int (nB b6)), (5, .int (nB b5)), (3, .int x3), (2, .int x2), (1, .int x1), (4, .int (nB b4)), (0, .ref 50)] [.int (nB (xT μ 12))] _
      refine zq_if hc hH (by rfl) (tg := 510) (by rfl) (fun h5 => ?_) (fun h5 => ?_)
      · have h5 : (xT μ 12) = false := nB_z.mp (cm_eq9.mp h5)
        exact zJ hJ2 rfl rfl (by simp only [h4, h5, lb_f, Int64.or_zero, nB_t, nB_f, Bool.not_true, Bool.not_false, Bool.and_true, Bool.true_and, Bool.false_and, Bool.and_false, Bool.or_true, Bool.true_or, Bool.false_or, Bool.or_false, cond_true, cond_false])
      · have h5 : (xT μ 12) = true := nB_n.mp (cn_eq.mp h5)
        refine z_rcs0 hc hH 4 (pc' := 490) (lv' := [(10, .int 3), (9, .int (nB b9)), (8, .int (nB b8)), (7, .int x7), (6, .int (nB b6)), (5, .int (nB b5)), (3, .int x3), (2, .int x2), (1, .int x1), (4, .int (nB b4)), (0, .ref 50)]) (st' := [.int 21, .ref 50]) (by rfl) ?_
        refine zq_call hc (z_cx_ok hH (by rfl)) (fb_X7_hasThree d' (by omega) (mGP μ g (p ||| (lb ((xR μ 3) && ((xR μ 12) && (xR μ 21))) 17)) f) 21) (by decide +kernel) (fun r9 μ9 hq => ?_)
        obtain ⟨hμ9, rfl⟩ := hq
        rw [hμ9]
        clear hμ9 μ9
        show Z 0 493 [(10, .int 3), (9, .int (nB b9)), (8, .int (nB b8)), (7, .int x7), (6, .int (nB b6)), (5, .int (nB b5)), (3, .int x3), (2, .int x2), (1, .int x1), (4, .int (nB b4)), (0, .ref 50)] [.int (nB (xT μ 21))] _
        refine zq_if hc hH (by rfl) (tg := 510) (by rfl) (fun h6 => ?_) (fun h6 => ?_)
        · have h6 : (xT μ 21) = false := nB_z.mp (cm_eq9.mp h6)
          exact zJ hJ2 rfl rfl (by simp only [h4, h5, h6, lb_f, Int64.or_zero, nB_t, nB_f, Bool.not_true, Bool.not_false, Bool.and_true, Bool.true_and, Bool.false_and, Bool.and_false, Bool.or_true, Bool.true_or, Bool.false_or, Bool.or_false, cond_true, cond_false])
        · have h6 : (xT μ 21) = true := nB_n.mp (cn_eq.mp h6)
          refine z_rcs0 hc hH 4 (pc' := 503) (lv' := [(10, .int 3), (9, .int (nB b9)), (8, .int (nB b8)), (7, .int x7), (6, .int (nB b6)), (5, .int (nB b5)), (3, .int x3), (2, .int x2), (1, .int x1), (4, .int (nB b4)), (0, .ref 50)]) (st' := [.int 22, .long (p ||| (lb ((xR μ 3) && ((xR μ 12) && (xR μ 21))) 17)), .ref 50]) (by rfl) ?_
          refine zq_call hc (z_cx_ok hH (by rfl)) (fb_X7_bit d' (by omega) (mGP μ g (p ||| (lb ((xR μ 3) && ((xR μ 12) && (xR μ 21))) 17)) f) 22) (by decide +kernel) (fun r9 μ9 hq => ?_)
          obtain ⟨hμ9, rfl⟩ := hq
          rw [hμ9]
          clear hμ9 μ9
          show Z 0 506 [(10, .int 3), (9, .int (nB b9)), (8, .int (nB b8)), (7, .int x7), (6, .int (nB b6)), (5, .int (nB b5)), (3, .int x3), (2, .int x2), (1, .int x1), (4, .int (nB b4)), (0, .ref 50)] [.long (lb true 22), .long (p ||| (lb ((xR μ 3) && ((xR μ 12) && (xR μ 21))) 17)), .ref 50] _
          refine z_rcs hc hH 2 (pc' := 510) (lv' := [(10, .int 3), (9, .int (nB b9)), (8, .int (nB b8)), (7, .int x7), (6, .int (nB b6)), (5, .int (nB b5)), (3, .int x3), (2, .int x2), (1, .int x1), (4, .int (nB b4)), (0, .ref 50)]) (st' := []) (μ' := z_uj (mGP μ g (p ||| (lb ((xR μ 3) && ((xR μ 12) && (xR μ 21))) 17)) f) 50 25 ((p ||| (lb ((xR μ 3) && ((xR μ 12) && (xR μ 21))) 17)) ||| (lb true 22))) (by rfl) ?_
          rw [mGP_p]
          exact zJ hJ2 rfl rfl (by simp only [h4, h5, h6, lb_f, Int64.or_zero, nB_t, nB_f, Bool.not_true, Bool.not_false, Bool.and_true, Bool.true_and, Bool.false_and, Bool.and_false, Bool.or_true, Bool.true_or, Bool.false_or, Bool.or_false, cond_true, cond_false])
  refine zq_if hc hH (by rfl) (tg := 463) (by rfl) (fun h7 => ?_) (fun h7 => ?_)
  · have h7 : (xR μ 3) = false := nB_z.mp (cm_eq9.mp h7)
    exact zJ hJ1 rfl rfl (by simp only [h7, lb_f, Int64.or_zero, nB_t, nB_f, Bool.not_true, Bool.not_false, Bool.and_true, Bool.true_and, Bool.false_and, Bool.and_false, Bool.or_true, Bool.true_or, Bool.false_or, Bool.or_false, cond_true, cond_false])
  · have h7 : (xR μ 3) = true := nB_n.mp (cn_eq.mp h7)
    refine z_rcs hc hH 4 (pc' := 431) (lv' := [(10, .int 3), (9, .int (nB b9)), (8, .int (nB b8)), (7, .int x7), (6, .int (nB b6)), (5, .int (nB b5)), (3, .int x3), (2, .int x2), (1, .int x1), (4, .int (nB b4)), (0, .ref 50)]) (st' := [.int 12, .ref 50]) (μ' := mGP μ g p f) (by rfl) ?_
    refine zq_call hc (z_cx_ok hH (by rfl)) (fb_X7_hasRun d' (by omega) (mGP μ g p f) 12) (by decide +kernel) (fun r9 μ9 hq => ?_)
    obtain ⟨hμ9, rfl⟩ := hq
    rw [hμ9]
    clear hμ9 μ9
    show Z 0 434 [(10, .int 3), (9, .int (nB b9)), (8, .int (nB b8)), (7, .int x7), (6, .int (nB b6)), (5, .int (nB b5)), (3, .int x3), (2, .int x2), (1, .int x1), (4, .int (nB b4)), (0, .ref 50)] [.int (nB (xR μ 12))] (mGP μ g p f)
    refine zq_if hc hH (by rfl) (tg := 463) (by rfl) (fun h8 => ?_) (fun h8 => ?_)
    · have h8 : (xR μ 12) = false := nB_z.mp (cm_eq9.mp h8)
      exact zJ hJ1 rfl rfl (by simp only [h7, h8, lb_f, Int64.or_zero, nB_t, nB_f, Bool.not_true, Bool.not_false, Bool.and_true, Bool.true_and, Bool.false_and, Bool.and_false, Bool.or_true, Bool.true_or, Bool.false_or, Bool.or_false, cond_true, cond_false])
    · have h8 : (xR μ 12) = true := nB_n.mp (cn_eq.mp h8)
      refine z_rcs hc hH 4 (pc' := 443) (lv' := [(10, .int 3), (9, .int (nB b9)), (8, .int (nB b8)), (7, .int x7), (6, .int (nB b6)), (5, .int (nB b5)), (3, .int x3), (2, .int x2), (1, .int x1), (4, .int (nB b4)), (0, .ref 50)]) (st' := [.int 21, .ref 50]) (μ' := mGP μ g p f) (by rfl) ?_
      refine zq_call hc (z_cx_ok hH (by rfl)) (fb_X7_hasRun d' (by omega) (mGP μ g p f) 21) (by decide +kernel) (fun r9 μ9 hq => ?_)
      obtain ⟨hμ9, rfl⟩ := hq
      rw [hμ9]
      clear hμ9 μ9
      show Z 0 446 [(10, .int 3), (9, .int (nB b9)), (8, .int (nB b8)), (7, .int x7), (6, .int (nB b6)), (5, .int (nB b5)), (3, .int x3), (2, .int x2), (1, .int x1), (4, .int (nB b4)), (0, .ref 50)] [.int (nB (xR μ 21))] (mGP μ g p f)
      refine zq_if hc hH (by rfl) (tg := 463) (by rfl) (fun h9 => ?_) (fun h9 => ?_)
      · have h9 : (xR μ 21) = false := nB_z.mp (cm_eq9.mp h9)
        exact zJ hJ1 rfl rfl (by simp only [h7, h8, h9, lb_f, Int64.or_zero, nB_t, nB_f, Bool.not_true, Bool.not_false, Bool.and_true, Bool.true_and, Bool.false_and, Bool.and_false, Bool.or_true, Bool.true_or, Bool.false_or, Bool.or_false, cond_true, cond_false])
      · have h9 : (xR μ 21) = true := nB_n.mp (cn_eq.mp h9)
        refine z_rcs hc hH 4 (pc' := 456) (lv' := [(10, .int 3), (9, .int (nB b9)), (8, .int (nB b8)), (7, .int x7), (6, .int (nB b6)), (5, .int (nB b5)), (3, .int x3), (2, .int x2), (1, .int x1), (4, .int (nB b4)), (0, .ref 50)]) (st' := [.int 17, .long p, .ref 50]) (μ' := mGP μ g p f) (by rfl) ?_
        refine zq_call hc (z_cx_ok hH (by rfl)) (fb_X7_bit d' (by omega) (mGP μ g p f) 17) (by decide +kernel) (fun r9 μ9 hq => ?_)
        obtain ⟨hμ9, rfl⟩ := hq
        rw [hμ9]
        clear hμ9 μ9
        show Z 0 459 [(10, .int 3), (9, .int (nB b9)), (8, .int (nB b8)), (7, .int x7), (6, .int (nB b6)), (5, .int (nB b5)), (3, .int x3), (2, .int x2), (1, .int x1), (4, .int (nB b4)), (0, .ref 50)] [.long (lb true 17), .long p, .ref 50] (mGP μ g p f)
        refine z_rcs hc hH 2 (pc' := 463) (lv' := [(10, .int 3), (9, .int (nB b9)), (8, .int (nB b8)), (7, .int x7), (6, .int (nB b6)), (5, .int (nB b5)), (3, .int x3), (2, .int x2), (1, .int x1), (4, .int (nB b4)), (0, .ref 50)]) (st' := []) (μ' := z_uj (mGP μ g p f) 50 25 (p ||| (lb true 17))) (by rfl) ?_
        rw [mGP_p]
        exact zJ hJ1 rfl rfl (by simp only [h7, h8, h9, lb_f, Int64.or_zero, nB_t, nB_f, Bool.not_true, Bool.not_false, Bool.and_true, Bool.true_and, Bool.false_and, Bool.and_false, Bool.or_true, Bool.true_or, Bool.false_or, Bool.or_false, cond_true, cond_false])
theorem fs402_4 (d' : Nat) (Z : zK) (hd : 4 ≤ d') (μ : zM) (q : Nat) (hq : q ≤ 4) (e4 : μ.1 50 4 = nI q) (s l : Nat → Nat) (hA : AY μ s l) (hco : vp_in (μ.1 50 22) 5) (hc : z_clo z_x0 mi_X7_firstSort (z_C d') Z) (b9 : Bool) (b8 : Bool) (x7 : Int32) (b6 : Bool) (b5 : Bool) (x3 : Int32) (x2 : Int32) (x1 : Int32) (b4 : Bool) (g p : Int64) (f : Int32) (K : Z 0 402 [(10, .int 5), (9, .int (nB b9)), (8, .int (nB b8)), (7, .int x7), (6, .int (nB b6)), (5, .int (nB b5)), (3, .int x3), (2, .int x2), (1, .int x1), (4, .int (nB b4)), (0, .ref 50)] [] (mGP μ g ((p ||| (lb ((xR μ 4) && ((xR μ 13) && (xR μ 22))) 17)) ||| (lb ((xT μ 4) && ((xT μ 13) && (xT μ 22))) 22)) f)) : Z 0 402 [(10, .int 4), (9, .int (nB b9)), (8, .int (nB b8)), (7, .int x7), (6, .int (nB b6)), (5, .int (nB b5)), (3, .int x3), (2, .int x2), (1, .int x1), (4, .int (nB b4)), (0, .ref 50)] [] (mGP μ g p f) := by
  have hH : zH mi_X7_firstSort zt_X7_firstSort 79 7 14 := hh_X7_firstSort
  refine z_rcs hc hH 8 (pc' := 419) (lv' := [(10, .int 4), (9, .int (nB b9)), (8, .int (nB b8)), (7, .int x7), (6, .int (nB b6)), (5, .int (nB b5)), (3, .int x3), (2, .int x2), (1, .int x1), (4, .int (nB b4)), (0, .ref 50)]) (st' := [.int 4, .ref 50]) (μ' := mGP μ g p f) (by rfl) ?_
  refine zq_call hc (z_cx_ok hH (by rfl)) (fb_X7_hasRun d' (by omega) (mGP μ g p f) 4) (by decide +kernel) (fun r9 μ9 hq => ?_)
  obtain ⟨hμ9, rfl⟩ := hq
  rw [hμ9]
  clear hμ9 μ9
  show Z 0 422 [(10, .int 4), (9, .int (nB b9)), (8, .int (nB b8)), (7, .int x7), (6, .int (nB b6)), (5, .int (nB b5)), (3, .int x3), (2, .int x2), (1, .int x1), (4, .int (nB b4)), (0, .ref 50)] [.int (nB (xR μ 4))] (mGP μ g p f)
  have hJ1 : Z 0 463 [(10, .int 4), (9, .int (nB b9)), (8, .int (nB b8)), (7, .int x7), (6, .int (nB b6)), (5, .int (nB b5)), (3, .int x3), (2, .int x2), (1, .int x1), (4, .int (nB b4)), (0, .ref 50)] [] (mGP μ g (p ||| (lb ((xR μ 4) && ((xR μ 13) && (xR μ 22))) 17)) f) := by
    refine z_rcs0 hc hH 2 (pc' := 466) (lv' := [(10, .int 4), (9, .int (nB b9)), (8, .int (nB b8)), (7, .int x7), (6, .int (nB b6)), (5, .int (nB b5)), (3, .int x3), (2, .int x2), (1, .int x1), (4, .int (nB b4)), (0, .ref 50)]) (st' := [.int 4, .ref 50]) (by rfl) ?_
    refine zq_call hc (z_cx_ok hH (by rfl)) (fb_X7_hasThree d' (by omega) (mGP μ g (p ||| (lb ((xR μ 4) && ((xR μ 13) && (xR μ 22))) 17)) f) 4) (by decide +kernel) (fun r9 μ9 hq => ?_)
    obtain ⟨hμ9, rfl⟩ := hq
    rw [hμ9]
    clear hμ9 μ9
    show Z 0 469 [(10, .int 4), (9, .int (nB b9)), (8, .int (nB b8)), (7, .int x7), (6, .int (nB b6)), (5, .int (nB b5)), (3, .int x3), (2, .int x2), (1, .int x1), (4, .int (nB b4)), (0, .ref 50)] [.int (nB (xT μ 4))] _
    have hJ2 : Z 0 510 [(10, .int 4), (9, .int (nB b9)), (8, .int (nB b8)), (7, .int x7), (6, .int (nB b6)), (5, .int (nB b5)), (3, .int x3), (2, .int x2), (1, .int x1), (4, .int (nB b4)), (0, .ref 50)] [] (mGP μ g ((p ||| (lb ((xR μ 4) && ((xR μ 13) && (xR μ 22))) 17)) ||| (lb ((xT μ 4) && ((xT μ 13) && (xT μ 22))) 22)) f) := by
      generalize hyy3 : ((p ||| (lb ((xR μ 4) && ((xR μ 13) && (xR μ 22))) 17)) ||| (lb ((xT μ 4) && ((xT μ 13) && (xT μ 22))) 22) : Int64) = yy3
      refine z_rcs hc hH 2 (pc' := 402) (lv' := [(10, .int 5), (9, .int (nB b9)), (8, .int (nB b8)), (7, .int x7), (6, .int (nB b6)), (5, .int (nB b5)), (3, .int x3), (2, .int x2), (1, .int x1), (4, .int (nB b4)), (0, .ref 50)]) (st' := []) (μ' := mGP μ g yy3 f) (by rfl) ?_
      subst hyy3
      exact K
    refine zq_if hc hH (by rfl) (tg := 510) (by rfl) (fun h4 => ?_) (fun h4 => ?_)
    · have h4 : (xT μ 4) = false := nB_z.mp (cm_eq9.mp h4)
      exact zJ hJ2 rfl rfl (by simp only [h4, lb_f, Int64.or_zero, nB_t, nB_f, Bool.not_true, Bool.not_false, Bool.and_true, Bool.true_and, Bool.false_and, Bool.and_false, Bool.or_true, Bool.true_or, Bool.false_or, Bool.or_false, cond_true, cond_false])
    · have h4 : (xT μ 4) = true := nB_n.mp (cn_eq.mp h4)
      refine z_rcs hc hH 4 (pc' := 478) (lv' := [(10, .int 4), (9, .int (nB b9)), (8, .int (nB b8)), (7, .int x7), (6, .int (nB b6)), (5, .int (nB b5)), (3, .int x3), (2, .int x2), (1, .int x1), (4, .int (nB b4)), (0, .ref 50)]) (st' := [.int 13, .ref 50]) (μ' := mGP μ g (p ||| (lb ((xR μ 4) && ((xR μ 13) && (xR μ 22))) 17)) f) (by rfl) ?_
      refine zq_call hc (z_cx_ok hH (by rfl)) (fb_X7_hasThree d' (by omega) (mGP μ g (p ||| (lb ((xR μ 4) && ((xR μ 13) && (xR μ 22))) 17)) f) 13) (by decide +kernel) (fun r9 μ9 hq => ?_)
      obtain ⟨hμ9, rfl⟩ := hq
      rw [hμ9]
      clear hμ9 μ9
      show Z 0 481 [(10, .int 4), (9, .int (nB b9)), (8, .int (nB b8)), (7, .int x7), (6, .int (nB b6)), (5, .int (nB b5)), (3, .int x3), (2, .int x2), (1, .int x1), (4, .int (nB b4)), (0, .ref 50)] [.int (nB (xT μ 13))] _
      refine zq_if hc hH (by rfl) (tg := 510) (by rfl) (fun h5 => ?_) (fun h5 => ?_)
      · have h5 : (xT μ 13) = false := nB_z.mp (cm_eq9.mp h5)
        exact zJ hJ2 rfl rfl (by simp only [h4, h5, lb_f, Int64.or_zero, nB_t, nB_f, Bool.not_true, Bool.not_false, Bool.and_true, Bool.true_and, Bool.false_and, Bool.and_false, Bool.or_true, Bool.true_or, Bool.false_or, Bool.or_false, cond_true, cond_false])
      · have h5 : (xT μ 13) = true := nB_n.mp (cn_eq.mp h5)
        refine z_rcs0 hc hH 4 (pc' := 490) (lv' := [(10, .int 4), (9, .int (nB b9)), (8, .int (nB b8)), (7, .int x7), (6, .int (nB b6)), (5, .int (nB b5)), (3, .int x3), (2, .int x2), (1, .int x1), (4, .int (nB b4)), (0, .ref 50)]) (st' := [.int 22, .ref 50]) (by rfl) ?_
        refine zq_call hc (z_cx_ok hH (by rfl)) (fb_X7_hasThree d' (by omega) (mGP μ g (p ||| (lb ((xR μ 4) && ((xR μ 13) && (xR μ 22))) 17)) f) 22) (by decide +kernel) (fun r9 μ9 hq => ?_)
        obtain ⟨hμ9, rfl⟩ := hq
        rw [hμ9]
        clear hμ9 μ9
        show Z 0 493 [(10, .int 4), (9, .int (nB b9)), (8, .int (nB b8)), (7, .int x7), (6, .int (nB b6)), (5, .int (nB b5)), (3, .int x3), (2, .int x2), (1, .int x1), (4, .int (nB b4)), (0, .ref 50)] [.int (nB (xT μ 22))] _
        refine zq_if hc hH (by rfl) (tg := 510) (by rfl) (fun h6 => ?_) (fun h6 => ?_)
        · have h6 : (xT μ 22) = false := nB_z.mp (cm_eq9.mp h6)
          exact zJ hJ2 rfl rfl (by simp only [h4, h5, h6, lb_f, Int64.or_zero, nB_t, nB_f, Bool.not_true, Bool.not_false, Bool.and_true, Bool.true_and, Bool.false_and, Bool.and_false, Bool.or_true, Bool.true_or, Bool.false_or, Bool.or_false, cond_true, cond_false])
        · have h6 : (xT μ 22) = true := nB_n.mp (cn_eq.mp h6)
          refine z_rcs0 hc hH 4 (pc' := 503) (lv' := [(10, .int 4), (9, .int (nB b9)), (8, .int (nB b8)), (7, .int x7), (6, .int (nB b6)), (5, .int (nB b5)), (3, .int x3), (2, .int x2), (1, .int x1), (4, .int (nB b4)), (0, .ref 50)]) (st' := [.int 22, .long (p ||| (lb ((xR μ 4) && ((xR μ 13) && (xR μ 22))) 17)), .ref 50]) (by rfl) ?_
          refine zq_call hc (z_cx_ok hH (by rfl)) (fb_X7_bit d' (by omega) (mGP μ g (p ||| (lb ((xR μ 4) && ((xR μ 13) && (xR μ 22))) 17)) f) 22) (by decide +kernel) (fun r9 μ9 hq => ?_)
          obtain ⟨hμ9, rfl⟩ := hq
          rw [hμ9]
          clear hμ9 μ9
          show Z 0 506 [(10, .int 4), (9, .int (nB b9)), (8, .int (nB b8)), (7, .int x7), (6, .int (nB b6)), (5, .int (nB b5)), (3, .int x3), (2, .int x2), (1, .int x1), (4, .int (nB b4)), (0, .ref 50)] [.long (lb true 22), .long (p ||| (lb ((xR μ 4) && ((xR μ 13) && (xR μ 22))) 17)), .ref 50] _
          refine z_rcs hc hH 2 (pc' := 510) (lv' := [(10, .int 4), (9, .int (nB b9)), (8, .int (nB b8)), (7, .int x7), (6, .int (nB b6)), (5, .int (nB b5)), (3, .int x3), (2, .int x2), (1, .int x1), (4, .int (nB b4)), (0, .ref 50)]) (st' := []) (μ' := z_uj (mGP μ g (p ||| (lb ((xR μ 4) && ((xR μ 13) && (xR μ 22))) 17)) f) 50 25 ((p ||| (lb ((xR μ 4) && ((xR μ 13) && (xR μ 22))) 17)) ||| (lb true 22))) (by rfl) ?_
          rw [mGP_p]
          exact zJ hJ2 rfl rfl (by simp only [h4, h5, h6, lb_f, Int64.or_zero, nB_t, nB_f, Bool.not_true, Bool.not_false, Bool.and_true, Bool.true_and, Bool.false_and, Bool.and_false, Bool.or_true, Bool.true_or, Bool.false_or, Bool.or_false, cond_true, cond_false])
  refine zq_if hc hH (by rfl) (tg := 463) (by rfl) (fun h7 => ?_) (fun h7 => ?_)
  · have h7 : (xR μ 4) = false := nB_z.mp (cm_eq9.mp h7)
    exact zJ hJ1 rfl rfl (by simp only [h7, lb_f, Int64.or_zero, nB_t, nB_f, Bool.not_true, Bool.not_false, Bool.and_true, Bool.true_and, Bool.false_and, Bool.and_false, Bool.or_true, Bool.true_or, Bool.false_or, Bool.or_false, cond_true, cond_false])
  · have h7 : (xR μ 4) = true := nB_n.mp (cn_eq.mp h7)
    refine z_rcs hc hH 4 (pc' := 431) (lv' := [(10, .int 4), (9, .int (nB b9)), (8, .int (nB b8)), (7, .int x7), (6, .int (nB b6)), (5, .int (nB b5)), (3, .int x3), (2, .int x2), (1, .int x1), (4, .int (nB b4)), (0, .ref 50)]) (st' := [.int 13, .ref 50]) (μ' := mGP μ g p f) (by rfl) ?_
    refine zq_call hc (z_cx_ok hH (by rfl)) (fb_X7_hasRun d' (by omega) (mGP μ g p f) 13) (by decide +kernel) (fun r9 μ9 hq => ?_)
    obtain ⟨hμ9, rfl⟩ := hq
    rw [hμ9]
    clear hμ9 μ9
    show Z 0 434 [(10, .int 4), (9, .int (nB b9)), (8, .int (nB b8)), (7, .int x7), (6, .int (nB b6)), (5, .int (nB b5)), (3, .int x3), (2, .int x2), (1, .int x1), (4, .int (nB b4)), (0, .ref 50)] [.int (nB (xR μ 13))] (mGP μ g p f)
    refine zq_if hc hH (by rfl) (tg := 463) (by rfl) (fun h8 => ?_) (fun h8 => ?_)
    · have h8 : (xR μ 13) = false := nB_z.mp (cm_eq9.mp h8)
      exact zJ hJ1 rfl rfl (by simp only [h7, h8, lb_f, Int64.or_zero, nB_t, nB_f, Bool.not_true, Bool.not_false, Bool.and_true, Bool.true_and, Bool.false_and, Bool.and_false, Bool.or_true, Bool.true_or, Bool.false_or, Bool.or_false, cond_true, cond_false])
    · have h8 : (xR μ 13) = true := nB_n.mp (cn_eq.mp h8)
      refine z_rcs hc hH 4 (pc' := 443) (lv' := [(10, .int 4), (9, .int (nB b9)), (8, .int (nB b8)), (7, .int x7), (6, .int (nB b6)), (5, .int (nB b5)), (3, .int x3), (2, .int x2), (1, .int x1), (4, .int (nB b4)), (0, .ref 50)]) (st' := [.int 22, .ref 50]) (μ' := mGP μ g p f) (by rfl) ?_
      refine zq_call hc (z_cx_ok hH (by rfl)) (fb_X7_hasRun d' (by omega) (mGP μ g p f) 22) (by decide +kernel) (fun r9 μ9 hq => ?_)
      obtain ⟨hμ9, rfl⟩ := hq
      rw [hμ9]
      clear hμ9 μ9
      show Z 0 446 [(10, .int 4), (9, .int (nB b9)), (8, .int (nB b8)), (7, .int x7), (6, .int (nB b6)), (5, .int (nB b5)), (3, .int x3), (2, .int x2), (1, .int x1), (4, .int (nB b4)), (0, .ref 50)] [.int (nB (xR μ 22))] (mGP μ g p f)
      refine zq_if hc hH (by rfl) (tg := 463) (by rfl) (fun h9 => ?_) (fun h9 => ?_)
      · have h9 : (xR μ 22) = false := nB_z.mp (cm_eq9.mp h9)
        exact zJ hJ1 rfl rfl (by simp only [h7, h8, h9, lb_f, Int64.or_zero, nB_t, nB_f, Bool.not_true, Bool.not_false, Bool.and_true, Bool.true_and, Bool.false_and, Bool.and_false, Bool.or_true, Bool.true_or, Bool.false_or, Bool.or_false, cond_true, cond_false])
      · have h9 : (xR μ 22) = true := nB_n.mp (cn_eq.mp h9)
        refine z_rcs hc hH 4 (pc' := 456) (lv' := [(10, .int 4), (9, .int (nB b9)), (8, .int (nB b8)), (7, .int x7), (6, .int (nB b6)), (5, .int (nB b5)), (3, .int x3), (2, .int x2), (1, .int x1), (4, .int (nB b4)), (0, .ref 50)]) (st' := [.int 17, .long p, .ref 50]) (μ' := mGP μ g p f) (by rfl) ?_
        refine zq_call hc (z_cx_ok hH (by rfl)) (fb_X7_bit d' (by omega) (mGP μ g p f) 17) (by decide +kernel) (fun r9 μ9 hq => ?_)
        obtain ⟨hμ9, rfl⟩ := hq
        rw [hμ9]
        clear hμ9 μ9
        show Z 0 459 [(10, .int 4), (9, .int (nB b9)), (8, .int (nB b8)), (7, .int x7), (6, .int (nB b6)), (5, .int (nB b5)), (3, .int x3), (2, .int x2), (1, .int x1), (4, .int (nB b4)), (0, .ref 50)] [.long (lb true 17), .long p, .ref 50] (mGP μ g p f)
        refine z_rcs hc hH 2 (pc' := 463) (lv' := [(10, .int 4), (9, .int (nB b9)), (8, .int (nB b8)), (7, .int x7), (6, .int (nB b6)), (5, .int (nB b5)), (3, .int x3), (2, .int x2), (1, .int x1), (4, .int (nB b4)), (0, .ref 50)]) (st' := []) (μ' := z_uj (mGP μ g p f) 50 25 (p ||| (lb true 17))) (by rfl) ?_
        rw [mGP_p]
        exact zJ hJ1 rfl rfl (by simp only [h7, h8, h9, lb_f, Int64.or_zero, nB_t, nB_f, Bool.not_true, Bool.not_false, Bool.and_true, Bool.true_and, Bool.false_and, Bool.and_false, Bool.or_true, Bool.true_or, Bool.false_or, Bool.or_false, cond_true, cond_false])
theorem fs402_5 (d' : Nat) (Z : zK) (hd : 4 ≤ d') (μ : zM) (q : Nat) (hq : q ≤ 4) (e4 : μ.1 50 4 = nI q) (s l : Nat → Nat) (hA : AY μ s l) (hco : vp_in (μ.1 50 22) 5) (hc : z_clo z_x0 mi_X7_firstSort (z_C d') Z) (b9 : Bool) (b8 : Bool) (x7 : Int32) (b6 : Bool) (b5 : Bool) (x3 : Int32) (x2 : Int32) (x1 : Int32) (b4 : Bool) (g p : Int64) (f : Int32) (K : Z 0 402 [(10, .int 6), (9, .int (nB b9)), (8, .int (nB b8)), (7, .int x7), (6, .int (nB b6)), (5, .int (nB b5)), (3, .int x3), (2, .int x2), (1, .int x1), (4, .int (nB b4)), (0, .ref 50)] [] (mGP μ g ((p ||| (lb ((xR μ 5) && ((xR μ 14) && (xR μ 23))) 17)) ||| (lb ((xT μ 5) && ((xT μ 14) && (xT μ 23))) 22)) f)) : Z 0 402 [(10, .int 5), (9, .int (nB b9)), (8, .int (nB b8)), (7, .int x7), (6, .int (nB b6)), (5, .int (nB b5)), (3, .int x3), (2, .int x2), (1, .int x1), (4, .int (nB b4)), (0, .ref 50)] [] (mGP μ g p f) := by
  have hH : zH mi_X7_firstSort zt_X7_firstSort 79 7 14 := hh_X7_firstSort
  refine z_rcs hc hH 8 (pc' := 419) (lv' := [(10, .int 5), (9, .int (nB b9)), (8, .int (nB b8)), (7, .int x7), (6, .int (nB b6)), (5, .int (nB b5)), (3, .int x3), (2, .int x2), (1, .int x1), (4, .int (nB b4)), (0, .ref 50)]) (st' := [.int 5, .ref 50]) (μ' := mGP μ g p f) (by rfl) ?_
  refine zq_call hc (z_cx_ok hH (by rfl)) (fb_X7_hasRun d' (by omega) (mGP μ g p f) 5) (by decide +kernel) (fun r9 μ9 hq => ?_)
  obtain ⟨hμ9, rfl⟩ := hq
  rw [hμ9]
  clear hμ9 μ9
  show Z 0 422 [(10, .int 5), (9, .int (nB b9)), (8, .int (nB b8)), (7, .int x7), (6, .int (nB b6)), (5, .int (nB b5)), (3, .int x3), (2, .int x2), (1, .int x1), (4, .int (nB b4)), (0, .ref 50)] [.int (nB (xR μ 5))] (mGP μ g p f)
  have hJ1 : Z 0 463 [(10, .int 5), (9, .int (nB b9)), (8, .int (nB b8)), (7, .int x7), (6, .int (nB b6)), (5, .int (nB b5)), (3, .int x3), (2, .int x2), (1, .int x1), (4, .int (nB b4)), (0, .ref 50)] [] (mGP μ g (p ||| (lb ((xR μ 5) && ((xR μ 14) && (xR μ 23))) 17)) f) := by
    refine z_rcs0 hc hH 2 (pc' := 466) (lv' := [(10, .int 5), (9, .int (nB b9)), (8, .int (nB b8)), (7, .int x7), (6, .int (nB b6)), (5, .int (nB b5)), (3, .int x3), (2, .int x2), (1, .int x1), (4, .int (nB b4)), (0, .ref 50)]) (st' := [.int 5, .ref 50]) (by rfl) ?_
    refine zq_call hc (z_cx_ok hH (by rfl)) (fb_X7_hasThree d' (by omega) (mGP μ g (p ||| (lb ((xR μ 5) && ((xR μ 14) && (xR μ 23))) 17)) f) 5) (by decide +kernel) (fun r9 μ9 hq => ?_)
    obtain ⟨hμ9, rfl⟩ := hq
    rw [hμ9]
    clear hμ9 μ9
    show Z 0 469 [(10, .int 5), (9, .int (nB b9)), (8, .int (nB b8)), (7, .int x7), (6, .int (nB b6)), (5, .int (nB b5)), (3, .int x3), (2, .int x2), (1, .int x1), (4, .int (nB b4)), (0, .ref 50)] [.int (nB (xT μ 5))] _
    have hJ2 : Z 0 510 [(10, .int 5), (9, .int (nB b9)), (8, .int (nB b8)), (7, .int x7), (6, .int (nB b6)), (5, .int (nB b5)), (3, .int x3), (2, .int x2), (1, .int x1), (4, .int (nB b4)), (0, .ref 50)] [] (mGP μ g ((p ||| (lb ((xR μ 5) && ((xR μ 14) && (xR μ 23))) 17)) ||| (lb ((xT μ 5) && ((xT μ 14) && (xT μ 23))) 22)) f) := by
      generalize hyy3 : ((p ||| (lb ((xR μ 5) && ((xR μ 14) && (xR μ 23))) 17)) ||| (lb ((xT μ 5) && ((xT μ 14) && (xT μ 23))) 22) : Int64) = yy3
      refine z_rcs hc hH 2 (pc' := 402) (lv' := [(10, .int 6), (9, .int (nB b9)), (8, .int (nB b8)), (7, .int x7), (6, .int (nB b6)), (5, .int (nB b5)), (3, .int x3), (2, .int x2), (1, .int x1), (4, .int (nB b4)), (0, .ref 50)]) (st' := []) (μ' := mGP μ g yy3 f) (by rfl) ?_
      subst hyy3
      exact K
    refine zq_if hc hH (by rfl) (tg := 510) (by rfl) (fun h4 => ?_) (fun h4 => ?_)
    · have h4 : (xT μ 5) = false := nB_z.mp (cm_eq9.mp h4)
      exact zJ hJ2 rfl rfl (by simp only [h4, lb_f, Int64.or_zero, nB_t, nB_f, Bool.not_true, Bool.not_false, Bool.and_true, Bool.true_and, Bool.false_and, Bool.and_false, Bool.or_true, Bool.true_or, Bool.false_or, Bool.or_false, cond_true, cond_false])
    · have h4 : (xT μ 5) = true := nB_n.mp (cn_eq.mp h4)
      refine z_rcs hc hH 4 (pc' := 478) (lv' := [(10, .int 5), (9, .int (nB b9)), (8, .int (nB b8)), (7, .int x7), (6, .int (nB b6)), (5, .int (nB b5)), (3, .int x3), (2, .int x2), (1, .int x1), (4, .int (nB b4)), (0, .ref 50)]) (st' := [.int 14, .ref 50]) (μ' := mGP μ g (p ||| (lb ((xR μ 5) && ((xR μ 14) && (xR μ 23))) 17)) f) (by rfl) ?_
      refine zq_call hc (z_cx_ok hH (by rfl)) (fb_X7_hasThree d' (by omega) (mGP μ g (p ||| (lb ((xR μ 5) && ((xR μ 14) && (xR μ 23))) 17)) f) 14) (by decide +kernel) (fun r9 μ9 hq => ?_)
      obtain ⟨hμ9, rfl⟩ := hq
      rw [hμ9]
      clear hμ9 μ9
      show Z 0 481 [(10, .int 5), (9, .int (nB b9)), (8, .int (nB b8)), (7, .int x7), (6, .int (nB b6)), (5, .int (nB b5)), (3, .int x3), (2, .int x2), (1, .int x1), (4, .int (nB b4)), (0, .ref 50)] [.int (nB (xT μ 14))] _
      refine zq_if hc hH (by rfl) (tg := 510) (by rfl) (fun h5 => ?_) (fun h5 => ?_)
      · have h5 : (xT μ 14) = false := nB_z.mp (cm_eq9.mp h5)
        exact zJ hJ2 rfl rfl (by simp only [h4, h5, lb_f, Int64.or_zero, nB_t, nB_f, Bool.not_true, Bool.not_false, Bool.and_true, Bool.true_and, Bool.false_and, Bool.and_false, Bool.or_true, Bool.true_or, Bool.false_or, Bool.or_false, cond_true, cond_false])
      · have h5 : (xT μ 14) = true := nB_n.mp (cn_eq.mp h5)
        refine z_rcs0 hc hH 4 (pc' := 490) (lv' := [(10, .int 5), (9, .int (nB b9)), (8, .int (nB b8)), (7, .int x7), (6, .int (nB b6)), (5, .int (nB b5)), (3, .int x3), (2, .int x2), (1, .int x1), (4, .int (nB b4)), (0, .ref 50)]) (st' := [.int 23, .ref 50]) (by rfl) ?_
        refine zq_call hc (z_cx_ok hH (by rfl)) (fb_X7_hasThree d' (by omega) (mGP μ g (p ||| (lb ((xR μ 5) && ((xR μ 14) && (xR μ 23))) 17)) f) 23) (by decide +kernel) (fun r9 μ9 hq => ?_)
        obtain ⟨hμ9, rfl⟩ := hq
        rw [hμ9]
        clear hμ9 μ9
        show Z 0 493 [(10, .int 5), (9, .int (nB b9)), (8, .int (nB b8)), (7, .int x7), (6, .int (nB b6)), (5, .int (nB b5)), (3, .int x3), (2, .int x2), (1, .int x1), (4, .int (nB b4)), (0, .ref 50)] [.int (nB (xT μ 23))] _
        refine zq_if hc hH (by rfl) (tg := 510) (by rfl) (fun h6 => ?_) (fun h6 => ?_)
        · have h6 : (xT μ 23) = false := nB_z.mp (cm_eq9.mp h6)
          exact zJ hJ2 rfl rfl (by simp only [h4, h5, h6, lb_f, Int64.or_zero, nB_t, nB_f, Bool.not_true, Bool.not_false, Bool.and_true, Bool.true_and, Bool.false_and, Bool.and_false, Bool.or_true, Bool.true_or, Bool.false_or, Bool.or_false, cond_true, cond_false])
        · have h6 : (xT μ 23) = true := nB_n.mp (cn_eq.mp h6)
          refine z_rcs0 hc hH 4 (pc' := 503) (lv' := [(10, .int 5), (9, .int (nB b9)), (8, .int (nB b8)), (7, .int x7), (6, .int (nB b6)), (5, .int (nB b5)), (3, .int x3), (2, .int x2), (1, .int x1), (4, .int (nB b4)), (0, .ref 50)]) (st' := [.int 22, .long (p ||| (lb ((xR μ 5) && ((xR μ 14) && (xR μ 23))) 17)), .ref 50]) (by rfl) ?_
          refine zq_call hc (z_cx_ok hH (by rfl)) (fb_X7_bit d' (by omega) (mGP μ g (p ||| (lb ((xR μ 5) && ((xR μ 14) && (xR μ 23))) 17)) f) 22) (by decide +kernel) (fun r9 μ9 hq => ?_)
          obtain ⟨hμ9, rfl⟩ := hq
          rw [hμ9]
          clear hμ9 μ9
          show Z 0 506 [(10, .int 5), (9, .int (nB b9)), (8, .int (nB b8)), (7, .int x7), (6, .int (nB b6)), (5, .int (nB b5)), (3, .int x3), (2, .int x2), (1, .int x1), (4, .int (nB b4)), (0, .ref 50)] [.long (lb true 22), .long (p ||| (lb ((xR μ 5) && ((xR μ 14) && (xR μ 23))) 17)), .ref 50] _
          refine z_rcs hc hH 2 (pc' := 510) (lv' := [(10, .int 5), (9, .int (nB b9)), (8, .int (nB b8)), (7, .int x7), (6, .int (nB b6)), (5, .int (nB b5)), (3, .int x3), (2, .int x2), (1, .int x1), (4, .int (nB b4)), (0, .ref 50)]) (st' := []) (μ' := z_uj (mGP μ g (p ||| (lb ((xR μ 5) && ((xR μ 14) && (xR μ 23))) 17)) f) 50 25 ((p ||| (lb ((xR μ 5) && ((xR μ 14) && (xR μ 23))) 17)) ||| (lb true 22))) (by rfl) ?_
          rw [mGP_p]
          exact zJ hJ2 rfl rfl (by simp only [h4, h5, h6, lb_f, Int64.or_zero, nB_t, nB_f, Bool.not_true, Bool.not_false, Bool.and_true, Bool.true_and, Bool.false_and, Bool.and_false, Bool.or_true, Bool.true_or, Bool.false_or, Bool.or_false, cond_true, cond_false])
  refine zq_if hc hH (by rfl) (tg := 463) (by rfl) (fun h7 => ?_) (fun h7 => ?_)
  · have h7 : (xR μ 5) = false := nB_z.mp (cm_eq9.mp h7)
    exact zJ hJ1 rfl rfl (by simp only [h7, lb_f, Int64.or_zero, nB_t, nB_f, Bool.not_true, Bool.not_false, Bool.and_true, Bool.true_and, Bool.false_and, Bool.and_false, Bool.or_true, Bool.true_or, Bool.false_or, Bool.or_false, cond_true, cond_false])
  · have h7 : (xR μ 5) = true := nB_n.mp (cn_eq.mp h7)
    refine z_rcs hc hH 4 (pc' := 431) (lv' := [(10, .int 5), (9, .int (nB b9)), (8, .int (nB b8)), (7, .int x7), (6, .int (nB b6)), (5, .int (nB b5)), (3, .int x3), (2, .int x2), (1, .int x1), (4, .int (nB b4)), (0, .ref 50)]) (st' := [.int 14, .ref 50]) (μ' := mGP μ g p f) (by rfl) ?_
    refine zq_call hc (z_cx_ok hH (by rfl)) (fb_X7_hasRun d' (by omega) (mGP μ g p f) 14) (by decide +kernel) (fun r9 μ9 hq => ?_)
    obtain ⟨hμ9, rfl⟩ := hq
    rw [hμ9]
    clear hμ9 μ9
    show Z 0 434 [(10, .int 5), (9, .int (nB b9)), (8, .int (nB b8)), (7, .int x7), (6, .int (nB b6)), (5, .int (nB b5)), (3, .int x3), (2, .int x2), (1, .int x1), (4, .int (nB b4)), (0, .ref 50)] [.int (nB (xR μ 14))] (mGP μ g p f)
    refine zq_if hc hH (by rfl) (tg := 463) (by rfl) (fun h8 => ?_) (fun h8 => ?_)
    · have h8 : (xR μ 14) = false := nB_z.mp (cm_eq9.mp h8)
      exact zJ hJ1 rfl rfl (by simp only [h7, h8, lb_f, Int64.or_zero, nB_t, nB_f, Bool.not_true, Bool.not_false, Bool.and_true, Bool.true_and, Bool.false_and, Bool.and_false, Bool.or_true, Bool.true_or, Bool.false_or, Bool.or_false, cond_true, cond_false])
    · have h8 : (xR μ 14) = true := nB_n.mp (cn_eq.mp h8)
      refine z_rcs hc hH 4 (pc' := 443) (lv' := [(10, .int 5), (9, .int (nB b9)), (8, .int (nB b8)), (7, .int x7), (6, .int (nB b6)), (5, .int (nB b5)), (3, .int x3), (2, .int x2), (1, .int x1), (4, .int (nB b4)), (0, .ref 50)]) (st' := [.int 23, .ref 50]) (μ' := mGP μ g p f) (by rfl) ?_
      refine zq_call hc (z_cx_ok hH (by rfl)) (fb_X7_hasRun d' (by omega) (mGP μ g p f) 23) (by decide +kernel) (fun r9 μ9 hq => ?_)
      obtain ⟨hμ9, rfl⟩ := hq
      rw [hμ9]
      clear hμ9 μ9
      show Z 0 446 [(10, .int 5), (9, .int (nB b9)), (8, .int (nB b8)), (7, .int x7), (6, .int (nB b6)), (5, .int (nB b5)), (3, .int x3), (2, .int x2), (1, .int x1), (4, .int (nB b4)), (0, .ref 50)] [.int (nB (xR μ 23))] (mGP μ g p f)
      refine zq_if hc hH (by rfl) (tg := 463) (by rfl) (fun h9 => ?_) (fun h9 => ?_)
      · have h9 : (xR μ 23) = false := nB_z.mp (cm_eq9.mp h9)
        exact zJ hJ1 rfl rfl (by simp only [h7, h8, h9, lb_f, Int64.or_zero, nB_t, nB_f, Bool.not_true, Bool.not_false, Bool.and_true, Bool.true_and, Bool.false_and, Bool.and_false, Bool.or_true, Bool.true_or, Bool.false_or, Bool.or_false, cond_true, cond_false])
      · have h9 : (xR μ 23) = true := nB_n.mp (cn_eq.mp h9)
        refine z_rcs hc hH 4 (pc' := 456) (lv' := [(10, .int 5), (9, .int (nB b9)), (8, .int (nB b8)), (7, .int x7), (6, .int (nB b6)), (5, .int (nB b5)), (3, .int x3), (2, .int x2), (1, .int x1), (4, .int (nB b4)), (0, .ref 50)]) (st' := [.int 17, .long p, .ref 50]) (μ' := mGP μ g p f) (by rfl) ?_
        refine zq_call hc (z_cx_ok hH (by rfl)) (fb_X7_bit d' (by omega) (mGP μ g p f) 17) (by decide +kernel) (fun r9 μ9 hq => ?_)
        obtain ⟨hμ9, rfl⟩ := hq
        rw [hμ9]
        clear hμ9 μ9
        show Z 0 459 [(10, .int 5), (9, .int (nB b9)), (8, .int (nB b8)), (7, .int x7), (6, .int (nB b6)), (5, .int (nB b5)), (3, .int x3), (2, .int x2), (1, .int x1), (4, .int (nB b4)), (0, .ref 50)] [.long (lb true 17), .long p, .ref 50] (mGP μ g p f)
        refine z_rcs hc hH 2 (pc' := 463) (lv' := [(10, .int 5), (9, .int (nB b9)), (8, .int (nB b8)), (7, .int x7), (6, .int (nB b6)), (5, .int (nB b5)), (3, .int x3), (2, .int x2), (1, .int x1), (4, .int (nB b4)), (0, .ref 50)]) (st' := []) (μ' := z_uj (mGP μ g p f) 50 25 (p ||| (lb true 17))) (by rfl) ?_
        rw [mGP_p]
        exact zJ hJ1 rfl rfl (by simp only [h7, h8, h9, lb_f, Int64.or_zero, nB_t, nB_f, Bool.not_true, Bool.not_false, Bool.and_true, Bool.true_and, Bool.false_and, Bool.and_false, Bool.or_true, Bool.true_or, Bool.false_or, Bool.or_false, cond_true, cond_false])
theorem fs402_6 (d' : Nat) (Z : zK) (hd : 4 ≤ d') (μ : zM) (q : Nat) (hq : q ≤ 4) (e4 : μ.1 50 4 = nI q) (s l : Nat → Nat) (hA : AY μ s l) (hco : vp_in (μ.1 50 22) 5) (hc : z_clo z_x0 mi_X7_firstSort (z_C d') Z) (b9 : Bool) (b8 : Bool) (x7 : Int32) (b6 : Bool) (b5 : Bool) (x3 : Int32) (x2 : Int32) (x1 : Int32) (b4 : Bool) (g p : Int64) (f : Int32) (K : Z 0 402 [(10, .int 7), (9, .int (nB b9)), (8, .int (nB b8)), (7, .int x7), (6, .int (nB b6)), (5, .int (nB b5)), (3, .int x3), (2, .int x2), (1, .int x1), (4, .int (nB b4)), (0, .ref 50)] [] (mGP μ g ((p ||| (lb ((xR μ 6) && ((xR μ 15) && (xR μ 24))) 17)) ||| (lb ((xT μ 6) && ((xT μ 15) && (xT μ 24))) 22)) f)) : Z 0 402 [(10, .int 6), (9, .int (nB b9)), (8, .int (nB b8)), (7, .int x7), (6, .int (nB b6)), (5, .int (nB b5)), (3, .int x3), (2, .int x2), (1, .int x1), (4, .int (nB b4)), (0, .ref 50)] [] (mGP μ g p f) := by
  have hH : zH mi_X7_firstSort zt_X7_firstSort 79 7 14 := hh_X7_firstSort
  refine z_rcs hc hH 8 (pc' := 419) (lv' := [(10, .int 6), (9, .int (nB b9)), (8, .int (nB b8)), (7, .int x7), (6, .int (nB b6)), (5, .int (nB b5)), (3, .int x3), (2, .int x2), (1, .int x1), (4, .int (nB b4)), (0, .ref 50)]) (st' := [.int 6, .ref 50]) (μ' := mGP μ g p f) (by rfl) ?_
  refine zq_call hc (z_cx_ok hH (by rfl)) (fb_X7_hasRun d' (by omega) (mGP μ g p f) 6) (by decide +kernel) (fun r9 μ9 hq => ?_)
  obtain ⟨hμ9, rfl⟩ := hq
  rw [hμ9]
  clear hμ9 μ9
  show Z 0 422 [(10, .int 6), (9, .int (nB b9)), (8, .int (nB b8)), (7, .int x7), (6, .int (nB b6)), (5, .int (nB b5)), (3, .int x3), (2, .int x2), (1, .int x1), (4, .int (nB b4)), (0, .ref 50)] [.int (nB (xR μ 6))] (mGP μ g p f)
  have hJ1 : Z 0 463 [(10, .int 6), (9, .int (nB b9)), (8, .int (nB b8)), (7, .int x7), (6, .int (nB b6)), (5, .int (nB b5)), (3, .int x3), (2, .int x2), (1, .int x1), (4, .int (nB b4)), (0, .ref 50)] [] (mGP μ g (p ||| (lb ((xR μ 6) && ((xR μ 15) && (xR μ 24))) 17)) f) := by
    refine z_rcs0 hc hH 2 (pc' := 466) (lv' := [(10, .int 6), (9, .int (nB b9)), (8, .int (nB b8)), (7, .int x7), (6, .int (nB b6)), (5, .int (nB b5)), (3, .int x3), (2, .int x2), (1, .int x1), (4, .int (nB b4)), (0, .ref 50)]) (st' := [.int 6, .ref 50]) (by rfl) ?_
    refine zq_call hc (z_cx_ok hH (by rfl)) (fb_X7_hasThree d' (by omega) (mGP μ g (p ||| (lb ((xR μ 6) && ((xR μ 15) && (xR μ 24))) 17)) f) 6) (by decide +kernel) (fun r9 μ9 hq => ?_)
    obtain ⟨hμ9, rfl⟩ := hq
    rw [hμ9]
    clear hμ9 μ9
    show Z 0 469 [(10, .int 6), (9, .int (nB b9)), (8, .int (nB b8)), (7, .int x7), (6, .int (nB b6)), (5, .int (nB b5)), (3, .int x3), (2, .int x2), (1, .int x1), (4, .int (nB b4)), (0, .ref 50)] [.int (nB (xT μ 6))] _
    have hJ2 : Z 0 510 [(10, .int 6), (9, .int (nB b9)), (8, .int (nB b8)), (7, .int x7), (6, .int (nB b6)), (5, .int (nB b5)), (3, .int x3), (2, .int x2), (1, .int x1), (4, .int (nB b4)), (0, .ref 50)] [] (mGP μ g ((p ||| (lb ((xR μ 6) && ((xR μ 15) && (xR μ 24))) 17)) ||| (lb ((xT μ 6) && ((xT μ 15) && (xT μ 24))) 22)) f) := by
      generalize hyy3 : ((p ||| (lb ((xR μ 6) && ((xR μ 15) && (xR μ 24))) 17)) ||| (lb ((xT μ 6) && ((xT μ 15) && (xT μ 24))) 22) : Int64) = yy3
      refine z_rcs hc hH 2 (pc' := 402) (lv' := [(10, .int 7), (9, .int (nB b9)), (8, .int (nB b8)), (7, .int x7), (6, .int (nB b6)), (5, .int (nB b5)), (3, .int x3), (2, .int x2), (1, .int x1), (4, .int (nB b4)), (0, .ref 50)]) (st' := []) (μ' := mGP μ g yy3 f) (by rfl) ?_
      subst hyy3
      exact K
    refine zq_if hc hH (by rfl) (tg := 510) (by rfl) (fun h4 => ?_) (fun h4 => ?_)
    · have h4 : (xT μ 6) = false := nB_z.mp (cm_eq9.mp h4)
      exact zJ hJ2 rfl rfl (by simp only [h4, lb_f, Int64.or_zero, nB_t, nB_f, Bool.not_true, Bool.not_false, Bool.and_true, Bool.true_and, Bool.false_and, Bool.and_false, Bool.or_true, Bool.true_or, Bool.false_or, Bool.or_false, cond_true, cond_false])
    · have h4 : (xT μ 6) = true := nB_n.mp (cn_eq.mp h4)
      refine z_rcs hc hH 4 (pc' := 478) (lv' := [(10, .int 6), (9, .int (nB b9)), (8, .int (nB b8)), (7, .int x7), (6, .int (nB b6)), (5, .int (nB b5)), (3, .int x3), (2, .int x2), (1, .int x1), (4, .int (nB b4)), (0, .ref 50)]) (st' := [.int 15, .ref 50]) (μ' := mGP μ g (p ||| (lb ((xR μ 6) && ((xR μ 15) && (xR μ 24))) 17)) f) (by rfl) ?_
      refine zq_call hc (z_cx_ok hH (by rfl)) (fb_X7_hasThree d' (by omega) (mGP μ g (p ||| (lb ((xR μ 6) && ((xR μ 15) && (xR μ 24))) 17)) f) 15) (by decide +kernel) (fun r9 μ9 hq => ?_)
      obtain ⟨hμ9, rfl⟩ := hq
      rw [hμ9]
      clear hμ9 μ9
      show Z 0 481 [(10, .int 6), (9, .int (nB b9)), (8, .int (nB b8)), (7, .int x7), (6, .int (nB b6)), (5, .int (nB b5)), (3, .int x3), (2, .int x2), (1, .int x1), (4, .int (nB b4)), (0, .ref 50)] [.int (nB (xT μ 15))] _
      refine zq_if hc hH (by rfl) (tg := 510) (by rfl) (fun h5 => ?_) (fun h5 => ?_)
      · have h5 : (xT μ 15) = false := nB_z.mp (cm_eq9.mp h5)
        exact zJ hJ2 rfl rfl (by simp only [h4, h5, lb_f, Int64.or_zero, nB_t, nB_f, Bool.not_true, Bool.not_false, Bool.and_true, Bool.true_and, Bool.false_and, Bool.and_false, Bool.or_true, Bool.true_or, Bool.false_or, Bool.or_false, cond_true, cond_false])
      · have h5 : (xT μ 15) = true := nB_n.mp (cn_eq.mp h5)
        refine z_rcs0 hc hH 4 (pc' := 490) (lv' := [(10, .int 6), (9, .int (nB b9)), (8, .int (nB b8)), (7, .int x7), (6, .int (nB b6)), (5, .int (nB b5)), (3, .int x3), (2, .int x2), (1, .int x1), (4, .int (nB b4)), (0, .ref 50)]) (st' := [.int 24, .ref 50]) (by rfl) ?_
        refine zq_call hc (z_cx_ok hH (by rfl)) (fb_X7_hasThree d' (by omega) (mGP μ g (p ||| (lb ((xR μ 6) && ((xR μ 15) && (xR μ 24))) 17)) f) 24) (by decide +kernel) (fun r9 μ9 hq => ?_)
        obtain ⟨hμ9, rfl⟩ := hq
        rw [hμ9]
        clear hμ9 μ9
        show Z 0 493 [(10, .int 6), (9, .int (nB b9)), (8, .int (nB b8)), (7, .int x7), (6, .int (nB b6)), (5, .int (nB b5)), (3, .int x3), (2, .int x2), (1, .int x1), (4, .int (nB b4)), (0, .ref 50)] [.int (nB (xT μ 24))] _
        refine zq_if hc hH (by rfl) (tg := 510) (by rfl) (fun h6 => ?_) (fun h6 => ?_)
        · have h6 : (xT μ 24) = false := nB_z.mp (cm_eq9.mp h6)
          exact zJ hJ2 rfl rfl (by simp only [h4, h5, h6, lb_f, Int64.or_zero, nB_t, nB_f, Bool.not_true, Bool.not_false, Bool.and_true, Bool.true_and, Bool.false_and, Bool.and_false, Bool.or_true, Bool.true_or, Bool.false_or, Bool.or_false, cond_true, cond_false])
        · have h6 : (xT μ 24) = true := nB_n.mp (cn_eq.mp h6)
          refine z_rcs0 hc hH 4 (pc' := 503) (lv' := [(10, .int 6), (9, .int (nB b9)), (8, .int (nB b8)), (7, .int x7), (6, .int (nB b6)), (5, .int (nB b5)), (3, .int x3), (2, .int x2), (1, .int x1), (4, .int (nB b4)), (0, .ref 50)]) (st' := [.int 22, .long (p ||| (lb ((xR μ 6) && ((xR μ 15) && (xR μ 24))) 17)), .ref 50]) (by rfl) ?_
          refine zq_call hc (z_cx_ok hH (by rfl)) (fb_X7_bit d' (by omega) (mGP μ g (p ||| (lb ((xR μ 6) && ((xR μ 15) && (xR μ 24))) 17)) f) 22) (by decide +kernel) (fun r9 μ9 hq => ?_)
          obtain ⟨hμ9, rfl⟩ := hq
          rw [hμ9]
          clear hμ9 μ9
          show Z 0 506 [(10, .int 6), (9, .int (nB b9)), (8, .int (nB b8)), (7, .int x7), (6, .int (nB b6)), (5, .int (nB b5)), (3, .int x3), (2, .int x2), (1, .int x1), (4, .int (nB b4)), (0, .ref 50)] [.long (lb true 22), .long (p ||| (lb ((xR μ 6) && ((xR μ 15) && (xR μ 24))) 17)), .ref 50] _
          refine z_rcs hc hH 2 (pc' := 510) (lv' := [(10, .int 6), (9, .int (nB b9)), (8, .int (nB b8)), (7, .int x7), (6, .int (nB b6)), (5, .int (nB b5)), (3, .int x3), (2, .int x2), (1, .int x1), (4, .int (nB b4)), (0, .ref 50)]) (st' := []) (μ' := z_uj (mGP μ g (p ||| (lb ((xR μ 6) && ((xR μ 15) && (xR μ 24))) 17)) f) 50 25 ((p ||| (lb ((xR μ 6) && ((xR μ 15) && (xR μ 24))) 17)) ||| (lb true 22))) (by rfl) ?_
          rw [mGP_p]
          exact zJ hJ2 rfl rfl (by simp only [h4, h5, h6, lb_f, Int64.or_zero, nB_t, nB_f, Bool.not_true, Bool.not_false, Bool.and_true, Bool.true_and, Bool.false_and, Bool.and_false, Bool.or_true, Bool.true_or, Bool.false_or, Bool.or_false, cond_true, cond_false])
  refine zq_if hc hH (by rfl) (tg := 463) (by rfl) (fun h7 => ?_) (fun h7 => ?_)
  · have h7 : (xR μ 6) = false := nB_z.mp (cm_eq9.mp h7)
    exact zJ hJ1 rfl rfl (by simp only [h7, lb_f, Int64.or_zero, nB_t, nB_f, Bool.not_true, Bool.not_false, Bool.and_true, Bool.true_and, Bool.false_and, Bool.and_false, Bool.or_true, Bool.true_or, Bool.false_or, Bool.or_false, cond_true, cond_false])
  · have h7 : (xR μ 6) = true := nB_n.mp (cn_eq.mp h7)
    refine z_rcs hc hH 4 (pc' := 431) (lv' := [(10, .int 6), (9, .int (nB b9)), (8, .int (nB b8)), (7, .int x7), (6, .int (nB b6)), (5, .int (nB b5)), (3, .int x3), (2, .int x2), (1, .int x1), (4, .int (nB b4)), (0, .ref 50)]) (st' := [.int 15, .ref 50]) (μ' := mGP μ g p f) (by rfl) ?_
    refine zq_call hc (z_cx_ok hH (by rfl)) (fb_X7_hasRun d' (by omega) (mGP μ g p f) 15) (by decide +kernel) (fun r9 μ9 hq => ?_)
    obtain ⟨hμ9, rfl⟩ := hq
    rw [hμ9]
    clear hμ9 μ9
    show Z 0 434 [(10, .int 6), (9, .int (nB b9)), (8, .int (nB b8)), (7, .int x7), (6, .int (nB b6)), (5, .int (nB b5)), (3, .int x3), (2, .int x2), (1, .int x1), (4, .int (nB b4)), (0, .ref 50)] [.int (nB (xR μ 15))] (mGP μ g p f)
    refine zq_if hc hH (by rfl) (tg := 463) (by rfl) (fun h8 => ?_) (fun h8 => ?_)
    · have h8 : (xR μ 15) = false := nB_z.mp (cm_eq9.mp h8)
      exact zJ hJ1 rfl rfl (by simp only [h7, h8, lb_f, Int64.or_zero, nB_t, nB_f, Bool.not_true, Bool.not_false, Bool.and_true, Bool.true_and, Bool.false_and, Bool.and_false, Bool.or_true, Bool.true_or, Bool.false_or, Bool.or_false, cond_true, cond_false])
    · have h8 : (xR μ 15) = true := nB_n.mp (cn_eq.mp h8)
      refine z_rcs hc hH 4 (pc' := 443) (lv' := [(10, .int 6), (9, .int (nB b9)), (8, .int (nB b8)), (7, .int x7), (6, .int (nB b6)), (5, .int (nB b5)), (3, .int x3), (2, .int x2), (1, .int x1), (4, .int (nB b4)), (0, .ref 50)]) (st' := [.int 24, .ref 50]) (μ' := mGP μ g p f) (by rfl) ?_
      refine zq_call hc (z_cx_ok hH (by rfl)) (fb_X7_hasRun d' (by omega) (mGP μ g p f) 24) (by decide +kernel) (fun r9 μ9 hq => ?_)
      obtain ⟨hμ9, rfl⟩ := hq
      rw [hμ9]
      clear hμ9 μ9
      show Z 0 446 [(10, .int 6), (9, .int (nB b9)), (8, .int (nB b8)), (7, .int x7), (6, .int (nB b6)), (5, .int (nB b5)), (3, .int x3), (2, .int x2), (1, .int x1), (4, .int (nB b4)), (0, .ref 50)] [.int (nB (xR μ 24))] (mGP μ g p f)
      refine zq_if hc hH (by rfl) (tg := 463) (by rfl) (fun h9 => ?_) (fun h9 => ?_)
      · have h9 : (xR μ 24) = false := nB_z.mp (cm_eq9.mp h9)
        exact zJ hJ1 rfl rfl (by simp only [h7, h8, h9, lb_f, Int64.or_zero, nB_t, nB_f, Bool.not_true, Bool.not_false, Bool.and_true, Bool.true_and, Bool.false_and, Bool.and_false, Bool.or_true, Bool.true_or, Bool.false_or, Bool.or_false, cond_true, cond_false])
      · have h9 : (xR μ 24) = true := nB_n.mp (cn_eq.mp h9)
        refine z_rcs hc hH 4 (pc' := 456) (lv' := [(10, .int 6), (9, .int (nB b9)), (8, .int (nB b8)), (7, .int x7), (6, .int (nB b6)), (5, .int (nB b5)), (3, .int x3), (2, .int x2), (1, .int x1), (4, .int (nB b4)), (0, .ref 50)]) (st' := [.int 17, .long p, .ref 50]) (μ' := mGP μ g p f) (by rfl) ?_
        refine zq_call hc (z_cx_ok hH (by rfl)) (fb_X7_bit d' (by omega) (mGP μ g p f) 17) (by decide +kernel) (fun r9 μ9 hq => ?_)
        obtain ⟨hμ9, rfl⟩ := hq
        rw [hμ9]
        clear hμ9 μ9
        show Z 0 459 [(10, .int 6), (9, .int (nB b9)), (8, .int (nB b8)), (7, .int x7), (6, .int (nB b6)), (5, .int (nB b5)), (3, .int x3), (2, .int x2), (1, .int x1), (4, .int (nB b4)), (0, .ref 50)] [.long (lb true 17), .long p, .ref 50] (mGP μ g p f)
        refine z_rcs hc hH 2 (pc' := 463) (lv' := [(10, .int 6), (9, .int (nB b9)), (8, .int (nB b8)), (7, .int x7), (6, .int (nB b6)), (5, .int (nB b5)), (3, .int x3), (2, .int x2), (1, .int x1), (4, .int (nB b4)), (0, .ref 50)]) (st' := []) (μ' := z_uj (mGP μ g p f) 50 25 (p ||| (lb true 17))) (by rfl) ?_
        rw [mGP_p]
        exact zJ hJ1 rfl rfl (by simp only [h7, h8, h9, lb_f, Int64.or_zero, nB_t, nB_f, Bool.not_true, Bool.not_false, Bool.and_true, Bool.true_and, Bool.false_and, Bool.and_false, Bool.or_true, Bool.true_or, Bool.false_or, Bool.or_false, cond_true, cond_false])
theorem fs402_7 (d' : Nat) (Z : zK) (hd : 4 ≤ d') (μ : zM) (q : Nat) (hq : q ≤ 4) (e4 : μ.1 50 4 = nI q) (s l : Nat → Nat) (hA : AY μ s l) (hco : vp_in (μ.1 50 22) 5) (hc : z_clo z_x0 mi_X7_firstSort (z_C d') Z) (b9 : Bool) (b8 : Bool) (x7 : Int32) (b6 : Bool) (b5 : Bool) (x3 : Int32) (x2 : Int32) (x1 : Int32) (b4 : Bool) (g p : Int64) (f : Int32) (K : Z 0 402 [(10, .int 8), (9, .int (nB b9)), (8, .int (nB b8)), (7, .int x7), (6, .int (nB b6)), (5, .int (nB b5)), (3, .int x3), (2, .int x2), (1, .int x1), (4, .int (nB b4)), (0, .ref 50)] [] (mGP μ g (p ||| (lb ((xT μ 7) && ((xT μ 16) && (xT μ 25))) 22)) f)) : Z 0 402 [(10, .int 7), (9, .int (nB b9)), (8, .int (nB b8)), (7, .int x7), (6, .int (nB b6)), (5, .int (nB b5)), (3, .int x3), (2, .int x2), (1, .int x1), (4, .int (nB b4)), (0, .ref 50)] [] (mGP μ g p f) := by
  have hH : zH mi_X7_firstSort zt_X7_firstSort 79 7 14 := hh_X7_firstSort
  refine z_rcs hc hH 8 (pc' := 466) (lv' := [(10, .int 7), (9, .int (nB b9)), (8, .int (nB b8)), (7, .int x7), (6, .int (nB b6)), (5, .int (nB b5)), (3, .int x3), (2, .int x2), (1, .int x1), (4, .int (nB b4)), (0, .ref 50)]) (st' := [.int 7, .ref 50]) (μ' := mGP μ g p f) (by rfl) ?_
  refine zq_call hc (z_cx_ok hH (by rfl)) (fb_X7_hasThree d' (by omega) (mGP μ g p f) 7) (by decide +kernel) (fun r9 μ9 hq => ?_)
  obtain ⟨hμ9, rfl⟩ := hq
  rw [hμ9]
  clear hμ9 μ9
  show Z 0 469 [(10, .int 7), (9, .int (nB b9)), (8, .int (nB b8)), (7, .int x7), (6, .int (nB b6)), (5, .int (nB b5)), (3, .int x3), (2, .int x2), (1, .int x1), (4, .int (nB b4)), (0, .ref 50)] [.int (nB (xT μ 7))] (mGP μ g p f)
  have hJ1 : Z 0 510 [(10, .int 7), (9, .int (nB b9)), (8, .int (nB b8)), (7, .int x7), (6, .int (nB b6)), (5, .int (nB b5)), (3, .int x3), (2, .int x2), (1, .int x1), (4, .int (nB b4)), (0, .ref 50)] [] (mGP μ g (p ||| (lb ((xT μ 7) && ((xT μ 16) && (xT μ 25))) 22)) f) := by
    refine z_rcs0 hc hH 2 (pc' := 402) (lv' := [(10, .int 8), (9, .int (nB b9)), (8, .int (nB b8)), (7, .int x7), (6, .int (nB b6)), (5, .int (nB b5)), (3, .int x3), (2, .int x2), (1, .int x1), (4, .int (nB b4)), (0, .ref 50)]) (st' := []) (by rfl) ?_
    exact K
  refine zq_if hc hH (by rfl) (tg := 510) (by rfl) (fun h2 => ?_) (fun h2 => ?_)
  · have h2 : (xT μ 7) = false := nB_z.mp (cm_eq9.mp h2)
    exact zJ hJ1 rfl rfl (by simp only [h2, lb_f, Int64.or_zero, nB_t, nB_f, Bool.not_true, Bool.not_false, Bool.and_true, Bool.true_and, Bool.false_and, Bool.and_false, Bool.or_true, Bool.true_or, Bool.false_or, Bool.or_false, cond_true, cond_false])
  · have h2 : (xT μ 7) = true := nB_n.mp (cn_eq.mp h2)
    refine z_rcs hc hH 4 (pc' := 478) (lv' := [(10, .int 7), (9, .int (nB b9)), (8, .int (nB b8)), (7, .int x7), (6, .int (nB b6)), (5, .int (nB b5)), (3, .int x3), (2, .int x2), (1, .int x1), (4, .int (nB b4)), (0, .ref 50)]) (st' := [.int 16, .ref 50]) (μ' := mGP μ g p f) (by rfl) ?_
    refine zq_call hc (z_cx_ok hH (by rfl)) (fb_X7_hasThree d' (by omega) (mGP μ g p f) 16) (by decide +kernel) (fun r9 μ9 hq => ?_)
    obtain ⟨hμ9, rfl⟩ := hq
    rw [hμ9]
    clear hμ9 μ9
    show Z 0 481 [(10, .int 7), (9, .int (nB b9)), (8, .int (nB b8)), (7, .int x7), (6, .int (nB b6)), (5, .int (nB b5)), (3, .int x3), (2, .int x2), (1, .int x1), (4, .int (nB b4)), (0, .ref 50)] [.int (nB (xT μ 16))] (mGP μ g p f)
    refine zq_if hc hH (by rfl) (tg := 510) (by rfl) (fun h3 => ?_) (fun h3 => ?_)
    · have h3 : (xT μ 16) = false := nB_z.mp (cm_eq9.mp h3)
      exact zJ hJ1 rfl rfl (by simp only [h2, h3, lb_f, Int64.or_zero, nB_t, nB_f, Bool.not_true, Bool.not_false, Bool.and_true, Bool.true_and, Bool.false_and, Bool.and_false, Bool.or_true, Bool.true_or, Bool.false_or, Bool.or_false, cond_true, cond_false])
    · have h3 : (xT μ 16) = true := nB_n.mp (cn_eq.mp h3)
      refine z_rcs hc hH 4 (pc' := 490) (lv' := [(10, .int 7), (9, .int (nB b9)), (8, .int (nB b8)), (7, .int x7), (6, .int (nB b6)), (5, .int (nB b5)), (3, .int x3), (2, .int x2), (1, .int x1), (4, .int (nB b4)), (0, .ref 50)]) (st' := [.int 25, .ref 50]) (μ' := mGP μ g p f) (by rfl) ?_
      refine zq_call hc (z_cx_ok hH (by rfl)) (fb_X7_hasThree d' (by omega) (mGP μ g p f) 25) (by decide +kernel) (fun r9 μ9 hq => ?_)
      obtain ⟨hμ9, rfl⟩ := hq
      rw [hμ9]
      clear hμ9 μ9
      show Z 0 493 [(10, .int 7), (9, .int (nB b9)), (8, .int (nB b8)), (7, .int x7), (6, .int (nB b6)), (5, .int (nB b5)), (3, .int x3), (2, .int x2), (1, .int x1), (4, .int (nB b4)), (0, .ref 50)] [.int (nB (xT μ 25))] (mGP μ g p f)
      refine zq_if hc hH (by rfl) (tg := 510) (by rfl) (fun h4 => ?_) (fun h4 => ?_)
      · have h4 : (xT μ 25) = false := nB_z.mp (cm_eq9.mp h4)
        exact zJ hJ1 rfl rfl (by simp only [h2, h3, h4, lb_f, Int64.or_zero, nB_t, nB_f, Bool.not_true, Bool.not_false, Bool.and_true, Bool.true_and, Bool.false_and, Bool.and_false, Bool.or_true, Bool.true_or, Bool.false_or, Bool.or_false, cond_true, cond_false])
      · have h4 : (xT μ 25) = true := nB_n.mp (cn_eq.mp h4)
        refine z_rcs hc hH 4 (pc' := 503) (lv' := [(10, .int 7), (9, .int (nB b9)), (8, .int (nB b8)), (7, .int x7), (6, .int (nB b6)), (5, .int (nB b5)), (3, .int x3), (2, .int x2), (1, .int x1), (4, .int (nB b4)), (0, .ref 50)]) (st' := [.int 22, .long p, .ref 50]) (μ' := mGP μ g p f) (by rfl) ?_
        refine zq_call hc (z_cx_ok hH (by rfl)) (fb_X7_bit d' (by omega) (mGP μ g p f) 22) (by decide +kernel) (fun r9 μ9 hq => ?_)
        obtain ⟨hμ9, rfl⟩ := hq
        rw [hμ9]
        clear hμ9 μ9
        show Z 0 506 [(10, .int 7), (9, .int (nB b9)), (8, .int (nB b8)), (7, .int x7), (6, .int (nB b6)), (5, .int (nB b5)), (3, .int x3), (2, .int x2), (1, .int x1), (4, .int (nB b4)), (0, .ref 50)] [.long (lb true 22), .long p, .ref 50] (mGP μ g p f)
        refine z_rcs hc hH 2 (pc' := 510) (lv' := [(10, .int 7), (9, .int (nB b9)), (8, .int (nB b8)), (7, .int x7), (6, .int (nB b6)), (5, .int (nB b5)), (3, .int x3), (2, .int x2), (1, .int x1), (4, .int (nB b4)), (0, .ref 50)]) (st' := []) (μ' := z_uj (mGP μ g p f) 50 25 (p ||| (lb true 22))) (by rfl) ?_
        rw [mGP_p]
        exact zJ hJ1 rfl rfl (by simp only [h2, h3, h4, lb_f, Int64.or_zero, nB_t, nB_f, Bool.not_true, Bool.not_false, Bool.and_true, Bool.true_and, Bool.false_and, Bool.and_false, Bool.or_true, Bool.true_or, Bool.false_or, Bool.or_false, cond_true, cond_false])
theorem fs402_8 (d' : Nat) (Z : zK) (hd : 4 ≤ d') (μ : zM) (q : Nat) (hq : q ≤ 4) (e4 : μ.1 50 4 = nI q) (s l : Nat → Nat) (hA : AY μ s l) (hco : vp_in (μ.1 50 22) 5) (hc : z_clo z_x0 mi_X7_firstSort (z_C d') Z) (b9 : Bool) (b8 : Bool) (x7 : Int32) (b6 : Bool) (b5 : Bool) (x3 : Int32) (x2 : Int32) (x1 : Int32) (b4 : Bool) (g p : Int64) (f : Int32) (K : Z 0 402 [(10, .int 9), (9, .int (nB b9)), (8, .int (nB b8)), (7, .int x7), (6, .int (nB b6)), (5, .int (nB b5)), (3, .int x3), (2, .int x2), (1, .int x1), (4, .int (nB b4)), (0, .ref 50)] [] (mGP μ g (p ||| (lb ((xT μ 8) && ((xT μ 17) && (xT μ 26))) 22)) f)) : Z 0 402 [(10, .int 8), (9, .int (nB b9)), (8, .int (nB b8)), (7, .int x7), (6, .int (nB b6)), (5, .int (nB b5)), (3, .int x3), (2, .int x2), (1, .int x1), (4, .int (nB b4)), (0, .ref 50)] [] (mGP μ g p f) := by
  have hH : zH mi_X7_firstSort zt_X7_firstSort 79 7 14 := hh_X7_firstSort
  refine z_rcs hc hH 8 (pc' := 466) (lv' := [(10, .int 8), (9, .int (nB b9)), (8, .int (nB b8)), (7, .int x7), (6, .int (nB b6)), (5, .int (nB b5)), (3, .int x3), (2, .int x2), (1, .int x1), (4, .int (nB b4)), (0, .ref 50)]) (st' := [.int 8, .ref 50]) (μ' := mGP μ g p f) (by rfl) ?_
  refine zq_call hc (z_cx_ok hH (by rfl)) (fb_X7_hasThree d' (by omega) (mGP μ g p f) 8) (by decide +kernel) (fun r9 μ9 hq => ?_)
  obtain ⟨hμ9, rfl⟩ := hq
  rw [hμ9]
  clear hμ9 μ9
  show Z 0 469 [(10, .int 8), (9, .int (nB b9)), (8, .int (nB b8)), (7, .int x7), (6, .int (nB b6)), (5, .int (nB b5)), (3, .int x3), (2, .int x2), (1, .int x1), (4, .int (nB b4)), (0, .ref 50)] [.int (nB (xT μ 8))] (mGP μ g p f)
  have hJ1 : Z 0 510 [(10, .int 8), (9, .int (nB b9)), (8, .int (nB b8)), (7, .int x7), (6, .int (nB b6)), (5, .int (nB b5)), (3, .int x3), (2, .int x2), (1, .int x1), (4, .int (nB b4)), (0, .ref 50)] [] (mGP μ g (p ||| (lb ((xT μ 8) && ((xT μ 17) && (xT μ 26))) 22)) f) := by
    refine z_rcs0 hc hH 2 (pc' := 402) (lv' := [(10, .int 9), (9, .int (nB b9)), (8, .int (nB b8)), (7, .int x7), (6, .int (nB b6)), (5, .int (nB b5)), (3, .int x3), (2, .int x2), (1, .int x1), (4, .int (nB b4)), (0, .ref 50)]) (st' := []) (by rfl) ?_
    exact K
  refine zq_if hc hH (by rfl) (tg := 510) (by rfl) (fun h2 => ?_) (fun h2 => ?_)
  · have h2 : (xT μ 8) = false := nB_z.mp (cm_eq9.mp h2)
    exact zJ hJ1 rfl rfl (by simp only [h2, lb_f, Int64.or_zero, nB_t, nB_f, Bool.not_true, Bool.not_false, Bool.and_true, Bool.true_and, Bool.false_and, Bool.and_false, Bool.or_true, Bool.true_or, Bool.false_or, Bool.or_false, cond_true, cond_false])
  · have h2 : (xT μ 8) = true := nB_n.mp (cn_eq.mp h2)
    refine z_rcs hc hH 4 (pc' := 478) (lv' := [(10, .int 8), (9, .int (nB b9)), (8, .int (nB b8)), (7, .int x7), (6, .int (nB b6)), (5, .int (nB b5)), (3, .int x3), (2, .int x2), (1, .int x1), (4, .int (nB b4)), (0, .ref 50)]) (st' := [.int 17, .ref 50]) (μ' := mGP μ g p f) (by rfl) ?_
    refine zq_call hc (z_cx_ok hH (by rfl)) (fb_X7_hasThree d' (by omega) (mGP μ g p f) 17) (by decide +kernel) (fun r9 μ9 hq => ?_)
    obtain ⟨hμ9, rfl⟩ := hq
    rw [hμ9]
    clear hμ9 μ9
    show Z 0 481 [(10, .int 8), (9, .int (nB b9)), (8, .int (nB b8)), (7, .int x7), (6, .int (nB b6)), (5, .int (nB b5)), (3, .int x3), (2, .int x2), (1, .int x1), (4, .int (nB b4)), (0, .ref 50)] [.int (nB (xT μ 17))] (mGP μ g p f)
    refine zq_if hc hH (by rfl) (tg := 510) (by rfl) (fun h3 => ?_) (fun h3 => ?_)
    · have h3 : (xT μ 17) = false := nB_z.mp (cm_eq9.mp h3)
      exact zJ hJ1 rfl rfl (by simp only [h2, h3, lb_f, Int64.or_zero, nB_t, nB_f, Bool.not_true, Bool.not_false, Bool.and_true, Bool.true_and, Bool.false_and, Bool.and_false, Bool.or_true, Bool.true_or, Bool.false_or, Bool.or_false, cond_true, cond_false])
    · have h3 : (xT μ 17) = true := nB_n.mp (cn_eq.mp h3)
      refine z_rcs hc hH 4 (pc' := 490) (lv' := [(10, .int 8), (9, .int (nB b9)), (8, .int (nB b8)), (7, .int x7), (6, .int (nB b6)), (5, .int (nB b5)), (3, .int x3), (2, .int x2), (1, .int x1), (4, .int (nB b4)), (0, .ref 50)]) (st' := [.int 26, .ref 50]) (μ' := mGP μ g p f) (by rfl) ?_
      refine zq_call hc (z_cx_ok hH (by rfl)) (fb_X7_hasThree d' (by omega) (mGP μ g p f) 26) (by decide +kernel) (fun r9 μ9 hq => ?_)
      obtain ⟨hμ9, rfl⟩ := hq
      rw [hμ9]
      clear hμ9 μ9
      show Z 0 493 [(10, .int 8), (9, .int (nB b9)), (8, .int (nB b8)), (7, .int x7), (6, .int (nB b6)), (5, .int (nB b5)), (3, .int x3), (2, .int x2), (1, .int x1), (4, .int (nB b4)), (0, .ref 50)] [.int (nB (xT μ 26))] (mGP μ g p f)
      refine zq_if hc hH (by rfl) (tg := 510) (by rfl) (fun h4 => ?_) (fun h4 => ?_)
      · have h4 : (xT μ 26) = false := nB_z.mp (cm_eq9.mp h4)
        exact zJ hJ1 rfl rfl (by simp only [h2, h3, h4, lb_f, Int64.or_zero, nB_t, nB_f, Bool.not_true, Bool.not_false, Bool.and_true, Bool.true_and, Bool.false_and, Bool.and_false, Bool.or_true, Bool.true_or, Bool.false_or, Bool.or_false, cond_true, cond_false])
      · have h4 : (xT μ 26) = true := nB_n.mp (cn_eq.mp h4)
        refine z_rcs hc hH 4 (pc' := 503) (lv' := [(10, .int 8), (9, .int (nB b9)), (8, .int (nB b8)), (7, .int x7), (6, .int (nB b6)), (5, .int (nB b5)), (3, .int x3), (2, .int x2), (1, .int x1), (4, .int (nB b4)), (0, .ref 50)]) (st' := [.int 22, .long p, .ref 50]) (μ' := mGP μ g p f) (by rfl) ?_
        refine zq_call hc (z_cx_ok hH (by rfl)) (fb_X7_bit d' (by omega) (mGP μ g p f) 22) (by decide +kernel) (fun r9 μ9 hq => ?_)
        obtain ⟨hμ9, rfl⟩ := hq
        rw [hμ9]
        clear hμ9 μ9
        show Z 0 506 [(10, .int 8), (9, .int (nB b9)), (8, .int (nB b8)), (7, .int x7), (6, .int (nB b6)), (5, .int (nB b5)), (3, .int x3), (2, .int x2), (1, .int x1), (4, .int (nB b4)), (0, .ref 50)] [.long (lb true 22), .long p, .ref 50] (mGP μ g p f)
        refine z_rcs hc hH 2 (pc' := 510) (lv' := [(10, .int 8), (9, .int (nB b9)), (8, .int (nB b8)), (7, .int x7), (6, .int (nB b6)), (5, .int (nB b5)), (3, .int x3), (2, .int x2), (1, .int x1), (4, .int (nB b4)), (0, .ref 50)]) (st' := []) (μ' := z_uj (mGP μ g p f) 50 25 (p ||| (lb true 22))) (by rfl) ?_
        rw [mGP_p]
        exact zJ hJ1 rfl rfl (by simp only [h2, h3, h4, lb_f, Int64.or_zero, nB_t, nB_f, Bool.not_true, Bool.not_false, Bool.and_true, Bool.true_and, Bool.false_and, Bool.and_false, Bool.or_true, Bool.true_or, Bool.false_or, Bool.or_false, cond_true, cond_false])
theorem fs402_9 (d' : Nat) (Z : zK) (hd : 4 ≤ d') (μ : zM) (q : Nat) (hq : q ≤ 4) (e4 : μ.1 50 4 = nI q) (s l : Nat → Nat) (hA : AY μ s l) (hco : vp_in (μ.1 50 22) 5) (hc : z_clo z_x0 mi_X7_firstSort (z_C d') Z) (b9 : Bool) (b8 : Bool) (x7 : Int32) (b6 : Bool) (b5 : Bool) (x3 : Int32) (x2 : Int32) (x1 : Int32) (b4 : Bool) (g p : Int64) (f : Int32) (K : Z 0 519 [(10, .int 0), (9, .int (nB b9)), (8, .int (nB b8)), (7, .int x7), (6, .int (nB b6)), (5, .int (nB b5)), (3, .int x3), (2, .int x2), (1, .int x1), (4, .int (nB b4)), (0, .ref 50)] [] (mGP μ g p f)) : Z 0 402 [(10, .int 9), (9, .int (nB b9)), (8, .int (nB b8)), (7, .int x7), (6, .int (nB b6)), (5, .int (nB b5)), (3, .int x3), (2, .int x2), (1, .int x1), (4, .int (nB b4)), (0, .ref 50)] [] (mGP μ g p f) := by
  have hH : zH mi_X7_firstSort zt_X7_firstSort 79 7 14 := hh_X7_firstSort
  refine z_rcs hc hH 5 (pc' := 519) (lv' := [(10, .int 0), (9, .int (nB b9)), (8, .int (nB b8)), (7, .int x7), (6, .int (nB b6)), (5, .int (nB b5)), (3, .int x3), (2, .int x2), (1, .int x1), (4, .int (nB b4)), (0, .ref 50)]) (st' := []) (μ' := mGP μ g p f) (by rfl) ?_
  exact K
theorem fs519 (d' : Nat) (Z : zK) (hd : 4 ≤ d') (μ : zM) (q : Nat) (hq : q ≤ 4) (e4 : μ.1 50 4 = nI q) (s l : Nat → Nat) (hA : AY μ s l) (hco : vp_in (μ.1 50 22) 5) (hc : z_clo z_x0 mi_X7_firstSort (z_C d') Z) (b9 : Bool) (b8 : Bool) (x7 : Int32) (b6 : Bool) (b5 : Bool) (x3 : Int32) (x2 : Int32) (x1 : Int32) (b4 : Bool) (g p : Int64) (f : Int32) (K : Z 0 639 [(10, .int 27), (9, .int (nB b9)), (8, .int (nB b8)), (7, .int x7), (6, .int (nB b6)), (5, .int (nB b5)), (3, .int x3), (2, .int x2), (1, .int x1), (4, .int (nB b4)), (0, .ref 50)] [] (mGP μ g ((((((((p ||| (lb ((xR μ 0) && ((xR μ 3) && (xR μ 6))) 18)) ||| (lb ((xR μ 9) && ((xR μ 12) && (xR μ 15))) 18)) ||| (lb ((xR μ 18) && ((xR μ 21) && (xR μ 24))) 18)) ||| (lb (decide (x1 = 0)) 19)) ||| (lb (decide (x2 = 3)) 20)) ||| (lb (decide (x3 = 3)) 21)) ||| (lb (xE1 μ x1) 23)) ||| (lb (xE2 μ x1) 27)) f)) : Z 0 519 [(10, .int 0), (9, .int (nB b9)), (8, .int (nB b8)), (7, .int x7), (6, .int (nB b6)), (5, .int (nB b5)), (3, .int x3), (2, .int x2), (1, .int x1), (4, .int (nB b4)), (0, .ref 50)] [] (mGP μ g p f) := by
  have hH : zH mi_X7_firstSort zt_X7_firstSort 79 7 14 := hh_X7_firstSort
  refine z_rcs hc hH 5 (pc' := 529) (lv' := [(10, .int 0), (9, .int (nB b9)), (8, .int (nB b8)), (7, .int x7), (6, .int (nB b6)), (5, .int (nB b5)), (3, .int x3), (2, .int x2), (1, .int x1), (4, .int (nB b4)), (0, .ref 50)]) (st' := [.int 0, .ref 50]) (μ' := mGP μ g p f) (by rfl) ?_
  refine zq_call hc (z_cx_ok hH (by rfl)) (fb_X7_hasRun d' (by omega) (mGP μ g p f) 0) (by decide +kernel) (fun r9 μ9 hq => ?_)
  obtain ⟨hμ9, rfl⟩ := hq
  rw [hμ9]
  clear hμ9 μ9
  show Z 0 532 [(10, .int 0), (9, .int (nB b9)), (8, .int (nB b8)), (7, .int x7), (6, .int (nB b6)), (5, .int (nB b5)), (3, .int x3), (2, .int x2), (1, .int x1), (4, .int (nB b4)), (0, .ref 50)] [.int (nB (xR μ 0))] (mGP μ g p f)
  have hJ1 : Z 0 572 [(10, .int 0), (9, .int (nB b9)), (8, .int (nB b8)), (7, .int x7), (6, .int (nB b6)), (5, .int (nB b5)), (3, .int x3), (2, .int x2), (1, .int x1), (4, .int (nB b4)), (0, .ref 50)] [] (mGP μ g (p ||| (lb ((xR μ 0) && ((xR μ 3) && (xR μ 6))) 18)) f) := by
    refine z_rcs0 hc hH 7 (pc' := 529) (lv' := [(10, .int 9), (9, .int (nB b9)), (8, .int (nB b8)), (7, .int x7), (6, .int (nB b6)), (5, .int (nB b5)), (3, .int x3), (2, .int x2), (1, .int x1), (4, .int (nB b4)), (0, .ref 50)]) (st' := [.int 9, .ref 50]) (by rfl) ?_
    refine zq_call hc (z_cx_ok hH (by rfl)) (fb_X7_hasRun d' (by omega) (mGP μ g (p ||| (lb ((xR μ 0) && ((xR μ 3) && (xR μ 6))) 18)) f) 9) (by decide +kernel) (fun r9 μ9 hq => ?_)
    obtain ⟨hμ9, rfl⟩ := hq
    rw [hμ9]
    clear hμ9 μ9
    show Z 0 532 [(10, .int 9), (9, .int (nB b9)), (8, .int (nB b8)), (7, .int x7), (6, .int (nB b6)), (5, .int (nB b5)), (3, .int x3), (2, .int x2), (1, .int x1), (4, .int (nB b4)), (0, .ref 50)] [.int (nB (xR μ 9))] _
    have hJ2 : Z 0 572 [(10, .int 9), (9, .int (nB b9)), (8, .int (nB b8)), (7, .int x7), (6, .int (nB b6)), (5, .int (nB b5)), (3, .int x3), (2, .int x2), (1, .int x1), (4, .int (nB b4)), (0, .ref 50)] [] (mGP μ g ((p ||| (lb ((xR μ 0) && ((xR μ 3) && (xR μ 6))) 18)) ||| (lb ((xR μ 9) && ((xR μ 12) && (xR μ 15))) 18)) f) := by
      generalize hyy3 : ((p ||| (lb ((xR μ 0) && ((xR μ 3) && (xR μ 6))) 18)) ||| (lb ((xR μ 9) && ((xR μ 12) && (xR μ 15))) 18) : Int64) = yy3
      refine z_rcs hc hH 7 (pc' := 529) (lv' := [(10, .int 18), (9, .int (nB b9)), (8, .int (nB b8)), (7, .int x7), (6, .int (nB b6)), (5, .int (nB b5)), (3, .int x3), (2, .int x2), (1, .int x1), (4, .int (nB b4)), (0, .ref 50)]) (st' := [.int 18, .ref 50]) (μ' := mGP μ g yy3 f) (by rfl) ?_
      refine zq_call hc (z_cx_ok hH (by rfl)) (fb_X7_hasRun d' (by omega) (mGP μ g yy3 f) 18) (by decide +kernel) (fun r9 μ9 hq => ?_)
      obtain ⟨hμ9, rfl⟩ := hq
      rw [hμ9]
      clear hμ9 μ9
      show Z 0 532 [(10, .int 18), (9, .int (nB b9)), (8, .int (nB b8)), (7, .int x7), (6, .int (nB b6)), (5, .int (nB b5)), (3, .int x3), (2, .int x2), (1, .int x1), (4, .int (nB b4)), (0, .ref 50)] [.int (nB (xR μ 18))] (mGP μ g yy3 f)
      have hJ4 : Z 0 572 [(10, .int 18), (9, .int (nB b9)), (8, .int (nB b8)), (7, .int x7), (6, .int (nB b6)), (5, .int (nB b5)), (3, .int x3), (2, .int x2), (1, .int x1), (4, .int (nB b4)), (0, .ref 50)] [] (mGP μ g (yy3 ||| (lb ((xR μ 18) && ((xR μ 21) && (xR μ 24))) 18)) f) := by
        refine z_rcs0 hc hH 6 (pc' := 579) (lv' := [(10, .int 27), (9, .int (nB b9)), (8, .int (nB b8)), (7, .int x7), (6, .int (nB b6)), (5, .int (nB b5)), (3, .int x3), (2, .int x2), (1, .int x1), (4, .int (nB b4)), (0, .ref 50)]) (st' := [.int x1]) (by rfl) ?_
        have hJ5 : Z 0 596 [(10, .int 27), (9, .int (nB b9)), (8, .int (nB b8)), (7, .int x7), (6, .int (nB b6)), (5, .int (nB b5)), (3, .int x3), (2, .int x2), (1, .int x1), (4, .int (nB b4)), (0, .ref 50)] [] (mGP μ g ((yy3 ||| (lb ((xR μ 18) && ((xR μ 21) && (xR μ 24))) 18)) ||| (lb (decide (x1 = 0)) 19)) f) := by
          generalize hyy6 : ((yy3 ||| (lb ((xR μ 18) && ((xR μ 21) && (xR μ 24))) 18)) ||| (lb (decide (x1 = 0)) 19) : Int64) = yy6
          refine z_rcs hc hH 2 (pc' := 598) (lv' := [(10, .int 27), (9, .int (nB b9)), (8, .int (nB b8)), (7, .int x7), (6, .int (nB b6)), (5, .int (nB b5)), (3, .int x3), (2, .int x2), (1, .int x1), (4, .int (nB b4)), (0, .ref 50)]) (st' := [.int 3, .int x2]) (μ' := mGP μ g yy6 f) (by rfl) ?_
          have hJ7 : Z 0 615 [(10, .int 27), (9, .int (nB b9)), (8, .int (nB b8)), (7, .int x7), (6, .int (nB b6)), (5, .int (nB b5)), (3, .int x3), (2, .int x2), (1, .int x1), (4, .int (nB b4)), (0, .ref 50)] [] (mGP μ g (yy6 ||| (lb (decide (x2 = 3)) 20)) f) := by
            refine z_rcs0 hc hH 2 (pc' := 617) (lv' := [(10, .int 27), (9, .int (nB b9)), (8, .int (nB b8)), (7, .int x7), (6, .int (nB b6)), (5, .int (nB b5)), (3, .int x3), (2, .int x2), (1, .int x1), (4, .int (nB b4)), (0, .ref 50)]) (st' := [.int 3, .int x3]) (by rfl) ?_
            have hJ8 : Z 0 634 [(10, .int 27), (9, .int (nB b9)), (8, .int (nB b8)), (7, .int x7), (6, .int (nB b6)), (5, .int (nB b5)), (3, .int x3), (2, .int x2), (1, .int x1), (4, .int (nB b4)), (0, .ref 50)] [] (mGP μ g ((yy6 ||| (lb (decide (x2 = 3)) 20)) ||| (lb (decide (x3 = 3)) 21)) f) := by
              refine z_rcs0 hc hH 2 (pc' := 636) (lv' := [(10, .int 27), (9, .int (nB b9)), (8, .int (nB b8)), (7, .int x7), (6, .int (nB b6)), (5, .int (nB b5)), (3, .int x3), (2, .int x2), (1, .int x1), (4, .int (nB b4)), (0, .ref 50)]) (st' := [.int x1, .ref 50]) (by rfl) ?_
              refine zq_call hc (z_cx_ok hH (by rfl)) (fb_X7_edges d' (by omega) (mGP μ g ((yy6 ||| (lb (decide (x2 = 3)) 20)) ||| (lb (decide (x3 = 3)) 21)) f) x1) (by decide +kernel) (fun r9 μ9 hq => ?_)
              obtain ⟨rfl, rfl⟩ := hq
              rw [mGP2]
              show Z 0 639 [(10, .int 27), (9, .int (nB b9)), (8, .int (nB b8)), (7, .int x7), (6, .int (nB b6)), (5, .int (nB b5)), (3, .int x3), (2, .int x2), (1, .int x1), (4, .int (nB b4)), (0, .ref 50)] [] (mGP μ g ((((yy6 ||| (lb (decide (x2 = 3)) 20)) ||| (lb (decide (x3 = 3)) 21)) ||| (lb (xE1 μ x1) 23)) ||| (lb (xE2 μ x1) 27)) f)
              subst hyy6
              subst hyy3
              exact K
            refine zq_ic hc hH (by rfl) (tg := 634) (by rfl) (fun h9 => ?_) (fun h9 => ?_)
            · have h9 : (decide (x3 = 3)) = false := decide_eq_false (cm_ne.mp h9)
              exact zJ hJ8 rfl rfl (by simp only [h9, lb_f, Int64.or_zero, nB_t, nB_f, Bool.not_true, Bool.not_false, Bool.and_true, Bool.true_and, Bool.false_and, Bool.and_false, Bool.or_true, Bool.true_or, Bool.false_or, Bool.or_false, cond_true, cond_false])
            · have h9 : (decide (x3 = 3)) = true := decide_eq_true (cn_ne.mp h9)
              refine z_rcs hc hH 4 (pc' := 627) (lv' := [(10, .int 27), (9, .int (nB b9)), (8, .int (nB b8)), (7, .int x7), (6, .int (nB b6)), (5, .int (nB b5)), (3, .int x3), (2, .int x2), (1, .int x1), (4, .int (nB b4)), (0, .ref 50)]) (st' := [.int 21, .long (yy6 ||| (lb (decide (x2 = 3)) 20)), .ref 50]) (μ' := mGP μ g (yy6 ||| (lb (decide (x2 = 3)) 20)) f) (by rfl) ?_
              refine zq_call hc (z_cx_ok hH (by rfl)) (fb_X7_bit d' (by omega) (mGP μ g (yy6 ||| (lb (decide (x2 = 3)) 20)) f) 21) (by decide +kernel) (fun r9 μ9 hq => ?_)
              obtain ⟨hμ9, rfl⟩ := hq
              rw [hμ9]
              clear hμ9 μ9
              show Z 0 630 [(10, .int 27), (9, .int (nB b9)), (8, .int (nB b8)), (7, .int x7), (6, .int (nB b6)), (5, .int (nB b5)), (3, .int x3), (2, .int x2), (1, .int x1), (4, .int (nB b4)), (0, .ref 50)] [.long (lb true 21), .long (yy6 ||| (lb (decide (x2 = 3)) 20)), .ref 50] _
              refine z_rcs hc hH 2 (pc' := 634) (lv' := [(10, .int 27), (9, .int (nB b9)), (8, .int (nB b8)), (7, .int x7), (6, .int (nB b6)), (5, .int (nB b5)), (3, .int x3), (2, .int x2), (1, .int x1), (4, .int (nB b4)), (0, .ref 50)]) (st' := []) (μ' := z_uj (mGP μ g (yy6 ||| (lb (decide (x2 = 3)) 20)) f) 50 25 ((yy6 ||| (lb (decide (x2 = 3)) 20)) ||| (lb true 21))) (by rfl) ?_
              rw [mGP_p]
              exact zJ hJ8 rfl rfl (by simp only [h9, lb_f, Int64.or_zero, nB_t, nB_f, Bool.not_true, Bool.not_false, Bool.and_true, Bool.true_and, Bool.false_and, Bool.and_false, Bool.or_true, Bool.true_or, Bool.false_or, Bool.or_false, cond_true, cond_false])
          refine zq_ic hc hH (by rfl) (tg := 615) (by rfl) (fun h10 => ?_) (fun h10 => ?_)
          · have h10 : (decide (x2 = 3)) = false := decide_eq_false (cm_ne.mp h10)
            exact zJ hJ7 rfl rfl (by simp only [h10, lb_f, Int64.or_zero, nB_t, nB_f, Bool.not_true, Bool.not_false, Bool.and_true, Bool.true_and, Bool.false_and, Bool.and_false, Bool.or_true, Bool.true_or, Bool.false_or, Bool.or_false, cond_true, cond_false])
          · have h10 : (decide (x2 = 3)) = true := decide_eq_true (cn_ne.mp h10)
            refine z_rcs hc hH 4 (pc' := 608) (lv' := [(10, .int 27), (9, .int (nB b9)), (8, .int (nB b8)), (7, .int x7), (6, .int (nB b6)), (5, .int (nB b5)), (3, .int x3), (2, .int x2), (1, .int x1), (4, .int (nB b4)), (0, .ref 50)]) (st' := [.int 20, .long yy6, .ref 50]) (μ' := mGP μ g yy6 f) (by rfl) ?_
            refine zq_call hc (z_cx_ok hH (by rfl)) (fb_X7_bit d' (by omega) (mGP μ g yy6 f) 20) (by decide +kernel) (fun r9 μ9 hq => ?_)
            obtain ⟨hμ9, rfl⟩ := hq
            rw [hμ9]
            clear hμ9 μ9
            show Z 0 611 [(10, .int 27), (9, .int (nB b9)), (8, .int (nB b8)), (7, .int x7), (6, .int (nB b6)), (5, .int (nB b5)), (3, .int x3), (2, .int x2), (1, .int x1), (4, .int (nB b4)), (0, .ref 50)] [.long (lb true 20), .long yy6, .ref 50] (mGP μ g yy6 f)
            refine z_rcs hc hH 2 (pc' := 615) (lv' := [(10, .int 27), (9, .int (nB b9)), (8, .int (nB b8)), (7, .int x7), (6, .int (nB b6)), (5, .int (nB b5)), (3, .int x3), (2, .int x2), (1, .int x1), (4, .int (nB b4)), (0, .ref 50)]) (st' := []) (μ' := z_uj (mGP μ g yy6 f) 50 25 (yy6 ||| (lb true 20))) (by rfl) ?_
            rw [mGP_p]
            exact zJ hJ7 rfl rfl (by simp only [h10, lb_f, Int64.or_zero, nB_t, nB_f, Bool.not_true, Bool.not_false, Bool.and_true, Bool.true_and, Bool.false_and, Bool.and_false, Bool.or_true, Bool.true_or, Bool.false_or, Bool.or_false, cond_true, cond_false])
        refine zq_if hc hH (by rfl) (tg := 596) (by rfl) (fun h11 => ?_) (fun h11 => ?_)
        · have h11 : (decide (x1 = 0)) = false := decide_eq_false (cm_ne.mp h11)
          exact zJ hJ5 rfl rfl (by simp only [h11, lb_f, Int64.or_zero, nB_t, nB_f, Bool.not_true, Bool.not_false, Bool.and_true, Bool.true_and, Bool.false_and, Bool.and_false, Bool.or_true, Bool.true_or, Bool.false_or, Bool.or_false, cond_true, cond_false])
        · have h11 : (decide (x1 = 0)) = true := decide_eq_true (cn_ne.mp h11)
          refine z_rcs hc hH 4 (pc' := 589) (lv' := [(10, .int 27), (9, .int (nB b9)), (8, .int (nB b8)), (7, .int x7), (6, .int (nB b6)), (5, .int (nB b5)), (3, .int x3), (2, .int x2), (1, .int x1), (4, .int (nB b4)), (0, .ref 50)]) (st' := [.int 19, .long (yy3 ||| (lb ((xR μ 18) && ((xR μ 21) && (xR μ 24))) 18)), .ref 50]) (μ' := mGP μ g (yy3 ||| (lb ((xR μ 18) && ((xR μ 21) && (xR μ 24))) 18)) f) (by rfl) ?_
          refine zq_call hc (z_cx_ok hH (by rfl)) (fb_X7_bit d' (by omega) (mGP μ g (yy3 ||| (lb ((xR μ 18) && ((xR μ 21) && (xR μ 24))) 18)) f) 19) (by decide +kernel) (fun r9 μ9 hq => ?_)
          obtain ⟨hμ9, rfl⟩ := hq
          rw [hμ9]
          clear hμ9 μ9
          show Z 0 592 [(10, .int 27), (9, .int (nB b9)), (8, .int (nB b8)), (7, .int x7), (6, .int (nB b6)), (5, .int (nB b5)), (3, .int x3), (2, .int x2), (1, .int x1), (4, .int (nB b4)), (0, .ref 50)] [.long (lb true 19), .long (yy3 ||| (lb ((xR μ 18) && ((xR μ 21) && (xR μ 24))) 18)), .ref 50] _
          refine z_rcs hc hH 2 (pc' := 596) (lv' := [(10, .int 27), (9, .int (nB b9)), (8, .int (nB b8)), (7, .int x7), (6, .int (nB b6)), (5, .int (nB b5)), (3, .int x3), (2, .int x2), (1, .int x1), (4, .int (nB b4)), (0, .ref 50)]) (st' := []) (μ' := z_uj (mGP μ g (yy3 ||| (lb ((xR μ 18) && ((xR μ 21) && (xR μ 24))) 18)) f) 50 25 ((yy3 ||| (lb ((xR μ 18) && ((xR μ 21) && (xR μ 24))) 18)) ||| (lb true 19))) (by rfl) ?_
          rw [mGP_p]
          exact zJ hJ5 rfl rfl (by simp only [h11, lb_f, Int64.or_zero, nB_t, nB_f, Bool.not_true, Bool.not_false, Bool.and_true, Bool.true_and, Bool.false_and, Bool.and_false, Bool.or_true, Bool.true_or, Bool.false_or, Bool.or_false, cond_true, cond_false])
      refine zq_if hc hH (by rfl) (tg := 572) (by rfl) (fun h12 => ?_) (fun h12 => ?_)
      · have h12 : (xR μ 18) = false := nB_z.mp (cm_eq9.mp h12)
        exact zJ hJ4 rfl rfl (by simp only [h12, lb_f, Int64.or_zero, nB_t, nB_f, Bool.not_true, Bool.not_false, Bool.and_true, Bool.true_and, Bool.false_and, Bool.and_false, Bool.or_true, Bool.true_or, Bool.false_or, Bool.or_false, cond_true, cond_false])
      · have h12 : (xR μ 18) = true := nB_n.mp (cn_eq.mp h12)
        refine z_rcs hc hH 4 (pc' := 540) (lv' := [(10, .int 18), (9, .int (nB b9)), (8, .int (nB b8)), (7, .int x7), (6, .int (nB b6)), (5, .int (nB b5)), (3, .int x3), (2, .int x2), (1, .int x1), (4, .int (nB b4)), (0, .ref 50)]) (st' := [.int 21, .ref 50]) (μ' := mGP μ g yy3 f) (by rfl) ?_
        refine zq_call hc (z_cx_ok hH (by rfl)) (fb_X7_hasRun d' (by omega) (mGP μ g yy3 f) 21) (by decide +kernel) (fun r9 μ9 hq => ?_)
        obtain ⟨hμ9, rfl⟩ := hq
        rw [hμ9]
        clear hμ9 μ9
        show Z 0 543 [(10, .int 18), (9, .int (nB b9)), (8, .int (nB b8)), (7, .int x7), (6, .int (nB b6)), (5, .int (nB b5)), (3, .int x3), (2, .int x2), (1, .int x1), (4, .int (nB b4)), (0, .ref 50)] [.int (nB (xR μ 21))] (mGP μ g yy3 f)
        refine zq_if hc hH (by rfl) (tg := 572) (by rfl) (fun h13 => ?_) (fun h13 => ?_)
        · have h13 : (xR μ 21) = false := nB_z.mp (cm_eq9.mp h13)
          exact zJ hJ4 rfl rfl (by simp only [h12, h13, lb_f, Int64.or_zero, nB_t, nB_f, Bool.not_true, Bool.not_false, Bool.and_true, Bool.true_and, Bool.false_and, Bool.and_false, Bool.or_true, Bool.true_or, Bool.false_or, Bool.or_false, cond_true, cond_false])
        · have h13 : (xR μ 21) = true := nB_n.mp (cn_eq.mp h13)
          refine z_rcs hc hH 4 (pc' := 552) (lv' := [(10, .int 18), (9, .int (nB b9)), (8, .int (nB b8)), (7, .int x7), (6, .int (nB b6)), (5, .int (nB b5)), (3, .int x3), (2, .int x2), (1, .int x1), (4, .int (nB b4)), (0, .ref 50)]) (st' := [.int 24, .ref 50]) (μ' := mGP μ g yy3 f) (by rfl) ?_
          refine zq_call hc (z_cx_ok hH (by rfl)) (fb_X7_hasRun d' (by omega) (mGP μ g yy3 f) 24) (by decide +kernel) (fun r9 μ9 hq => ?_)
          obtain ⟨hμ9, rfl⟩ := hq
          rw [hμ9]
          clear hμ9 μ9
          show Z 0 555 [(10, .int 18), (9, .int (nB b9)), (8, .int (nB b8)), (7, .int x7), (6, .int (nB b6)), (5, .int (nB b5)), (3, .int x3), (2, .int x2), (1, .int x1), (4, .int (nB b4)), (0, .ref 50)] [.int (nB (xR μ 24))] (mGP μ g yy3 f)
          refine zq_if hc hH (by rfl) (tg := 572) (by rfl) (fun h14 => ?_) (fun h14 => ?_)
          · have h14 : (xR μ 24) = false := nB_z.mp (cm_eq9.mp h14)
            exact zJ hJ4 rfl rfl (by simp only [h12, h13, h14, lb_f, Int64.or_zero, nB_t, nB_f, Bool.not_true, Bool.not_false, Bool.and_true, Bool.true_and, Bool.false_and, Bool.and_false, Bool.or_true, Bool.true_or, Bool.false_or, Bool.or_false, cond_true, cond_false])
          · have h14 : (xR μ 24) = true := nB_n.mp (cn_eq.mp h14)
            refine z_rcs hc hH 4 (pc' := 565) (lv' := [(10, .int 18), (9, .int (nB b9)), (8, .int (nB b8)), (7, .int x7), (6, .int (nB b6)), (5, .int (nB b5)), (3, .int x3), (2, .int x2), (1, .int x1), (4, .int (nB b4)), (0, .ref 50)]) (st' := [.int 18, .long yy3, .ref 50]) (μ' := mGP μ g yy3 f) (by rfl) ?_
            refine zq_call hc (z_cx_ok hH (by rfl)) (fb_X7_bit d' (by omega) (mGP μ g yy3 f) 18) (by decide +kernel) (fun r9 μ9 hq => ?_)
            obtain ⟨hμ9, rfl⟩ := hq
            rw [hμ9]
            clear hμ9 μ9
            show Z 0 568 [(10, .int 18), (9, .int (nB b9)), (8, .int (nB b8)), (7, .int x7), (6, .int (nB b6)), (5, .int (nB b5)), (3, .int x3), (2, .int x2), (1, .int x1), (4, .int (nB b4)), (0, .ref 50)] [.long (lb true 18), .long yy3, .ref 50] (mGP μ g yy3 f)
            refine z_rcs hc hH 2 (pc' := 572) (lv' := [(10, .int 18), (9, .int (nB b9)), (8, .int (nB b8)), (7, .int x7), (6, .int (nB b6)), (5, .int (nB b5)), (3, .int x3), (2, .int x2), (1, .int x1), (4, .int (nB b4)), (0, .ref 50)]) (st' := []) (μ' := z_uj (mGP μ g yy3 f) 50 25 (yy3 ||| (lb true 18))) (by rfl) ?_
            rw [mGP_p]
            exact zJ hJ4 rfl rfl (by simp only [h12, h13, h14, lb_f, Int64.or_zero, nB_t, nB_f, Bool.not_true, Bool.not_false, Bool.and_true, Bool.true_and, Bool.false_and, Bool.and_false, Bool.or_true, Bool.true_or, Bool.false_or, Bool.or_false, cond_true, cond_false])
    refine zq_if hc hH (by rfl) (tg := 572) (by rfl) (fun h15 => ?_) (fun h15 => ?_)
    · have h15 : (xR μ 9) = false := nB_z.mp (cm_eq9.mp h15)
      exact zJ hJ2 rfl rfl (by simp only [h15, lb_f, Int64.or_zero, nB_t, nB_f, Bool.not_true, Bool.not_false, Bool.and_true, Bool.true_and, Bool.false_and, Bool.and_false, Bool.or_true, Bool.true_or, Bool.false_or, Bool.or_false, cond_true, cond_false])
    · have h15 : (xR μ 9) = true := nB_n.mp (cn_eq.mp h15)
      refine z_rcs hc hH 4 (pc' := 540) (lv' := [(10, .int 9), (9, .int (nB b9)), (8, .int (nB b8)), (7, .int x7), (6, .int (nB b6)), (5, .int (nB b5)), (3, .int x3), (2, .int x2), (1, .int x1), (4, .int (nB b4)), (0, .ref 50)]) (st' := [.int 12, .ref 50]) (μ' := mGP μ g (p ||| (lb ((xR μ 0) && ((xR μ 3) && (xR μ 6))) 18)) f) (by rfl) ?_
      refine zq_call hc (z_cx_ok hH (by rfl)) (fb_X7_hasRun d' (by omega) (mGP μ g (p ||| (lb ((xR μ 0) && ((xR μ 3) && (xR μ 6))) 18)) f) 12) (by decide +kernel) (fun r9 μ9 hq => ?_)
      obtain ⟨hμ9, rfl⟩ := hq
      rw [hμ9]
      clear hμ9 μ9
      show Z 0 543 [(10, .int 9), (9, .int (nB b9)), (8, .int (nB b8)), (7, .int x7), (6, .int (nB b6)), (5, .int (nB b5)), (3, .int x3), (2, .int x2), (1, .int x1), (4, .int (nB b4)), (0, .ref 50)] [.int (nB (xR μ 12))] _
      refine zq_if hc hH (by rfl) (tg := 572) (by rfl) (fun h16 => ?_) (fun h16 => ?_)
      · have h16 : (xR μ 12) = false := nB_z.mp (cm_eq9.mp h16)
        exact zJ hJ2 rfl rfl (by simp only [h15, h16, lb_f, Int64.or_zero, nB_t, nB_f, Bool.not_true, Bool.not_false, Bool.and_true, Bool.true_and, Bool.false_and, Bool.and_false, Bool.or_true, Bool.true_or, Bool.false_or, Bool.or_false, cond_true, cond_false])
      · have h16 : (xR μ 12) = true := nB_n.mp (cn_eq.mp h16)
        refine z_rcs0 hc hH 4 (pc' := 552) (lv' := [(10, .int 9), (9, .int (nB b9)), (8, .int (nB b8)), (7, .int x7), (6, .int (nB b6)), (5, .int (nB b5)), (3, .int x3), (2, .int x2), (1, .int x1), (4, .int (nB b4)), (0, .ref 50)]) (st' := [.int 15, .ref 50]) (by rfl) ?_
        refine zq_call hc (z_cx_ok hH (by rfl)) (fb_X7_hasRun d' (by omega) (mGP μ g (p ||| (lb ((xR μ 0) && ((xR μ 3) && (xR μ 6))) 18)) f) 15) (by decide +kernel) (fun r9 μ9 hq => ?_)
        obtain ⟨hμ9, rfl⟩ := hq
        rw [hμ9]
        clear hμ9 μ9
        show Z 0 555 [(10, .int 9), (9, .int (nB b9)), (8, .int (nB b8)), (7, .int x7), (6, .int (nB b6)), (5, .int (nB b5)), (3, .int x3), (2, .int x2), (1, .int x1), (4, .int (nB b4)), (0, .ref 50)] [.int (nB (xR μ 15))] _
        refine zq_if hc hH (by rfl) (tg := 572) (by rfl) (fun h17 => ?_) (fun h17 => ?_)
        · have h17 : (xR μ 15) = false := nB_z.mp (cm_eq9.mp h17)
          exact zJ hJ2 rfl rfl (by simp only [h15, h16, h17, lb_f, Int64.or_zero, nB_t, nB_f, Bool.not_true, Bool.not_false, Bool.and_true, Bool.true_and, Bool.false_and, Bool.and_false, Bool.or_true, Bool.true_or, Bool.false_or, Bool.or_false, cond_true, cond_false])
        · have h17 : (xR μ 15) = true := nB_n.mp (cn_eq.mp h17)
          refine z_rcs0 hc hH 4 (pc' := 565) (lv' := [(10, .int 9), (9, .int (nB b9)), (8, .int (nB b8)), (7, .int x7), (6, .int (nB b6)), (5, .int (nB b5)), (3, .int x3), (2, .int x2), (1, .int x1), (4, .int (nB b4)), (0, .ref 50)]) (st' := [.int 18, .long (p ||| (lb ((xR μ 0) && ((xR μ 3) && (xR μ 6))) 18)), .ref 50]) (by rfl) ?_
          refine zq_call hc (z_cx_ok hH (by rfl)) (fb_X7_bit d' (by omega) (mGP μ g (p ||| (lb ((xR μ 0) && ((xR μ 3) && (xR μ 6))) 18)) f) 18) (by decide +kernel) (fun r9 μ9 hq => ?_)
          obtain ⟨hμ9, rfl⟩ := hq
          rw [hμ9]
          clear hμ9 μ9
          show Z 0 568 [(10, .int 9), (9, .int (nB b9)), (8, .int (nB b8)), (7, .int x7), (6, .int (nB b6)), (5, .int (nB b5)), (3, .int x3), (2, .int x2), (1, .int x1), (4, .int (nB b4)), (0, .ref 50)] [.long (lb true 18), .long (p ||| (lb ((xR μ 0) && ((xR μ 3) && (xR μ 6))) 18)), .ref 50] _
          refine z_rcs hc hH 2 (pc' := 572) (lv' := [(10, .int 9), (9, .int (nB b9)), (8, .int (nB b8)), (7, .int x7), (6, .int (nB b6)), (5, .int (nB b5)), (3, .int x3), (2, .int x2), (1, .int x1), (4, .int (nB b4)), (0, .ref 50)]) (st' := []) (μ' := z_uj (mGP μ g (p ||| (lb ((xR μ 0) && ((xR μ 3) && (xR μ 6))) 18)) f) 50 25 ((p ||| (lb ((xR μ 0) && ((xR μ 3) && (xR μ 6))) 18)) ||| (lb true 18))) (by rfl) ?_
          rw [mGP_p]
          exact zJ hJ2 rfl rfl (by simp only [h15, h16, h17, lb_f, Int64.or_zero, nB_t, nB_f, Bool.not_true, Bool.not_false, Bool.and_true, Bool.true_and, Bool.false_and, Bool.and_false, Bool.or_true, Bool.true_or, Bool.false_or, Bool.or_false, cond_true, cond_false])
  refine zq_if hc hH (by rfl) (tg := 572) (by rfl) (fun h18 => ?_) (fun h18 => ?_)
  · have h18 : (xR μ 0) = false := nB_z.mp (cm_eq9.mp h18)
    exact zJ hJ1 rfl rfl (by simp only [h18, lb_f, Int64.or_zero, nB_t, nB_f, Bool.not_true, Bool.not_false, Bool.and_true, Bool.true_and, Bool.false_and, Bool.and_false, Bool.or_true, Bool.true_or, Bool.false_or, Bool.or_false, cond_true, cond_false])
  · have h18 : (xR μ 0) = true := nB_n.mp (cn_eq.mp h18)
    refine z_rcs hc hH 4 (pc' := 540) (lv' := [(10, .int 0), (9, .int (nB b9)), (8, .int (nB b8)), (7, .int x7), (6, .int (nB b6)), (5, .int (nB b5)), (3, .int x3), (2, .int x2), (1, .int x1), (4, .int (nB b4)), (0, .ref 50)]) (st' := [.int 3, .ref 50]) (μ' := mGP μ g p f) (by rfl) ?_
    refine zq_call hc (z_cx_ok hH (by rfl)) (fb_X7_hasRun d' (by omega) (mGP μ g p f) 3) (by decide +kernel) (fun r9 μ9 hq => ?_)
    obtain ⟨hμ9, rfl⟩ := hq
    rw [hμ9]
    clear hμ9 μ9
    show Z 0 543 [(10, .int 0), (9, .int (nB b9)), (8, .int (nB b8)), (7, .int x7), (6, .int (nB b6)), (5, .int (nB b5)), (3, .int x3), (2, .int x2), (1, .int x1), (4, .int (nB b4)), (0, .ref 50)] [.int (nB (xR μ 3))] (mGP μ g p f)
    refine zq_if hc hH (by rfl) (tg := 572) (by rfl) (fun h19 => ?_) (fun h19 => ?_)
    · have h19 : (xR μ 3) = false := nB_z.mp (cm_eq9.mp h19)
      exact zJ hJ1 rfl rfl (by simp only [h18, h19, lb_f, Int64.or_zero, nB_t, nB_f, Bool.not_true, Bool.not_false, Bool.and_true, Bool.true_and, Bool.false_and, Bool.and_false, Bool.or_true, Bool.true_or, Bool.false_or, Bool.or_false, cond_true, cond_false])
    · have h19 : (xR μ 3) = true := nB_n.mp (cn_eq.mp h19)
      refine z_rcs hc hH 4 (pc' := 552) (lv' := [(10, .int 0), (9, .int (nB b9)), (8, .int (nB b8)), (7, .int x7), (6, .int (nB b6)), (5, .int (nB b5)), (3, .int x3), (2, .int x2), (1, .int x1), (4, .int (nB b4)), (0, .ref 50)]) (st' := [.int 6, .ref 50]) (μ' := mGP μ g p f) (by rfl) ?_
      refine zq_call hc (z_cx_ok hH (by rfl)) (fb_X7_hasRun d' (by omega) (mGP μ g p f) 6) (by decide +kernel) (fun r9 μ9 hq => ?_)
      obtain ⟨hμ9, rfl⟩ := hq
      rw [hμ9]
      clear hμ9 μ9
      show Z 0 555 [(10, .int 0), (9, .int (nB b9)), (8, .int (nB b8)), (7, .int x7), (6, .int (nB b6)), (5, .int (nB b5)), (3, .int x3), (2, .int x2), (1, .int x1), (4, .int (nB b4)), (0, .ref 50)] [.int (nB (xR μ 6))] (mGP μ g p f)
      refine zq_if hc hH (by rfl) (tg := 572) (by rfl) (fun h20 => ?_) (fun h20 => ?_)
      · have h20 : (xR μ 6) = false := nB_z.mp (cm_eq9.mp h20)
        exact zJ hJ1 rfl rfl (by simp only [h18, h19, h20, lb_f, Int64.or_zero, nB_t, nB_f, Bool.not_true, Bool.not_false, Bool.and_true, Bool.true_and, Bool.false_and, Bool.and_false, Bool.or_true, Bool.true_or, Bool.false_or, Bool.or_false, cond_true, cond_false])
      · have h20 : (xR μ 6) = true := nB_n.mp (cn_eq.mp h20)
        refine z_rcs hc hH 4 (pc' := 565) (lv' := [(10, .int 0), (9, .int (nB b9)), (8, .int (nB b8)), (7, .int x7), (6, .int (nB b6)), (5, .int (nB b5)), (3, .int x3), (2, .int x2), (1, .int x1), (4, .int (nB b4)), (0, .ref 50)]) (st' := [.int 18, .long p, .ref 50]) (μ' := mGP μ g p f) (by rfl) ?_
        refine zq_call hc (z_cx_ok hH (by rfl)) (fb_X7_bit d' (by omega) (mGP μ g p f) 18) (by decide +kernel) (fun r9 μ9 hq => ?_)
        obtain ⟨hμ9, rfl⟩ := hq
        rw [hμ9]
        clear hμ9 μ9
        show Z 0 568 [(10, .int 0), (9, .int (nB b9)), (8, .int (nB b8)), (7, .int x7), (6, .int (nB b6)), (5, .int (nB b5)), (3, .int x3), (2, .int x2), (1, .int x1), (4, .int (nB b4)), (0, .ref 50)] [.long (lb true 18), .long p, .ref 50] (mGP μ g p f)
        refine z_rcs hc hH 2 (pc' := 572) (lv' := [(10, .int 0), (9, .int (nB b9)), (8, .int (nB b8)), (7, .int x7), (6, .int (nB b6)), (5, .int (nB b5)), (3, .int x3), (2, .int x2), (1, .int x1), (4, .int (nB b4)), (0, .ref 50)]) (st' := []) (μ' := z_uj (mGP μ g p f) 50 25 (p ||| (lb true 18))) (by rfl) ?_
        rw [mGP_p]
        exact zJ hJ1 rfl rfl (by simp only [h18, h19, h20, lb_f, Int64.or_zero, nB_t, nB_f, Bool.not_true, Bool.not_false, Bool.and_true, Bool.true_and, Bool.false_and, Bool.and_false, Bool.or_true, Bool.true_or, Bool.false_or, Bool.or_false, cond_true, cond_false])
theorem fs639 (d' : Nat) (Z : zK) (hd : 4 ≤ d') (μ : zM) (q : Nat) (hq : q ≤ 4) (e4 : μ.1 50 4 = nI q) (s l : Nat → Nat) (hA : AY μ s l) (hco : vp_in (μ.1 50 22) 5) (hc : z_clo z_x0 mi_X7_firstSort (z_C d') Z) (b9 : Bool) (b8 : Bool) (x7 : Int32) (b6 : Bool) (b5 : Bool) (x3 : Int32) (x2 : Int32) (x1 : Int32) (b4 : Bool) (g p : Int64) (f : Int32) (K : Z 0 861 [(12, .int 34), (10, .int (((0 + (nB (xT μ 31))) + (nB (xT μ 32))) + (nB (xT μ 33)))), (11, .int ((((0 + (nB (xT μ 27))) + (nB (xT μ 28))) + (nB (xT μ 29))) + (nB (xT μ 30)))), (9, .int (nB b9)), (8, .int (nB b8)), (7, .int x7), (6, .int (nB b6)), (5, .int (nB b5)), (3, .int x3), (2, .int x2), (1, .int x1), (4, .int (nB b4)), (0, .ref 50)] [] (mGP μ (tlG μ (((((g ||| (lb (decide (x2 = 4)) 33)) ||| (lb (decide ((((0 + (nB (xT μ 31))) + (nB (xT μ 32))) + (nB (xT μ 33))) = 3)) 34)) ||| (lb ((decide (((((0 + (nB (xT μ 27))) + (nB (xT μ 28))) + (nB (xT μ 29))) + (nB (xT μ 30))) = 3)) && (!(decide ((μ.1 50 21) ≤ 26)) && (!(decide (31 ≤ (μ.1 50 21)))))) 35)) ||| (lb (decide (((((0 + (nB (xT μ 27))) + (nB (xT μ 28))) + (nB (xT μ 29))) + (nB (xT μ 30))) = 4)) 36)) ||| (lb (decide (x3 = 4)) 41)) (tF μ q 34 0 t70)) (tlP μ (p ||| (lb ((decide ((((0 + (nB (xT μ 31))) + (nB (xT μ 32))) + (nB (xT μ 33))) = 2)) && (xDr (μ.1 50 21))) 25)) (tF μ q 34 0 t70)) f)) : Z 0 639 [(10, .int 27), (9, .int (nB b9)), (8, .int (nB b8)), (7, .int x7), (6, .int (nB b6)), (5, .int (nB b5)), (3, .int x3), (2, .int x2), (1, .int x1), (4, .int (nB b4)), (0, .ref 50)] [] (mGP μ g p f) := by
  have hH : zH mi_X7_firstSort zt_X7_firstSort 79 7 14 := hh_X7_firstSort
  refine z_rcs hc hH 10 (pc' := 658) (lv' := [(12, .int 27), (11, .int 0), (10, .int 0), (9, .int (nB b9)), (8, .int (nB b8)), (7, .int x7), (6, .int (nB b6)), (5, .int (nB b5)), (3, .int x3), (2, .int x2), (1, .int x1), (4, .int (nB b4)), (0, .ref 50)]) (st' := [.int 27]) (μ' := mGP μ g p f) (by rfl) ?_
  refine zq_call hc (z_cx_ok hH (by rfl)) (fb_X7_isDragon d' (by omega) (mGP μ g p f) 27) (by decide +kernel) (fun r9 μ9 hq => ?_)
  obtain ⟨hμ9, rfl⟩ := hq
  rw [hμ9]
  clear hμ9 μ9
  show Z 0 661 [(12, .int 27), (11, .int 0), (10, .int 0), (9, .int (nB b9)), (8, .int (nB b8)), (7, .int x7), (6, .int (nB b6)), (5, .int (nB b5)), (3, .int x3), (2, .int x2), (1, .int x1), (4, .int (nB b4)), (0, .ref 50)] [.int (nB (xDr 27))] (mGP μ g p f)
  rw [show nB (xDr 27) = 0 from by decide +kernel]
  show Z 0 661 [(12, .int 27), (11, .int 0), (10, .int 0), (9, .int (nB b9)), (8, .int (nB b8)), (7, .int x7), (6, .int (nB b6)), (5, .int (nB b5)), (3, .int x3), (2, .int x2), (1, .int x1), (4, .int (nB b4)), (0, .ref 50)] [.int 0] (mGP μ g p f)
  refine z_rcs hc hH 4 (pc' := 691) (lv' := [(12, .int 27), (11, .int 0), (10, .int 0), (9, .int (nB b9)), (8, .int (nB b8)), (7, .int x7), (6, .int (nB b6)), (5, .int (nB b5)), (3, .int x3), (2, .int x2), (1, .int x1), (4, .int (nB b4)), (0, .ref 50)]) (st' := [.int 27, .ref 50, .int 0]) (μ' := mGP μ g p f) (by rfl) ?_
  refine zq_call hc (z_cx_ok hH (by rfl)) (fb_X7_hasThree d' (by omega) (mGP μ g p f) 27) (by decide +kernel) (fun r9 μ9 hq => ?_)
  obtain ⟨hμ9, rfl⟩ := hq
  rw [hμ9]
  clear hμ9 μ9
  show Z 0 694 [(12, .int 27), (11, .int 0), (10, .int 0), (9, .int (nB b9)), (8, .int (nB b8)), (7, .int x7), (6, .int (nB b6)), (5, .int (nB b5)), (3, .int x3), (2, .int x2), (1, .int x1), (4, .int (nB b4)), (0, .ref 50)] [.int (nB (xT μ 27)), .int 0] (mGP μ g p f)
  have hJ1 : Z 0 702 [(12, .int 27), (11, .int 0), (10, .int 0), (9, .int (nB b9)), (8, .int (nB b8)), (7, .int x7), (6, .int (nB b6)), (5, .int (nB b5)), (3, .int x3), (2, .int x2), (1, .int x1), (4, .int (nB b4)), (0, .ref 50)] [.int (nB (xT μ 27)), .int 0] (mGP μ g p f) := by
    refine z_rcs hc hH 8 (pc' := 658) (lv' := [(12, .int 28), (11, .int (0 + (nB (xT μ 27)))), (10, .int 0), (9, .int (nB b9)), (8, .int (nB b8)), (7, .int x7), (6, .int (nB b6)), (5, .int (nB b5)), (3, .int x3), (2, .int x2), (1, .int x1), (4, .int (nB b4)), (0, .ref 50)]) (st' := [.int 28]) (μ' := mGP μ g p f) (by rfl) ?_
    refine zq_call hc (z_cx_ok hH (by rfl)) (fb_X7_isDragon d' (by omega) (mGP μ g p f) 28) (by decide +kernel) (fun r9 μ9 hq => ?_)
    obtain ⟨hμ9, rfl⟩ := hq
    rw [hμ9]
    clear hμ9 μ9
    show Z 0 661 [(12, .int 28), (11, .int (0 + (nB (xT μ 27)))), (10, .int 0), (9, .int (nB b9)), (8, .int (nB b8)), (7, .int x7), (6, .int (nB b6)), (5, .int (nB b5)), (3, .int x3), (2, .int x2), (1, .int x1), (4, .int (nB b4)), (0, .ref 50)] [.int (nB (xDr 28))] (mGP μ g p f)
    rw [show nB (xDr 28) = 0 from by decide +kernel]
    show Z 0 661 [(12, .int 28), (11, .int (0 + (nB (xT μ 27)))), (10, .int 0), (9, .int (nB b9)), (8, .int (nB b8)), (7, .int x7), (6, .int (nB b6)), (5, .int (nB b5)), (3, .int x3), (2, .int x2), (1, .int x1), (4, .int (nB b4)), (0, .ref 50)] [.int 0] (mGP μ g p f)
    refine z_rcs hc hH 4 (pc' := 691) (lv' := [(12, .int 28), (11, .int (0 + (nB (xT μ 27)))), (10, .int 0), (9, .int (nB b9)), (8, .int (nB b8)), (7, .int x7), (6, .int (nB b6)), (5, .int (nB b5)), (3, .int x3), (2, .int x2), (1, .int x1), (4, .int (nB b4)), (0, .ref 50)]) (st' := [.int 28, .ref 50, .int (0 + (nB (xT μ 27)))]) (μ' := mGP μ g p f) (by rfl) ?_
    refine zq_call hc (z_cx_ok hH (by rfl)) (fb_X7_hasThree d' (by omega) (mGP μ g p f) 28) (by decide +kernel) (fun r9 μ9 hq => ?_)
    obtain ⟨hμ9, rfl⟩ := hq
    rw [hμ9]
    clear hμ9 μ9
    show Z 0 694 [(12, .int 28), (11, .int (0 + (nB (xT μ 27)))), (10, .int 0), (9, .int (nB b9)), (8, .int (nB b8)), (7, .int x7), (6, .int (nB b6)), (5, .int (nB b5)), (3, .int x3), (2, .int x2), (1, .int x1), (4, .int (nB b4)), (0, .ref 50)] [.int (nB (xT μ 28)), .int (0 + (nB (xT μ 27)))] (mGP μ g p f)
    have hJ2 : Z 0 702 [(12, .int 28), (11, .int (0 + (nB (xT μ 27)))), (10, .int 0), (9, .int (nB b9)), (8, .int (nB b8)), (7, .int x7), (6, .int (nB b6)), (5, .int (nB b5)), (3, .int x3), (2, .int x2), (1, .int x1), (4, .int (nB b4)), (0, .ref 50)] [.int (nB (xT μ 28)), .int (0 + (nB (xT μ 27)))] (mGP μ g p f) := by
      refine z_rcs hc hH 8 (pc' := 658) (lv' := [(12, .int 29), (11, .int ((0 + (nB (xT μ 27))) + (nB (xT μ 28)))), (10, .int 0), (9, .int (nB b9)), (8, .int (nB b8)), (7, .int x7), (6, .int (nB b6)), (5, .int (nB b5)), (3, .int x3), (2, .int x2), (1, .int x1), (4, .int (nB b4)), (0, .ref 50)]) (st' := [.int 29]) (μ' := mGP μ g p f) (by rfl) ?_
      refine zq_call hc (z_cx_ok hH (by rfl)) (fb_X7_isDragon d' (by omega) (mGP μ g p f) 29) (by decide +kernel) (fun r9 μ9 hq => ?_)
      obtain ⟨hμ9, rfl⟩ := hq
      rw [hμ9]
      clear hμ9 μ9
      show Z 0 661 [(12, .int 29), (11, .int ((0 + (nB (xT μ 27))) + (nB (xT μ 28)))), (10, .int 0), (9, .int (nB b9)), (8, .int (nB b8)), (7, .int x7), (6, .int (nB b6)), (5, .int (nB b5)), (3, .int x3), (2, .int x2), (1, .int x1), (4, .int (nB b4)), (0, .ref 50)] [.int (nB (xDr 29))] (mGP μ g p f)
      rw [show nB (xDr 29) = 0 from by decide +kernel]
      show Z 0 661 [(12, .int 29), (11, .int ((0 + (nB (xT μ 27))) + (nB (xT μ 28)))), (10, .int 0), (9, .int (nB b9)), (8, .int (nB b8)), (7, .int x7), (6, .int (nB b6)), (5, .int (nB b5)), (3, .int x3), (2, .int x2), (1, .int x1), (4, .int (nB b4)), (0, .ref 50)] [.int 0] (mGP μ g p f)
      refine z_rcs hc hH 4 (pc' := 691) (lv' := [(12, .int 29), (11, .int ((0 + (nB (xT μ 27))) + (nB (xT μ 28)))), (10, .int 0), (9, .int (nB b9)), (8, .int (nB b8)), (7, .int x7), (6, .int (nB b6)), (5, .int (nB b5)), (3, .int x3), (2, .int x2), (1, .int x1), (4, .int (nB b4)), (0, .ref 50)]) (st' := [.int 29, .ref 50, .int ((0 + (nB (xT μ 27))) + (nB (xT μ 28)))]) (μ' := mGP μ g p f) (by rfl) ?_
      refine zq_call hc (z_cx_ok hH (by rfl)) (fb_X7_hasThree d' (by omega) (mGP μ g p f) 29) (by decide +kernel) (fun r9 μ9 hq => ?_)
      obtain ⟨hμ9, rfl⟩ := hq
      rw [hμ9]
      clear hμ9 μ9
      show Z 0 694 [(12, .int 29), (11, .int ((0 + (nB (xT μ 27))) + (nB (xT μ 28)))), (10, .int 0), (9, .int (nB b9)), (8, .int (nB b8)), (7, .int x7), (6, .int (nB b6)), (5, .int (nB b5)), (3, .int x3), (2, .int x2), (1, .int x1), (4, .int (nB b4)), (0, .ref 50)] [.int (nB (xT μ 29)), .int ((0 + (nB (xT μ 27))) + (nB (xT μ 28)))] (mGP μ g p f)
      have hJ3 : Z 0 702 [(12, .int 29), (11, .int ((0 + (nB (xT μ 27))) + (nB (xT μ 28)))), (10, .int 0), (9, .int (nB b9)), (8, .int (nB b8)), (7, .int x7), (6, .int (nB b6)), (5, .int (nB b5)), (3, .int x3), (2, .int x2), (1, .int x1), (4, .int (nB b4)), (0, .ref 50)] [.int (nB (xT μ 29)), .int ((0 + (nB (xT μ 27))) + (nB (xT μ 28)))] (mGP μ g p f) := by
        refine z_rcs hc hH 8 (pc' := 658) (lv' := [(12, .int 30), (11, .int (((0 + (nB (xT μ 27))) + (nB (xT μ 28))) + (nB (xT μ 29)))), (10, .int 0), (9, .int (nB b9)), (8, .int (nB b8)), (7, .int x7), (6, .int (nB b6)), (5, .int (nB b5)), (3, .int x3), (2, .int x2), (1, .int x1), (4, .int (nB b4)), (0, .ref 50)]) (st' := [.int 30]) (μ' := mGP μ g p f) (by rfl) ?_
        refine zq_call hc (z_cx_ok hH (by rfl)) (fb_X7_isDragon d' (by omega) (mGP μ g p f) 30) (by decide +kernel) (fun r9 μ9 hq => ?_)
        obtain ⟨hμ9, rfl⟩ := hq
        rw [hμ9]
        clear hμ9 μ9
        show Z 0 661 [(12, .int 30), (11, .int (((0 + (nB (xT μ 27))) + (nB (xT μ 28))) + (nB (xT μ 29)))), (10, .int 0), (9, .int (nB b9)), (8, .int (nB b8)), (7, .int x7), (6, .int (nB b6)), (5, .int (nB b5)), (3, .int x3), (2, .int x2), (1, .int x1), (4, .int (nB b4)), (0, .ref 50)] [.int (nB (xDr 30))] (mGP μ g p f)
        rw [show nB (xDr 30) = 0 from by decide +kernel]
        show Z 0 661 [(12, .int 30), (11, .int (((0 + (nB (xT μ 27))) + (nB (xT μ 28))) + (nB (xT μ 29)))), (10, .int 0), (9, .int (nB b9)), (8, .int (nB b8)), (7, .int x7), (6, .int (nB b6)), (5, .int (nB b5)), (3, .int x3), (2, .int x2), (1, .int x1), (4, .int (nB b4)), (0, .ref 50)] [.int 0] (mGP μ g p f)
        refine z_rcs hc hH 4 (pc' := 691) (lv' := [(12, .int 30), (11, .int (((0 + (nB (xT μ 27))) + (nB (xT μ 28))) + (nB (xT μ 29)))), (10, .int 0), (9, .int (nB b9)), (8, .int (nB b8)), (7, .int x7), (6, .int (nB b6)), (5, .int (nB b5)), (3, .int x3), (2, .int x2), (1, .int x1), (4, .int (nB b4)), (0, .ref 50)]) (st' := [.int 30, .ref 50, .int (((0 + (nB (xT μ 27))) + (nB (xT μ 28))) + (nB (xT μ 29)))]) (μ' := mGP μ g p f) (by rfl) ?_
        refine zq_call hc (z_cx_ok hH (by rfl)) (fb_X7_hasThree d' (by omega) (mGP μ g p f) 30) (by decide +kernel) (fun r9 μ9 hq => ?_)
        obtain ⟨hμ9, rfl⟩ := hq
        rw [hμ9]
        clear hμ9 μ9
        show Z 0 694 [(12, .int 30), (11, .int (((0 + (nB (xT μ 27))) + (nB (xT μ 28))) + (nB (xT μ 29)))), (10, .int 0), (9, .int (nB b9)), (8, .int (nB b8)), (7, .int x7), (6, .int (nB b6)), (5, .int (nB b5)), (3, .int x3), (2, .int x2), (1, .int x1), (4, .int (nB b4)), (0, .ref 50)] [.int (nB (xT μ 30)), .int (((0 + (nB (xT μ 27))) + (nB (xT μ 28))) + (nB (xT μ 29)))] (mGP μ g p f)
        have hJ4 : Z 0 702 [(12, .int 30), (11, .int (((0 + (nB (xT μ 27))) + (nB (xT μ 28))) + (nB (xT μ 29)))), (10, .int 0), (9, .int (nB b9)), (8, .int (nB b8)), (7, .int x7), (6, .int (nB b6)), (5, .int (nB b5)), (3, .int x3), (2, .int x2), (1, .int x1), (4, .int (nB b4)), (0, .ref 50)] [.int (nB (xT μ 30)), .int (((0 + (nB (xT μ 27))) + (nB (xT μ 28))) + (nB (xT μ 29)))] (mGP μ g p f) := by
          refine z_rcs hc hH 8 (pc' := 658) (lv' := [(12, .int 31), (11, .int ((((0 + (nB (xT μ 27))) + (nB (xT μ 28))) + (nB (xT μ 29))) + (nB (xT μ 30)))), (10, .int 0), (9, .int (nB b9)), (8, .int (nB b8)), (7, .int x7), (6, .int (nB b6)), (5, .int (nB b5)), (3, .int x3), (2, .int x2), (1, .int x1), (4, .int (nB b4)), (0, .ref 50)]) (st' := [.int 31]) (μ' := mGP μ g p f) (by rfl) ?_
          refine zq_call hc (z_cx_ok hH (by rfl)) (fb_X7_isDragon d' (by omega) (mGP μ g p f) 31) (by decide +kernel) (fun r9 μ9 hq => ?_)
          obtain ⟨hμ9, rfl⟩ := hq
          rw [hμ9]
          clear hμ9 μ9
          show Z 0 661 [(12, .int 31), (11, .int ((((0 + (nB (xT μ 27))) + (nB (xT μ 28))) + (nB (xT μ 29))) + (nB (xT μ 30)))), (10, .int 0), (9, .int (nB b9)), (8, .int (nB b8)), (7, .int x7), (6, .int (nB b6)), (5, .int (nB b5)), (3, .int x3), (2, .int x2), (1, .int x1), (4, .int (nB b4)), (0, .ref 50)] [.int (nB (xDr 31))] (mGP μ g p f)
          rw [show nB (xDr 31) = 1 from by decide +kernel]
          show Z 0 661 [(12, .int 31), (11, .int ((((0 + (nB (xT μ 27))) + (nB (xT μ 28))) + (nB (xT μ 29))) + (nB (xT μ 30)))), (10, .int 0), (9, .int (nB b9)), (8, .int (nB b8)), (7, .int x7), (6, .int (nB b6)), (5, .int (nB b5)), (3, .int x3), (2, .int x2), (1, .int x1), (4, .int (nB b4)), (0, .ref 50)] [.int 1] (mGP μ g p f)
          refine z_rcs hc hH 4 (pc' := 669) (lv' := [(12, .int 31), (11, .int ((((0 + (nB (xT μ 27))) + (nB (xT μ 28))) + (nB (xT μ 29))) + (nB (xT μ 30)))), (10, .int 0), (9, .int (nB b9)), (8, .int (nB b8)), (7, .int x7), (6, .int (nB b6)), (5, .int (nB b5)), (3, .int x3), (2, .int x2), (1, .int x1), (4, .int (nB b4)), (0, .ref 50)]) (st' := [.int 31, .ref 50, .int 0]) (μ' := mGP μ g p f) (by rfl) ?_
          refine zq_call hc (z_cx_ok hH (by rfl)) (fb_X7_hasThree d' (by omega) (mGP μ g p f) 31) (by decide +kernel) (fun r9 μ9 hq => ?_)
          obtain ⟨hμ9, rfl⟩ := hq
          rw [hμ9]
          clear hμ9 μ9
          show Z 0 672 [(12, .int 31), (11, .int ((((0 + (nB (xT μ 27))) + (nB (xT μ 28))) + (nB (xT μ 29))) + (nB (xT μ 30)))), (10, .int 0), (9, .int (nB b9)), (8, .int (nB b8)), (7, .int x7), (6, .int (nB b6)), (5, .int (nB b5)), (3, .int x3), (2, .int x2), (1, .int x1), (4, .int (nB b4)), (0, .ref 50)] [.int (nB (xT μ 31)), .int 0] (mGP μ g p f)
          have hJ5 : Z 0 680 [(12, .int 31), (11, .int ((((0 + (nB (xT μ 27))) + (nB (xT μ 28))) + (nB (xT μ 29))) + (nB (xT μ 30)))), (10, .int 0), (9, .int (nB b9)), (8, .int (nB b8)), (7, .int x7), (6, .int (nB b6)), (5, .int (nB b5)), (3, .int x3), (2, .int x2), (1, .int x1), (4, .int (nB b4)), (0, .ref 50)] [.int (nB (xT μ 31)), .int 0] (mGP μ g p f) := by
            generalize hyy6 : ((((0 + (nB (xT μ 27))) + (nB (xT μ 28))) + (nB (xT μ 29))) + (nB (xT μ 30)) : Int32) = yy6
            refine z_rcs hc hH 9 (pc' := 658) (lv' := [(12, .int 32), (10, .int (0 + (nB (xT μ 31)))), (11, .int yy6), (9, .int (nB b9)), (8, .int (nB b8)), (7, .int x7), (6, .int (nB b6)), (5, .int (nB b5)), (3, .int x3), (2, .int x2), (1, .int x1), (4, .int (nB b4)), (0, .ref 50)]) (st' := [.int 32]) (μ' := mGP μ g p f) (by rfl) ?_
            refine zq_call hc (z_cx_ok hH (by rfl)) (fb_X7_isDragon d' (by omega) (mGP μ g p f) 32) (by decide +kernel) (fun r9 μ9 hq => ?_)
            obtain ⟨hμ9, rfl⟩ := hq
            rw [hμ9]
            clear hμ9 μ9
            show Z 0 661 [(12, .int 32), (10, .int (0 + (nB (xT μ 31)))), (11, .int yy6), (9, .int (nB b9)), (8, .int (nB b8)), (7, .int x7), (6, .int (nB b6)), (5, .int (nB b5)), (3, .int x3), (2, .int x2), (1, .int x1), (4, .int (nB b4)), (0, .ref 50)] [.int (nB (xDr 32))] (mGP μ g p f)
            rw [show nB (xDr 32) = 1 from by decide +kernel]
            show Z 0 661 [(12, .int 32), (10, .int (0 + (nB (xT μ 31)))), (11, .int yy6), (9, .int (nB b9)), (8, .int (nB b8)), (7, .int x7), (6, .int (nB b6)), (5, .int (nB b5)), (3, .int x3), (2, .int x2), (1, .int x1), (4, .int (nB b4)), (0, .ref 50)] [.int 1] (mGP μ g p f)
            refine z_rcs hc hH 4 (pc' := 669) (lv' := [(12, .int 32), (10, .int (0 + (nB (xT μ 31)))), (11, .int yy6), (9, .int (nB b9)), (8, .int (nB b8)), (7, .int x7), (6, .int (nB b6)), (5, .int (nB b5)), (3, .int x3), (2, .int x2), (1, .int x1), (4, .int (nB b4)), (0, .ref 50)]) (st' := [.int 32, .ref 50, .int (0 + (nB (xT μ 31)))]) (μ' := mGP μ g p f) (by rfl) ?_
            refine zq_call hc (z_cx_ok hH (by rfl)) (fb_X7_hasThree d' (by omega) (mGP μ g p f) 32) (by decide +kernel) (fun r9 μ9 hq => ?_)
            obtain ⟨hμ9, rfl⟩ := hq
            rw [hμ9]
            clear hμ9 μ9
            show Z 0 672 [(12, .int 32), (10, .int (0 + (nB (xT μ 31)))), (11, .int yy6), (9, .int (nB b9)), (8, .int (nB b8)), (7, .int x7), (6, .int (nB b6)), (5, .int (nB b5)), (3, .int x3), (2, .int x2), (1, .int x1), (4, .int (nB b4)), (0, .ref 50)] [.int (nB (xT μ 32)), .int (0 + (nB (xT μ 31)))] (mGP μ g p f)
            have hJ7 : Z 0 680 [(12, .int 32), (10, .int (0 + (nB (xT μ 31)))), (11, .int yy6), (9, .int (nB b9)), (8, .int (nB b8)), (7, .int x7), (6, .int (nB b6)), (5, .int (nB b5)), (3, .int x3), (2, .int x2), (1, .int x1), (4, .int (nB b4)), (0, .ref 50)] [.int (nB (xT μ 32)), .int (0 + (nB (xT μ 31)))] (mGP μ g p f) := by
              refine z_rcs hc hH 9 (pc' := 658) (lv' := [(12, .int 33), (10, .int ((0 + (nB (xT μ 31))) + (nB (xT μ 32)))), (11, .int yy6), (9, .int (nB b9)), (8, .int (nB b8)), (7, .int x7), (6, .int (nB b6)), (5, .int (nB b5)), (3, .int x3), (2, .int x2), (1, .int x1), (4, .int (nB b4)), (0, .ref 50)]) (st' := [.int 33]) (μ' := mGP μ g p f) (by rfl) ?_
              refine zq_call hc (z_cx_ok hH (by rfl)) (fb_X7_isDragon d' (by omega) (mGP μ g p f) 33) (by decide +kernel) (fun r9 μ9 hq => ?_)
              obtain ⟨hμ9, rfl⟩ := hq
              rw [hμ9]
              clear hμ9 μ9
              show Z 0 661 [(12, .int 33), (10, .int ((0 + (nB (xT μ 31))) + (nB (xT μ 32)))), (11, .int yy6), (9, .int (nB b9)), (8, .int (nB b8)), (7, .int x7), (6, .int (nB b6)), (5, .int (nB b5)), (3, .int x3), (2, .int x2), (1, .int x1), (4, .int (nB b4)), (0, .ref 50)] [.int (nB (xDr 33))] (mGP μ g p f)
              rw [show nB (xDr 33) = 1 from by decide +kernel]
              show Z 0 661 [(12, .int 33), (10, .int ((0 + (nB (xT μ 31))) + (nB (xT μ 32)))), (11, .int yy6), (9, .int (nB b9)), (8, .int (nB b8)), (7, .int x7), (6, .int (nB b6)), (5, .int (nB b5)), (3, .int x3), (2, .int x2), (1, .int x1), (4, .int (nB b4)), (0, .ref 50)] [.int 1] (mGP μ g p f)
              refine z_rcs hc hH 4 (pc' := 669) (lv' := [(12, .int 33), (10, .int ((0 + (nB (xT μ 31))) + (nB (xT μ 32)))), (11, .int yy6), (9, .int (nB b9)), (8, .int (nB b8)), (7, .int x7), (6, .int (nB b6)), (5, .int (nB b5)), (3, .int x3), (2, .int x2), (1, .int x1), (4, .int (nB b4)), (0, .ref 50)]) (st' := [.int 33, .ref 50, .int ((0 + (nB (xT μ 31))) + (nB (xT μ 32)))]) (μ' := mGP μ g p f) (by rfl) ?_
              refine zq_call hc (z_cx_ok hH (by rfl)) (fb_X7_hasThree d' (by omega) (mGP μ g p f) 33) (by decide +kernel) (fun r9 μ9 hq => ?_)
              obtain ⟨hμ9, rfl⟩ := hq
              rw [hμ9]
              clear hμ9 μ9
              show Z 0 672 [(12, .int 33), (10, .int ((0 + (nB (xT μ 31))) + (nB (xT μ 32)))), (11, .int yy6), (9, .int (nB b9)), (8, .int (nB b8)), (7, .int x7), (6, .int (nB b6)), (5, .int (nB b5)), (3, .int x3), (2, .int x2), (1, .int x1), (4, .int (nB b4)), (0, .ref 50)] [.int (nB (xT μ 33)), .int ((0 + (nB (xT μ 31))) + (nB (xT μ 32)))] (mGP μ g p f)
              have hJ8 : Z 0 680 [(12, .int 33), (10, .int ((0 + (nB (xT μ 31))) + (nB (xT μ 32)))), (11, .int yy6), (9, .int (nB b9)), (8, .int (nB b8)), (7, .int x7), (6, .int (nB b6)), (5, .int (nB b5)), (3, .int x3), (2, .int x2), (1, .int x1), (4, .int (nB b4)), (0, .ref 50)] [.int (nB (xT μ 33)), .int ((0 + (nB (xT μ 31))) + (nB (xT μ 32)))] (mGP μ g p f) := by
                refine z_rcs hc hH 10 (pc' := 714) (lv' := [(12, .int 34), (10, .int (((0 + (nB (xT μ 31))) + (nB (xT μ 32))) + (nB (xT μ 33)))), (11, .int yy6), (9, .int (nB b9)), (8, .int (nB b8)), (7, .int x7), (6, .int (nB b6)), (5, .int (nB b5)), (3, .int x3), (2, .int x2), (1, .int x1), (4, .int (nB b4)), (0, .ref 50)]) (st' := [.int 2, .int (((0 + (nB (xT μ 31))) + (nB (xT μ 32))) + (nB (xT μ 33)))]) (μ' := mGP μ g p f) (by rfl) ?_
                have hJ9 : Z 0 741 [(12, .int 34), (10, .int (((0 + (nB (xT μ 31))) + (nB (xT μ 32))) + (nB (xT μ 33)))), (11, .int yy6), (9, .int (nB b9)), (8, .int (nB b8)), (7, .int x7), (6, .int (nB b6)), (5, .int (nB b5)), (3, .int x3), (2, .int x2), (1, .int x1), (4, .int (nB b4)), (0, .ref 50)] [] (mGP μ g (p ||| (lb ((decide ((((0 + (nB (xT μ 31))) + (nB (xT μ 32))) + (nB (xT μ 33))) = 2)) && (xDr (μ.1 50 21))) 25)) f) := by
                  generalize hyy10 : (p ||| (lb ((decide ((((0 + (nB (xT μ 31))) + (nB (xT μ 32))) + (nB (xT μ 33))) = 2)) && (xDr (μ.1 50 21))) 25) : Int64) = yy10
                  refine z_rcs hc hH 2 (pc' := 743) (lv' := [(12, .int 34), (10, .int (((0 + (nB (xT μ 31))) + (nB (xT μ 32))) + (nB (xT μ 33)))), (11, .int yy6), (9, .int (nB b9)), (8, .int (nB b8)), (7, .int x7), (6, .int (nB b6)), (5, .int (nB b5)), (3, .int x3), (2, .int x2), (1, .int x1), (4, .int (nB b4)), (0, .ref 50)]) (st' := [.int 4, .int x2]) (μ' := mGP μ g yy10 f) (by rfl) ?_
                  have hJ11 : Z 0 760 [(12, .int 34), (10, .int (((0 + (nB (xT μ 31))) + (nB (xT μ 32))) + (nB (xT μ 33)))), (11, .int yy6), (9, .int (nB b9)), (8, .int (nB b8)), (7, .int x7), (6, .int (nB b6)), (5, .int (nB b5)), (3, .int x3), (2, .int x2), (1, .int x1), (4, .int (nB b4)), (0, .ref 50)] [] (mGP μ (g ||| (lb (decide (x2 = 4)) 33)) yy10 f) := by
                    refine z_rcs0 hc hH 2 (pc' := 763) (lv' := [(12, .int 34), (10, .int (((0 + (nB (xT μ 31))) + (nB (xT μ 32))) + (nB (xT μ 33)))), (11, .int yy6), (9, .int (nB b9)), (8, .int (nB b8)), (7, .int x7), (6, .int (nB b6)), (5, .int (nB b5)), (3, .int x3), (2, .int x2), (1, .int x1), (4, .int (nB b4)), (0, .ref 50)]) (st' := [.int 3, .int (((0 + (nB (xT μ 31))) + (nB (xT μ 32))) + (nB (xT μ 33)))]) (by rfl) ?_
                    have hJ12 : Z 0 780 [(12, .int 34), (10, .int (((0 + (nB (xT μ 31))) + (nB (xT μ 32))) + (nB (xT μ 33)))), (11, .int yy6), (9, .int (nB b9)), (8, .int (nB b8)), (7, .int x7), (6, .int (nB b6)), (5, .int (nB b5)), (3, .int x3), (2, .int x2), (1, .int x1), (4, .int (nB b4)), (0, .ref 50)] [] (mGP μ ((g ||| (lb (decide (x2 = 4)) 33)) ||| (lb (decide ((((0 + (nB (xT μ 31))) + (nB (xT μ 32))) + (nB (xT μ 33))) = 3)) 34)) yy10 f) := by
                      generalize hyy13 : ((g ||| (lb (decide (x2 = 4)) 33)) ||| (lb (decide ((((0 + (nB (xT μ 31))) + (nB (xT μ 32))) + (nB (xT μ 33))) = 3)) 34) : Int64) = yy13
                      refine z_rcs hc hH 2 (pc' := 783) (lv' := [(12, .int 34), (10, .int (((0 + (nB (xT μ 31))) + (nB (xT μ 32))) + (nB (xT μ 33)))), (11, .int yy6), (9, .int (nB b9)), (8, .int (nB b8)), (7, .int x7), (6, .int (nB b6)), (5, .int (nB b5)), (3, .int x3), (2, .int x2), (1, .int x1), (4, .int (nB b4)), (0, .ref 50)]) (st' := [.int 3, .int yy6]) (μ' := mGP μ yy13 yy10 f) (by rfl) ?_
                      have hJ14 : Z 0 818 [(12, .int 34), (10, .int (((0 + (nB (xT μ 31))) + (nB (xT μ 32))) + (nB (xT μ 33)))), (11, .int yy6), (9, .int (nB b9)), (8, .int (nB b8)), (7, .int x7), (6, .int (nB b6)), (5, .int (nB b5)), (3, .int x3), (2, .int x2), (1, .int x1), (4, .int (nB b4)), (0, .ref 50)] [] (mGP μ (yy13 ||| (lb ((decide (yy6 = 3)) && (!(decide ((μ.1 50 21) ≤ 26)) && (!(decide (31 ≤ (μ.1 50 21)))))) 35)) yy10 f) := by
                        generalize hyy15 : (yy13 ||| (lb ((decide (yy6 = 3)) && (!(decide ((μ.1 50 21) ≤ 26)) && (!(decide (31 ≤ (μ.1 50 21)))))) 35) : Int64) = yy15
                        refine z_rcs hc hH 2 (pc' := 821) (lv' := [(12, .int 34), (10, .int (((0 + (nB (xT μ 31))) + (nB (xT μ 32))) + (nB (xT μ 33)))), (11, .int yy6), (9, .int (nB b9)), (8, .int (nB b8)), (7, .int x7), (6, .int (nB b6)), (5, .int (nB b5)), (3, .int x3), (2, .int x2), (1, .int x1), (4, .int (nB b4)), (0, .ref 50)]) (st' := [.int 4, .int yy6]) (μ' := mGP μ yy15 yy10 f) (by rfl) ?_
                        have hJ16 : Z 0 838 [(12, .int 34), (10, .int (((0 + (nB (xT μ 31))) + (nB (xT μ 32))) + (nB (xT μ 33)))), (11, .int yy6), (9, .int (nB b9)), (8, .int (nB b8)), (7, .int x7), (6, .int (nB b6)), (5, .int (nB b5)), (3, .int x3), (2, .int x2), (1, .int x1), (4, .int (nB b4)), (0, .ref 50)] [] (mGP μ (yy15 ||| (lb (decide (yy6 = 4)) 36)) yy10 f) := by
                          refine z_rcs0 hc hH 2 (pc' := 840) (lv' := [(12, .int 34), (10, .int (((0 + (nB (xT μ 31))) + (nB (xT μ 32))) + (nB (xT μ 33)))), (11, .int yy6), (9, .int (nB b9)), (8, .int (nB b8)), (7, .int x7), (6, .int (nB b6)), (5, .int (nB b5)), (3, .int x3), (2, .int x2), (1, .int x1), (4, .int (nB b4)), (0, .ref 50)]) (st' := [.int 4, .int x3]) (by rfl) ?_
                          have hJ17 : Z 0 857 [(12, .int 34), (10, .int (((0 + (nB (xT μ 31))) + (nB (xT μ 32))) + (nB (xT μ 33)))), (11, .int yy6), (9, .int (nB b9)), (8, .int (nB b8)), (7, .int x7), (6, .int (nB b6)), (5, .int (nB b5)), (3, .int x3), (2, .int x2), (1, .int x1), (4, .int (nB b4)), (0, .ref 50)] [] (mGP μ ((yy15 ||| (lb (decide (yy6 = 4)) 36)) ||| (lb (decide (x3 = 4)) 41)) yy10 f) := by
                            refine z_rcs0 hc hH 1 (pc' := 858) (lv' := [(12, .int 34), (10, .int (((0 + (nB (xT μ 31))) + (nB (xT μ 32))) + (nB (xT μ 33)))), (11, .int yy6), (9, .int (nB b9)), (8, .int (nB b8)), (7, .int x7), (6, .int (nB b6)), (5, .int (nB b5)), (3, .int x3), (2, .int x2), (1, .int x1), (4, .int (nB b4)), (0, .ref 50)]) (st' := [.ref 50]) (by rfl) ?_
                            refine zq_call hc (z_cx_ok hH (by rfl)) (fb_X7_tiles d' (by omega) (mGP μ ((yy15 ||| (lb (decide (yy6 = 4)) 36)) ||| (lb (decide (x3 = 4)) 41)) yy10 f) q hq e4) (by decide +kernel) (fun r9 μ9 hq => ?_)
                            obtain ⟨rfl, rfl⟩ := hq
                            rw [mGP2]
                            rw [tF_mGP]
                            show Z 0 861 [(12, .int 34), (10, .int (((0 + (nB (xT μ 31))) + (nB (xT μ 32))) + (nB (xT μ 33)))), (11, .int yy6), (9, .int (nB b9)), (8, .int (nB b8)), (7, .int x7), (6, .int (nB b6)), (5, .int (nB b5)), (3, .int x3), (2, .int x2), (1, .int x1), (4, .int (nB b4)), (0, .ref 50)] [] (mGP μ (tlG μ ((yy15 ||| (lb (decide (yy6 = 4)) 36)) ||| (lb (decide (x3 = 4)) 41)) (tF μ q 34 0 t70)) (tlP μ yy10 (tF μ q 34 0 t70)) f)
                            subst hyy15
                            subst hyy13
                            subst hyy10
                            subst hyy6
                            exact K
                          refine zq_ic hc hH (by rfl) (tg := 857) (by rfl) (fun h18 => ?_) (fun h18 => ?_)
                          · have h18 : (decide (x3 = 4)) = false := decide_eq_false (cm_ne.mp h18)
                            exact zJ hJ17 rfl rfl (by simp only [h18, lb_f, Int64.or_zero, nB_t, nB_f, Bool.not_true, Bool.not_false, Bool.and_true, Bool.true_and, Bool.false_and, Bool.and_false, Bool.or_true, Bool.true_or, Bool.false_or, Bool.or_false, cond_true, cond_false])
                          · have h18 : (decide (x3 = 4)) = true := decide_eq_true (cn_ne.mp h18)
                            refine z_rcs hc hH 4 (pc' := 850) (lv' := [(12, .int 34), (10, .int (((0 + (nB (xT μ 31))) + (nB (xT μ 32))) + (nB (xT μ 33)))), (11, .int yy6), (9, .int (nB b9)), (8, .int (nB b8)), (7, .int x7), (6, .int (nB b6)), (5, .int (nB b5)), (3, .int x3), (2, .int x2), (1, .int x1), (4, .int (nB b4)), (0, .ref 50)]) (st' := [.int 41, .long (yy15 ||| (lb (decide (yy6 = 4)) 36)), .ref 50]) (μ' := mGP μ (yy15 ||| (lb (decide (yy6 = 4)) 36)) yy10 f) (by rfl) ?_
                            refine zq_call hc (z_cx_ok hH (by rfl)) (fb_X7_bit d' (by omega) (mGP μ (yy15 ||| (lb (decide (yy6 = 4)) 36)) yy10 f) 41) (by decide +kernel) (fun r9 μ9 hq => ?_)
                            obtain ⟨hμ9, rfl⟩ := hq
                            rw [hμ9]
                            clear hμ9 μ9
                            show Z 0 853 [(12, .int 34), (10, .int (((0 + (nB (xT μ 31))) + (nB (xT μ 32))) + (nB (xT μ 33)))), (11, .int yy6), (9, .int (nB b9)), (8, .int (nB b8)), (7, .int x7), (6, .int (nB b6)), (5, .int (nB b5)), (3, .int x3), (2, .int x2), (1, .int x1), (4, .int (nB b4)), (0, .ref 50)] [.long (lb true 41), .long (yy15 ||| (lb (decide (yy6 = 4)) 36)), .ref 50] _
                            refine z_rcs hc hH 2 (pc' := 857) (lv' := [(12, .int 34), (10, .int (((0 + (nB (xT μ 31))) + (nB (xT μ 32))) + (nB (xT μ 33)))), (11, .int yy6), (9, .int (nB b9)), (8, .int (nB b8)), (7, .int x7), (6, .int (nB b6)), (5, .int (nB b5)), (3, .int x3), (2, .int x2), (1, .int x1), (4, .int (nB b4)), (0, .ref 50)]) (st' := []) (μ' := z_uj (mGP μ (yy15 ||| (lb (decide (yy6 = 4)) 36)) yy10 f) 50 24 ((yy15 ||| (lb (decide (yy6 = 4)) 36)) ||| (lb true 41))) (by rfl) ?_
                            rw [mGP_g]
                            exact zJ hJ17 rfl rfl (by simp only [h18, lb_f, Int64.or_zero, nB_t, nB_f, Bool.not_true, Bool.not_false, Bool.and_true, Bool.true_and, Bool.false_and, Bool.and_false, Bool.or_true, Bool.true_or, Bool.false_or, Bool.or_false, cond_true, cond_false])
                        refine zq_ic hc hH (by rfl) (tg := 838) (by rfl) (fun h19 => ?_) (fun h19 => ?_)
                        · have h19 : (decide (yy6 = 4)) = false := decide_eq_false (cm_ne.mp h19)
                          exact zJ hJ16 rfl rfl (by simp only [h19, lb_f, Int64.or_zero, nB_t, nB_f, Bool.not_true, Bool.not_false, Bool.and_true, Bool.true_and, Bool.false_and, Bool.and_false, Bool.or_true, Bool.true_or, Bool.false_or, Bool.or_false, cond_true, cond_false])
                        · have h19 : (decide (yy6 = 4)) = true := decide_eq_true (cn_ne.mp h19)
                          refine z_rcs hc hH 4 (pc' := 831) (lv' := [(12, .int 34), (10, .int (((0 + (nB (xT μ 31))) + (nB (xT μ 32))) + (nB (xT μ 33)))), (11, .int yy6), (9, .int (nB b9)), (8, .int (nB b8)), (7, .int x7), (6, .int (nB b6)), (5, .int (nB b5)), (3, .int x3), (2, .int x2), (1, .int x1), (4, .int (nB b4)), (0, .ref 50)]) (st' := [.int 36, .long yy15, .ref 50]) (μ' := mGP μ yy15 yy10 f) (by rfl) ?_
                          refine zq_call hc (z_cx_ok hH (by rfl)) (fb_X7_bit d' (by omega) (mGP μ yy15 yy10 f) 36) (by decide +kernel) (fun r9 μ9 hq => ?_)
                          obtain ⟨hμ9, rfl⟩ := hq
                          rw [hμ9]
                          clear hμ9 μ9
                          show Z 0 834 [(12, .int 34), (10, .int (((0 + (nB (xT μ 31))) + (nB (xT μ 32))) + (nB (xT μ 33)))), (11, .int yy6), (9, .int (nB b9)), (8, .int (nB b8)), (7, .int x7), (6, .int (nB b6)), (5, .int (nB b5)), (3, .int x3), (2, .int x2), (1, .int x1), (4, .int (nB b4)), (0, .ref 50)] [.long (lb true 36), .long yy15, .ref 50] (mGP μ yy15 yy10 f)
                          refine z_rcs hc hH 2 (pc' := 838) (lv' := [(12, .int 34), (10, .int (((0 + (nB (xT μ 31))) + (nB (xT μ 32))) + (nB (xT μ 33)))), (11, .int yy6), (9, .int (nB b9)), (8, .int (nB b8)), (7, .int x7), (6, .int (nB b6)), (5, .int (nB b5)), (3, .int x3), (2, .int x2), (1, .int x1), (4, .int (nB b4)), (0, .ref 50)]) (st' := []) (μ' := z_uj (mGP μ yy15 yy10 f) 50 24 (yy15 ||| (lb true 36))) (by rfl) ?_
                          rw [mGP_g]
                          exact zJ hJ16 rfl rfl (by simp only [h19, lb_f, Int64.or_zero, nB_t, nB_f, Bool.not_true, Bool.not_false, Bool.and_true, Bool.true_and, Bool.false_and, Bool.and_false, Bool.or_true, Bool.true_or, Bool.false_or, Bool.or_false, cond_true, cond_false])
                      refine zq_ic hc hH (by rfl) (tg := 818) (by rfl) (fun h20 => ?_) (fun h20 => ?_)
                      · have h20 : (decide (yy6 = 3)) = false := decide_eq_false (cm_ne.mp h20)
                        exact zJ hJ14 rfl rfl (by simp only [h20, lb_f, Int64.or_zero, nB_t, nB_f, Bool.not_true, Bool.not_false, Bool.and_true, Bool.true_and, Bool.false_and, Bool.and_false, Bool.or_true, Bool.true_or, Bool.false_or, Bool.or_false, cond_true, cond_false])
                      · have h20 : (decide (yy6 = 3)) = true := decide_eq_true (cn_ne.mp h20)
                        refine z_rcs hc hH 3 (pc' := 792) (lv' := [(12, .int 34), (10, .int (((0 + (nB (xT μ 31))) + (nB (xT μ 32))) + (nB (xT μ 33)))), (11, .int yy6), (9, .int (nB b9)), (8, .int (nB b8)), (7, .int x7), (6, .int (nB b6)), (5, .int (nB b5)), (3, .int x3), (2, .int x2), (1, .int x1), (4, .int (nB b4)), (0, .ref 50)]) (st' := [.int 26, .int (μ.1 50 21)]) (μ' := mGP μ yy13 yy10 f) (by rfl) ?_
                        refine zq_ic hc hH (by rfl) (tg := 818) (by rfl) (fun h21 => ?_) (fun h21 => ?_)
                        · have h21 : (decide ((μ.1 50 21) ≤ 26)) = true := decide_eq_true (cm_le.mp h21)
                          exact zJ hJ14 rfl rfl (by simp only [h20, h21, lb_f, Int64.or_zero, nB_t, nB_f, Bool.not_true, Bool.not_false, Bool.and_true, Bool.true_and, Bool.false_and, Bool.and_false, Bool.or_true, Bool.true_or, Bool.false_or, Bool.or_false, cond_true, cond_false])
                        · have h21 : (decide ((μ.1 50 21) ≤ 26)) = false := decide_eq_false (cn_le.mp h21)
                          refine z_rcs hc hH 3 (pc' := 801) (lv' := [(12, .int 34), (10, .int (((0 + (nB (xT μ 31))) + (nB (xT μ 32))) + (nB (xT μ 33)))), (11, .int yy6), (9, .int (nB b9)), (8, .int (nB b8)), (7, .int x7), (6, .int (nB b6)), (5, .int (nB b5)), (3, .int x3), (2, .int x2), (1, .int x1), (4, .int (nB b4)), (0, .ref 50)]) (st' := [.int 31, .int (μ.1 50 21)]) (μ' := mGP μ yy13 yy10 f) (by rfl) ?_
                          refine zq_ic hc hH (by rfl) (tg := 818) (by rfl) (fun h22 => ?_) (fun h22 => ?_)
                          · have h22 : (decide (31 ≤ (μ.1 50 21))) = true := decide_eq_true (cm_ge.mp h22)
                            exact zJ hJ14 rfl rfl (by simp only [h20, h21, h22, lb_f, Int64.or_zero, nB_t, nB_f, Bool.not_true, Bool.not_false, Bool.and_true, Bool.true_and, Bool.false_and, Bool.and_false, Bool.or_true, Bool.true_or, Bool.false_or, Bool.or_false, cond_true, cond_false])
                          · have h22 : (decide (31 ≤ (μ.1 50 21))) = false := decide_eq_false (cn_ge.mp h22)
                            refine z_rcs hc hH 4 (pc' := 811) (lv' := [(12, .int 34), (10, .int (((0 + (nB (xT μ 31))) + (nB (xT μ 32))) + (nB (xT μ 33)))), (11, .int yy6), (9, .int (nB b9)), (8, .int (nB b8)), (7, .int x7), (6, .int (nB b6)), (5, .int (nB b5)), (3, .int x3), (2, .int x2), (1, .int x1), (4, .int (nB b4)), (0, .ref 50)]) (st' := [.int 35, .long yy13, .ref 50]) (μ' := mGP μ yy13 yy10 f) (by rfl) ?_
                            refine zq_call hc (z_cx_ok hH (by rfl)) (fb_X7_bit d' (by omega) (mGP μ yy13 yy10 f) 35) (by decide +kernel) (fun r9 μ9 hq => ?_)
                            obtain ⟨hμ9, rfl⟩ := hq
                            rw [hμ9]
                            clear hμ9 μ9
                            show Z 0 814 [(12, .int 34), (10, .int (((0 + (nB (xT μ 31))) + (nB (xT μ 32))) + (nB (xT μ 33)))), (11, .int yy6), (9, .int (nB b9)), (8, .int (nB b8)), (7, .int x7), (6, .int (nB b6)), (5, .int (nB b5)), (3, .int x3), (2, .int x2), (1, .int x1), (4, .int (nB b4)), (0, .ref 50)] [.long (lb true 35), .long yy13, .ref 50] (mGP μ yy13 yy10 f)
                            refine z_rcs hc hH 2 (pc' := 818) (lv' := [(12, .int 34), (10, .int (((0 + (nB (xT μ 31))) + (nB (xT μ 32))) + (nB (xT μ 33)))), (11, .int yy6), (9, .int (nB b9)), (8, .int (nB b8)), (7, .int x7), (6, .int (nB b6)), (5, .int (nB b5)), (3, .int x3), (2, .int x2), (1, .int x1), (4, .int (nB b4)), (0, .ref 50)]) (st' := []) (μ' := z_uj (mGP μ yy13 yy10 f) 50 24 (yy13 ||| (lb true 35))) (by rfl) ?_
                            rw [mGP_g]
                            exact zJ hJ14 rfl rfl (by simp only [h20, h21, h22, lb_f, Int64.or_zero, nB_t, nB_f, Bool.not_true, Bool.not_false, Bool.and_true, Bool.true_and, Bool.false_and, Bool.and_false, Bool.or_true, Bool.true_or, Bool.false_or, Bool.or_false, cond_true, cond_false])
                    refine zq_ic hc hH (by rfl) (tg := 780) (by rfl) (fun h23 => ?_) (fun h23 => ?_)
                    · have h23 : (decide ((((0 + (nB (xT μ 31))) + (nB (xT μ 32))) + (nB (xT μ 33))) = 3)) = false := decide_eq_false (cm_ne.mp h23)
                      exact zJ hJ12 rfl rfl (by simp only [h23, lb_f, Int64.or_zero, nB_t, nB_f, Bool.not_true, Bool.not_false, Bool.and_true, Bool.true_and, Bool.false_and, Bool.and_false, Bool.or_true, Bool.true_or, Bool.false_or, Bool.or_false, cond_true, cond_false])
                    · have h23 : (decide ((((0 + (nB (xT μ 31))) + (nB (xT μ 32))) + (nB (xT μ 33))) = 3)) = true := decide_eq_true (cn_ne.mp h23)
                      refine z_rcs hc hH 4 (pc' := 773) (lv' := [(12, .int 34), (10, .int (((0 + (nB (xT μ 31))) + (nB (xT μ 32))) + (nB (xT μ 33)))), (11, .int yy6), (9, .int (nB b9)), (8, .int (nB b8)), (7, .int x7), (6, .int (nB b6)), (5, .int (nB b5)), (3, .int x3), (2, .int x2), (1, .int x1), (4, .int (nB b4)), (0, .ref 50)]) (st' := [.int 34, .long (g ||| (lb (decide (x2 = 4)) 33)), .ref 50]) (μ' := mGP μ (g ||| (lb (decide (x2 = 4)) 33)) yy10 f) (by rfl) ?_
                      refine zq_call hc (z_cx_ok hH (by rfl)) (fb_X7_bit d' (by omega) (mGP μ (g ||| (lb (decide (x2 = 4)) 33)) yy10 f) 34) (by decide +kernel) (fun r9 μ9 hq => ?_)
                      obtain ⟨hμ9, rfl⟩ := hq
                      rw [hμ9]
                      clear hμ9 μ9
                      show Z 0 776 [(12, .int 34), (10, .int (((0 + (nB (xT μ 31))) + (nB (xT μ 32))) + (nB (xT μ 33)))), (11, .int yy6), (9, .int (nB b9)), (8, .int (nB b8)), (7, .int x7), (6, .int (nB b6)), (5, .int (nB b5)), (3, .int x3), (2, .int x2), (1, .int x1), (4, .int (nB b4)), (0, .ref 50)] [.long (lb true 34), .long (g ||| (lb (decide (x2 = 4)) 33)), .ref 50] _
                      refine z_rcs hc hH 2 (pc' := 780) (lv' := [(12, .int 34), (10, .int (((0 + (nB (xT μ 31))) + (nB (xT μ 32))) + (nB (xT μ 33)))), (11, .int yy6), (9, .int (nB b9)), (8, .int (nB b8)), (7, .int x7), (6, .int (nB b6)), (5, .int (nB b5)), (3, .int x3), (2, .int x2), (1, .int x1), (4, .int (nB b4)), (0, .ref 50)]) (st' := []) (μ' := z_uj (mGP μ (g ||| (lb (decide (x2 = 4)) 33)) yy10 f) 50 24 ((g ||| (lb (decide (x2 = 4)) 33)) ||| (lb true 34))) (by rfl) ?_
                      rw [mGP_g]
                      exact zJ hJ12 rfl rfl (by simp only [h23, lb_f, Int64.or_zero, nB_t, nB_f, Bool.not_true, Bool.not_false, Bool.and_true, Bool.true_and, Bool.false_and, Bool.and_false, Bool.or_true, Bool.true_or, Bool.false_or, Bool.or_false, cond_true, cond_false])
                  refine zq_ic hc hH (by rfl) (tg := 760) (by rfl) (fun h24 => ?_) (fun h24 => ?_)
                  · have h24 : (decide (x2 = 4)) = false := decide_eq_false (cm_ne.mp h24)
                    exact zJ hJ11 rfl rfl (by simp only [h24, lb_f, Int64.or_zero, nB_t, nB_f, Bool.not_true, Bool.not_false, Bool.and_true, Bool.true_and, Bool.false_and, Bool.and_false, Bool.or_true, Bool.true_or, Bool.false_or, Bool.or_false, cond_true, cond_false])
                  · have h24 : (decide (x2 = 4)) = true := decide_eq_true (cn_ne.mp h24)
                    refine z_rcs hc hH 4 (pc' := 753) (lv' := [(12, .int 34), (10, .int (((0 + (nB (xT μ 31))) + (nB (xT μ 32))) + (nB (xT μ 33)))), (11, .int yy6), (9, .int (nB b9)), (8, .int (nB b8)), (7, .int x7), (6, .int (nB b6)), (5, .int (nB b5)), (3, .int x3), (2, .int x2), (1, .int x1), (4, .int (nB b4)), (0, .ref 50)]) (st' := [.int 33, .long g, .ref 50]) (μ' := mGP μ g yy10 f) (by rfl) ?_
                    refine zq_call hc (z_cx_ok hH (by rfl)) (fb_X7_bit d' (by omega) (mGP μ g yy10 f) 33) (by decide +kernel) (fun r9 μ9 hq => ?_)
                    obtain ⟨hμ9, rfl⟩ := hq
                    rw [hμ9]
                    clear hμ9 μ9
                    show Z 0 756 [(12, .int 34), (10, .int (((0 + (nB (xT μ 31))) + (nB (xT μ 32))) + (nB (xT μ 33)))), (11, .int yy6), (9, .int (nB b9)), (8, .int (nB b8)), (7, .int x7), (6, .int (nB b6)), (5, .int (nB b5)), (3, .int x3), (2, .int x2), (1, .int x1), (4, .int (nB b4)), (0, .ref 50)] [.long (lb true 33), .long g, .ref 50] (mGP μ g yy10 f)
                    refine z_rcs hc hH 2 (pc' := 760) (lv' := [(12, .int 34), (10, .int (((0 + (nB (xT μ 31))) + (nB (xT μ 32))) + (nB (xT μ 33)))), (11, .int yy6), (9, .int (nB b9)), (8, .int (nB b8)), (7, .int x7), (6, .int (nB b6)), (5, .int (nB b5)), (3, .int x3), (2, .int x2), (1, .int x1), (4, .int (nB b4)), (0, .ref 50)]) (st' := []) (μ' := z_uj (mGP μ g yy10 f) 50 24 (g ||| (lb true 33))) (by rfl) ?_
                    rw [mGP_g]
                    exact zJ hJ11 rfl rfl (by simp only [h24, lb_f, Int64.or_zero, nB_t, nB_f, Bool.not_true, Bool.not_false, Bool.and_true, Bool.true_and, Bool.false_and, Bool.and_false, Bool.or_true, Bool.true_or, Bool.false_or, Bool.or_false, cond_true, cond_false])
                refine zq_ic hc hH (by rfl) (tg := 741) (by rfl) (fun h25 => ?_) (fun h25 => ?_)
                · have h25 : (decide ((((0 + (nB (xT μ 31))) + (nB (xT μ 32))) + (nB (xT μ 33))) = 2)) = false := decide_eq_false (cm_ne.mp h25)
                  exact zJ hJ9 rfl rfl (by simp only [h25, lb_f, Int64.or_zero, nB_t, nB_f, Bool.not_true, Bool.not_false, Bool.and_true, Bool.true_and, Bool.false_and, Bool.and_false, Bool.or_true, Bool.true_or, Bool.false_or, Bool.or_false, cond_true, cond_false])
                · have h25 : (decide ((((0 + (nB (xT μ 31))) + (nB (xT μ 32))) + (nB (xT μ 33))) = 2)) = true := decide_eq_true (cn_ne.mp h25)
                  refine z_rcs hc hH 2 (pc' := 721) (lv' := [(12, .int 34), (10, .int (((0 + (nB (xT μ 31))) + (nB (xT μ 32))) + (nB (xT μ 33)))), (11, .int yy6), (9, .int (nB b9)), (8, .int (nB b8)), (7, .int x7), (6, .int (nB b6)), (5, .int (nB b5)), (3, .int x3), (2, .int x2), (1, .int x1), (4, .int (nB b4)), (0, .ref 50)]) (st' := [.int (μ.1 50 21)]) (μ' := mGP μ g p f) (by rfl) ?_
                  refine zq_call hc (z_cx_ok hH (by rfl)) (fb_X7_isDragon d' (by omega) (mGP μ g p f) (μ.1 50 21)) (by decide +kernel) (fun r9 μ9 hq => ?_)
                  obtain ⟨hμ9, rfl⟩ := hq
                  rw [hμ9]
                  clear hμ9 μ9
                  show Z 0 724 [(12, .int 34), (10, .int (((0 + (nB (xT μ 31))) + (nB (xT μ 32))) + (nB (xT μ 33)))), (11, .int yy6), (9, .int (nB b9)), (8, .int (nB b8)), (7, .int x7), (6, .int (nB b6)), (5, .int (nB b5)), (3, .int x3), (2, .int x2), (1, .int x1), (4, .int (nB b4)), (0, .ref 50)] [.int (nB (xDr (μ.1 50 21)))] (mGP μ g p f)
                  refine zq_if hc hH (by rfl) (tg := 741) (by rfl) (fun h26 => ?_) (fun h26 => ?_)
                  · have h26 : (xDr (μ.1 50 21)) = false := nB_z.mp (cm_eq9.mp h26)
                    exact zJ hJ9 rfl rfl (by simp only [h25, h26, lb_f, Int64.or_zero, nB_t, nB_f, Bool.not_true, Bool.not_false, Bool.and_true, Bool.true_and, Bool.false_and, Bool.and_false, Bool.or_true, Bool.true_or, Bool.false_or, Bool.or_false, cond_true, cond_false])
                  · have h26 : (xDr (μ.1 50 21)) = true := nB_n.mp (cn_eq.mp h26)
                    refine z_rcs hc hH 4 (pc' := 734) (lv' := [(12, .int 34), (10, .int (((0 + (nB (xT μ 31))) + (nB (xT μ 32))) + (nB (xT μ 33)))), (11, .int yy6), (9, .int (nB b9)), (8, .int (nB b8)), (7, .int x7), (6, .int (nB b6)), (5, .int (nB b5)), (3, .int x3), (2, .int x2), (1, .int x1), (4, .int (nB b4)), (0, .ref 50)]) (st' := [.int 25, .long p, .ref 50]) (μ' := mGP μ g p f) (by rfl) ?_
                    refine zq_call hc (z_cx_ok hH (by rfl)) (fb_X7_bit d' (by omega) (mGP μ g p f) 25) (by decide +kernel) (fun r9 μ9 hq => ?_)
                    obtain ⟨hμ9, rfl⟩ := hq
                    rw [hμ9]
                    clear hμ9 μ9
                    show Z 0 737 [(12, .int 34), (10, .int (((0 + (nB (xT μ 31))) + (nB (xT μ 32))) + (nB (xT μ 33)))), (11, .int yy6), (9, .int (nB b9)), (8, .int (nB b8)), (7, .int x7), (6, .int (nB b6)), (5, .int (nB b5)), (3, .int x3), (2, .int x2), (1, .int x1), (4, .int (nB b4)), (0, .ref 50)] [.long (lb true 25), .long p, .ref 50] (mGP μ g p f)
                    refine z_rcs hc hH 2 (pc' := 741) (lv' := [(12, .int 34), (10, .int (((0 + (nB (xT μ 31))) + (nB (xT μ 32))) + (nB (xT μ 33)))), (11, .int yy6), (9, .int (nB b9)), (8, .int (nB b8)), (7, .int x7), (6, .int (nB b6)), (5, .int (nB b5)), (3, .int x3), (2, .int x2), (1, .int x1), (4, .int (nB b4)), (0, .ref 50)]) (st' := []) (μ' := z_uj (mGP μ g p f) 50 25 (p ||| (lb true 25))) (by rfl) ?_
                    rw [mGP_p]
                    exact zJ hJ9 rfl rfl (by simp only [h25, h26, lb_f, Int64.or_zero, nB_t, nB_f, Bool.not_true, Bool.not_false, Bool.and_true, Bool.true_and, Bool.false_and, Bool.and_false, Bool.or_true, Bool.true_or, Bool.false_or, Bool.or_false, cond_true, cond_false])
              refine zq_if hc hH (by rfl) (tg := 679) (by rfl) (fun h27 => ?_) (fun h27 => ?_)
              · have h27 : (xT μ 33) = false := nB_z.mp (cm_eq9.mp h27)
                refine z_rcs hc hH 1 (pc' := 680) (lv' := [(12, .int 33), (10, .int ((0 + (nB (xT μ 31))) + (nB (xT μ 32)))), (11, .int yy6), (9, .int (nB b9)), (8, .int (nB b8)), (7, .int x7), (6, .int (nB b6)), (5, .int (nB b5)), (3, .int x3), (2, .int x2), (1, .int x1), (4, .int (nB b4)), (0, .ref 50)]) (st' := [.int 0, .int ((0 + (nB (xT μ 31))) + (nB (xT μ 32)))]) (μ' := mGP μ g p f) (by rfl) ?_
                exact zJ hJ8 rfl (by simp only [h27, lb_f, Int64.or_zero, nB_t, nB_f, Bool.not_true, Bool.not_false, Bool.and_true, Bool.true_and, Bool.false_and, Bool.and_false, Bool.or_true, Bool.true_or, Bool.false_or, Bool.or_false, cond_true, cond_false]) rfl
              · have h27 : (xT μ 33) = true := nB_n.mp (cn_eq.mp h27)
                refine z_rcs hc hH 2 (pc' := 680) (lv' := [(12, .int 33), (10, .int ((0 + (nB (xT μ 31))) + (nB (xT μ 32)))), (11, .int yy6), (9, .int (nB b9)), (8, .int (nB b8)), (7, .int x7), (6, .int (nB b6)), (5, .int (nB b5)), (3, .int x3), (2, .int x2), (1, .int x1), (4, .int (nB b4)), (0, .ref 50)]) (st' := [.int 1, .int ((0 + (nB (xT μ 31))) + (nB (xT μ 32)))]) (μ' := mGP μ g p f) (by rfl) ?_
                exact zJ hJ8 rfl (by simp only [h27, lb_f, Int64.or_zero, nB_t, nB_f, Bool.not_true, Bool.not_false, Bool.and_true, Bool.true_and, Bool.false_and, Bool.and_false, Bool.or_true, Bool.true_or, Bool.false_or, Bool.or_false, cond_true, cond_false]) rfl
            refine zq_if hc hH (by rfl) (tg := 679) (by rfl) (fun h28 => ?_) (fun h28 => ?_)
            · have h28 : (xT μ 32) = false := nB_z.mp (cm_eq9.mp h28)
              refine z_rcs hc hH 1 (pc' := 680) (lv' := [(12, .int 32), (10, .int (0 + (nB (xT μ 31)))), (11, .int yy6), (9, .int (nB b9)), (8, .int (nB b8)), (7, .int x7), (6, .int (nB b6)), (5, .int (nB b5)), (3, .int x3), (2, .int x2), (1, .int x1), (4, .int (nB b4)), (0, .ref 50)]) (st' := [.int 0, .int (0 + (nB (xT μ 31)))]) (μ' := mGP μ g p f) (by rfl) ?_
              exact zJ hJ7 rfl (by simp only [h28, lb_f, Int64.or_zero, nB_t, nB_f, Bool.not_true, Bool.not_false, Bool.and_true, Bool.true_and, Bool.false_and, Bool.and_false, Bool.or_true, Bool.true_or, Bool.false_or, Bool.or_false, cond_true, cond_false]) rfl
            · have h28 : (xT μ 32) = true := nB_n.mp (cn_eq.mp h28)
              refine z_rcs hc hH 2 (pc' := 680) (lv' := [(12, .int 32), (10, .int (0 + (nB (xT μ 31)))), (11, .int yy6), (9, .int (nB b9)), (8, .int (nB b8)), (7, .int x7), (6, .int (nB b6)), (5, .int (nB b5)), (3, .int x3), (2, .int x2), (1, .int x1), (4, .int (nB b4)), (0, .ref 50)]) (st' := [.int 1, .int (0 + (nB (xT μ 31)))]) (μ' := mGP μ g p f) (by rfl) ?_
              exact zJ hJ7 rfl (by simp only [h28, lb_f, Int64.or_zero, nB_t, nB_f, Bool.not_true, Bool.not_false, Bool.and_true, Bool.true_and, Bool.false_and, Bool.and_false, Bool.or_true, Bool.true_or, Bool.false_or, Bool.or_false, cond_true, cond_false]) rfl
          refine zq_if hc hH (by rfl) (tg := 679) (by rfl) (fun h29 => ?_) (fun h29 => ?_)
          · have h29 : (xT μ 31) = false := nB_z.mp (cm_eq9.mp h29)
            refine z_rcs hc hH 1 (pc' := 680) (lv' := [(12, .int 31), (11, .int ((((0 + (nB (xT μ 27))) + (nB (xT μ 28))) + (nB (xT μ 29))) + (nB (xT μ 30)))), (10, .int 0), (9, .int (nB b9)), (8, .int (nB b8)), (7, .int x7), (6, .int (nB b6)), (5, .int (nB b5)), (3, .int x3), (2, .int x2), (1, .int x1), (4, .int (nB b4)), (0, .ref 50)]) (st' := [.int 0, .int 0]) (μ' := mGP μ g p f) (by rfl) ?_
            exact zJ hJ5 rfl (by simp only [h29, lb_f, Int64.or_zero, nB_t, nB_f, Bool.not_true, Bool.not_false, Bool.and_true, Bool.true_and, Bool.false_and, Bool.and_false, Bool.or_true, Bool.true_or, Bool.false_or, Bool.or_false, cond_true, cond_false]) rfl
          · have h29 : (xT μ 31) = true := nB_n.mp (cn_eq.mp h29)
            refine z_rcs hc hH 2 (pc' := 680) (lv' := [(12, .int 31), (11, .int ((((0 + (nB (xT μ 27))) + (nB (xT μ 28))) + (nB (xT μ 29))) + (nB (xT μ 30)))), (10, .int 0), (9, .int (nB b9)), (8, .int (nB b8)), (7, .int x7), (6, .int (nB b6)), (5, .int (nB b5)), (3, .int x3), (2, .int x2), (1, .int x1), (4, .int (nB b4)), (0, .ref 50)]) (st' := [.int 1, .int 0]) (μ' := mGP μ g p f) (by rfl) ?_
            exact zJ hJ5 rfl (by simp only [h29, lb_f, Int64.or_zero, nB_t, nB_f, Bool.not_true, Bool.not_false, Bool.and_true, Bool.true_and, Bool.false_and, Bool.and_false, Bool.or_true, Bool.true_or, Bool.false_or, Bool.or_false, cond_true, cond_false]) rfl
        refine zq_if hc hH (by rfl) (tg := 701) (by rfl) (fun h30 => ?_) (fun h30 => ?_)
        · have h30 : (xT μ 30) = false := nB_z.mp (cm_eq9.mp h30)
          refine z_rcs hc hH 1 (pc' := 702) (lv' := [(12, .int 30), (11, .int (((0 + (nB (xT μ 27))) + (nB (xT μ 28))) + (nB (xT μ 29)))), (10, .int 0), (9, .int (nB b9)), (8, .int (nB b8)), (7, .int x7), (6, .int (nB b6)), (5, .int (nB b5)), (3, .int x3), (2, .int x2), (1, .int x1), (4, .int (nB b4)), (0, .ref 50)]) (st' := [.int 0, .int (((0 + (nB (xT μ 27))) + (nB (xT μ 28))) + (nB (xT μ 29)))]) (μ' := mGP μ g p f) (by rfl) ?_
          exact zJ hJ4 rfl (by simp only [h30, lb_f, Int64.or_zero, nB_t, nB_f, Bool.not_true, Bool.not_false, Bool.and_true, Bool.true_and, Bool.false_and, Bool.and_false, Bool.or_true, Bool.true_or, Bool.false_or, Bool.or_false, cond_true, cond_false]) rfl
        · have h30 : (xT μ 30) = true := nB_n.mp (cn_eq.mp h30)
          refine z_rcs hc hH 2 (pc' := 702) (lv' := [(12, .int 30), (11, .int (((0 + (nB (xT μ 27))) + (nB (xT μ 28))) + (nB (xT μ 29)))), (10, .int 0), (9, .int (nB b9)), (8, .int (nB b8)), (7, .int x7), (6, .int (nB b6)), (5, .int (nB b5)), (3, .int x3), (2, .int x2), (1, .int x1), (4, .int (nB b4)), (0, .ref 50)]) (st' := [.int 1, .int (((0 + (nB (xT μ 27))) + (nB (xT μ 28))) + (nB (xT μ 29)))]) (μ' := mGP μ g p f) (by rfl) ?_
          exact zJ hJ4 rfl (by simp only [h30, lb_f, Int64.or_zero, nB_t, nB_f, Bool.not_true, Bool.not_false, Bool.and_true, Bool.true_and, Bool.false_and, Bool.and_false, Bool.or_true, Bool.true_or, Bool.false_or, Bool.or_false, cond_true, cond_false]) rfl
      refine zq_if hc hH (by rfl) (tg := 701) (by rfl) (fun h31 => ?_) (fun h31 => ?_)
      · have h31 : (xT μ 29) = false := nB_z.mp (cm_eq9.mp h31)
        refine z_rcs hc hH 1 (pc' := 702) (lv' := [(12, .int 29), (11, .int ((0 + (nB (xT μ 27))) + (nB (xT μ 28)))), (10, .int 0), (9, .int (nB b9)), (8, .int (nB b8)), (7, .int x7), (6, .int (nB b6)), (5, .int (nB b5)), (3, .int x3), (2, .int x2), (1, .int x1), (4, .int (nB b4)), (0, .ref 50)]) (st' := [.int 0, .int ((0 + (nB (xT μ 27))) + (nB (xT μ 28)))]) (μ' := mGP μ g p f) (by rfl) ?_
        exact zJ hJ3 rfl (by simp only [h31, lb_f, Int64.or_zero, nB_t, nB_f, Bool.not_true, Bool.not_false, Bool.and_true, Bool.true_and, Bool.false_and, Bool.and_false, Bool.or_true, Bool.true_or, Bool.false_or, Bool.or_false, cond_true, cond_false]) rfl
      · have h31 : (xT μ 29) = true := nB_n.mp (cn_eq.mp h31)
        refine z_rcs hc hH 2 (pc' := 702) (lv' := [(12, .int 29), (11, .int ((0 + (nB (xT μ 27))) + (nB (xT μ 28)))), (10, .int 0), (9, .int (nB b9)), (8, .int (nB b8)), (7, .int x7), (6, .int (nB b6)), (5, .int (nB b5)), (3, .int x3), (2, .int x2), (1, .int x1), (4, .int (nB b4)), (0, .ref 50)]) (st' := [.int 1, .int ((0 + (nB (xT μ 27))) + (nB (xT μ 28)))]) (μ' := mGP μ g p f) (by rfl) ?_
        exact zJ hJ3 rfl (by simp only [h31, lb_f, Int64.or_zero, nB_t, nB_f, Bool.not_true, Bool.not_false, Bool.and_true, Bool.true_and, Bool.false_and, Bool.and_false, Bool.or_true, Bool.true_or, Bool.false_or, Bool.or_false, cond_true, cond_false]) rfl
    refine zq_if hc hH (by rfl) (tg := 701) (by rfl) (fun h32 => ?_) (fun h32 => ?_)
    · have h32 : (xT μ 28) = false := nB_z.mp (cm_eq9.mp h32)
      refine z_rcs hc hH 1 (pc' := 702) (lv' := [(12, .int 28), (11, .int (0 + (nB (xT μ 27)))), (10, .int 0), (9, .int (nB b9)), (8, .int (nB b8)), (7, .int x7), (6, .int (nB b6)), (5, .int (nB b5)), (3, .int x3), (2, .int x2), (1, .int x1), (4, .int (nB b4)), (0, .ref 50)]) (st' := [.int 0, .int (0 + (nB (xT μ 27)))]) (μ' := mGP μ g p f) (by rfl) ?_
      exact zJ hJ2 rfl (by simp only [h32, lb_f, Int64.or_zero, nB_t, nB_f, Bool.not_true, Bool.not_false, Bool.and_true, Bool.true_and, Bool.false_and, Bool.and_false, Bool.or_true, Bool.true_or, Bool.false_or, Bool.or_false, cond_true, cond_false]) rfl
    · have h32 : (xT μ 28) = true := nB_n.mp (cn_eq.mp h32)
      refine z_rcs hc hH 2 (pc' := 702) (lv' := [(12, .int 28), (11, .int (0 + (nB (xT μ 27)))), (10, .int 0), (9, .int (nB b9)), (8, .int (nB b8)), (7, .int x7), (6, .int (nB b6)), (5, .int (nB b5)), (3, .int x3), (2, .int x2), (1, .int x1), (4, .int (nB b4)), (0, .ref 50)]) (st' := [.int 1, .int (0 + (nB (xT μ 27)))]) (μ' := mGP μ g p f) (by rfl) ?_
      exact zJ hJ2 rfl (by simp only [h32, lb_f, Int64.or_zero, nB_t, nB_f, Bool.not_true, Bool.not_false, Bool.and_true, Bool.true_and, Bool.false_and, Bool.and_false, Bool.or_true, Bool.true_or, Bool.false_or, Bool.or_false, cond_true, cond_false]) rfl
  refine zq_if hc hH (by rfl) (tg := 701) (by rfl) (fun h33 => ?_) (fun h33 => ?_)
  · have h33 : (xT μ 27) = false := nB_z.mp (cm_eq9.mp h33)
    refine z_rcs hc hH 1 (pc' := 702) (lv' := [(12, .int 27), (11, .int 0), (10, .int 0), (9, .int (nB b9)), (8, .int (nB b8)), (7, .int x7), (6, .int (nB b6)), (5, .int (nB b5)), (3, .int x3), (2, .int x2), (1, .int x1), (4, .int (nB b4)), (0, .ref 50)]) (st' := [.int 0, .int 0]) (μ' := mGP μ g p f) (by rfl) ?_
    exact zJ hJ1 rfl (by simp only [h33, lb_f, Int64.or_zero, nB_t, nB_f, Bool.not_true, Bool.not_false, Bool.and_true, Bool.true_and, Bool.false_and, Bool.and_false, Bool.or_true, Bool.true_or, Bool.false_or, Bool.or_false, cond_true, cond_false]) rfl
  · have h33 : (xT μ 27) = true := nB_n.mp (cn_eq.mp h33)
    refine z_rcs hc hH 2 (pc' := 702) (lv' := [(12, .int 27), (11, .int 0), (10, .int 0), (9, .int (nB b9)), (8, .int (nB b8)), (7, .int x7), (6, .int (nB b6)), (5, .int (nB b5)), (3, .int x3), (2, .int x2), (1, .int x1), (4, .int (nB b4)), (0, .ref 50)]) (st' := [.int 1, .int 0]) (μ' := mGP μ g p f) (by rfl) ?_
    exact zJ hJ1 rfl (by simp only [h33, lb_f, Int64.or_zero, nB_t, nB_f, Bool.not_true, Bool.not_false, Bool.and_true, Bool.true_and, Bool.false_and, Bool.and_false, Bool.or_true, Bool.true_or, Bool.false_or, Bool.or_false, cond_true, cond_false]) rfl
theorem fs861 (d' : Nat) (Z : zK) (hd : 4 ≤ d') (μ : zM) (q : Nat) (hq : q ≤ 4) (e4 : μ.1 50 4 = nI q) (s l : Nat → Nat) (hA : AY μ s l) (hco : vp_in (μ.1 50 22) 5) (hc : z_clo z_x0 mi_X7_firstSort (z_C d') Z) (x10 : Int32) (x11 : Int32) (b9 : Bool) (b8 : Bool) (x7 : Int32) (b6 : Bool) (b5 : Bool) (x3 : Int32) (x2 : Int32) (x1 : Int32) (b4 : Bool) (g p : Int64) (f : Int32) (K : Z 0 889 [(12, .int 0), (10, .int x10), (11, .int x11), (9, .int (nB b9)), (8, .int (nB b8)), (7, .int x7), (6, .int (nB b6)), (5, .int (nB b5)), (3, .int x3), (2, .int x2), (1, .int x1), (4, .int (nB b4)), (0, .ref 50)] [] (mGP μ g p (20 + (bif decide ((μ.1 50 11) = 0) then bif b4 then (0 : Int32) else 10 else 0)))) : Z 0 861 [(12, .int 34), (10, .int x10), (11, .int x11), (9, .int (nB b9)), (8, .int (nB b8)), (7, .int x7), (6, .int (nB b6)), (5, .int (nB b5)), (3, .int x3), (2, .int x2), (1, .int x1), (4, .int (nB b4)), (0, .ref 50)] [] (mGP μ g p f) := by
  have hH : zH mi_X7_firstSort zt_X7_firstSort 79 7 14 := hh_X7_firstSort
  refine z_rcs hc hH 4 (pc' := 868) (lv' := [(12, .int 34), (10, .int x10), (11, .int x11), (9, .int (nB b9)), (8, .int (nB b8)), (7, .int x7), (6, .int (nB b6)), (5, .int (nB b5)), (3, .int x3), (2, .int x2), (1, .int x1), (4, .int (nB b4)), (0, .ref 50)]) (st' := [.int (μ.1 50 11), .int 20, .ref 50]) (μ' := mGP μ g p f) (by rfl) ?_
  have hJ1 : Z 0 882 [(12, .int 34), (10, .int x10), (11, .int x11), (9, .int (nB b9)), (8, .int (nB b8)), (7, .int x7), (6, .int (nB b6)), (5, .int (nB b5)), (3, .int x3), (2, .int x2), (1, .int x1), (4, .int (nB b4)), (0, .ref 50)] [.int (bif decide ((μ.1 50 11) = 0) then bif b4 then (0 : Int32) else 10 else 0), .int 20, .ref 50] (mGP μ g p f) := by
    generalize hyy2 : (bif decide ((μ.1 50 11) = 0) then bif b4 then (0 : Int32) else 10 else 0 : Int32) = yy2
    refine z_rcs hc hH 2 (pc' := 886) (lv' := [(12, .int 34), (10, .int x10), (11, .int x11), (9, .int (nB b9)), (8, .int (nB b8)), (7, .int x7), (6, .int (nB b6)), (5, .int (nB b5)), (3, .int x3), (2, .int x2), (1, .int x1), (4, .int (nB b4)), (0, .ref 50)]) (st' := []) (μ' := z_ui (mGP μ g p f) 50 23 (20 + yy2)) (by rfl) ?_
    rw [mGP_f]
    refine z_rcs hc hH 2 (pc' := 889) (lv' := [(12, .int 0), (10, .int x10), (11, .int x11), (9, .int (nB b9)), (8, .int (nB b8)), (7, .int x7), (6, .int (nB b6)), (5, .int (nB b5)), (3, .int x3), (2, .int x2), (1, .int x1), (4, .int (nB b4)), (0, .ref 50)]) (st' := []) (μ' := mGP μ g p (20 + yy2)) (by rfl) ?_
    subst hyy2
    exact K
  refine zq_if hc hH (by rfl) (tg := 881) (by rfl) (fun h3 => ?_) (fun h3 => ?_)
  · have h3 : (decide ((μ.1 50 11) = 0)) = false := decide_eq_false (cm_ne.mp h3)
    refine z_rcs hc hH 1 (pc' := 882) (lv' := [(12, .int 34), (10, .int x10), (11, .int x11), (9, .int (nB b9)), (8, .int (nB b8)), (7, .int x7), (6, .int (nB b6)), (5, .int (nB b5)), (3, .int x3), (2, .int x2), (1, .int x1), (4, .int (nB b4)), (0, .ref 50)]) (st' := [.int 0, .int 20, .ref 50]) (μ' := mGP μ g p f) (by rfl) ?_
    exact zJ hJ1 rfl (by simp only [h3, lb_f, Int64.or_zero, nB_t, nB_f, Bool.not_true, Bool.not_false, Bool.and_true, Bool.true_and, Bool.false_and, Bool.and_false, Bool.or_true, Bool.true_or, Bool.false_or, Bool.or_false, cond_true, cond_false]) rfl
  · have h3 : (decide ((μ.1 50 11) = 0)) = true := decide_eq_true (cn_ne.mp h3)
    refine z_rcs hc hH 1 (pc' := 873) (lv' := [(12, .int 34), (10, .int x10), (11, .int x11), (9, .int (nB b9)), (8, .int (nB b8)), (7, .int x7), (6, .int (nB b6)), (5, .int (nB b5)), (3, .int x3), (2, .int x2), (1, .int x1), (4, .int (nB b4)), (0, .ref 50)]) (st' := [.int (nB b4), .int 20, .ref 50]) (μ' := mGP μ g p f) (by rfl) ?_
    refine zq_if hc hH (by rfl) (tg := 881) (by rfl) (fun h4 => ?_) (fun h4 => ?_)
    · have h4 : (b4) = true := nB_n.mp (cm_ne.mp h4)
      refine z_rcs hc hH 1 (pc' := 882) (lv' := [(12, .int 34), (10, .int x10), (11, .int x11), (9, .int (nB b9)), (8, .int (nB b8)), (7, .int x7), (6, .int (nB b6)), (5, .int (nB b5)), (3, .int x3), (2, .int x2), (1, .int x1), (4, .int (nB b4)), (0, .ref 50)]) (st' := [.int 0, .int 20, .ref 50]) (μ' := mGP μ g p f) (by rfl) ?_
      exact zJ hJ1 rfl (by simp only [h3, h4, lb_f, Int64.or_zero, nB_t, nB_f, Bool.not_true, Bool.not_false, Bool.and_true, Bool.true_and, Bool.false_and, Bool.and_false, Bool.or_true, Bool.true_or, Bool.false_or, Bool.or_false, cond_true, cond_false]) rfl
    · have h4 : (b4) = false := nB_z.mp (cn_ne.mp h4)
      refine z_rcs hc hH 2 (pc' := 882) (lv' := [(12, .int 34), (10, .int x10), (11, .int x11), (9, .int (nB b9)), (8, .int (nB b8)), (7, .int x7), (6, .int (nB b6)), (5, .int (nB b5)), (3, .int x3), (2, .int x2), (1, .int x1), (4, .int (nB b4)), (0, .ref 50)]) (st' := [.int 10, .int 20, .ref 50]) (μ' := mGP μ g p f) (by rfl) ?_
      exact zJ hJ1 rfl (by simp only [h3, h4, lb_f, Int64.or_zero, nB_t, nB_f, Bool.not_true, Bool.not_false, Bool.and_true, Bool.true_and, Bool.false_and, Bool.and_false, Bool.or_true, Bool.true_or, Bool.false_or, Bool.or_false, cond_true, cond_false]) rfl

/-! the game: over of the reference -/
set_option maxRecDepth 8000
/-- but for the reference's scratch cells -/
def SMj (M W : zM) : Prop := ∀ r k, (r < 50 ∨ 58 < r ∨ (r = 50 ∧ (k = 0 ∨ 40 ≤ k))) → W.1 r k = M.1 r k ∧ W.2.1 r k = M.2.1 r k
theorem SM_rf (μ : zM) : SMj μ μ := fun _ _ _ => ⟨rfl, rfl⟩
theorem SM_tr {a b c : zM} (h : SMj a b) (h2 : SMj b c) : SMj a c := fun r k q => ⟨((h2 r k q).1).trans (h r k q).1, ((h2 r k q).2).trans (h r k q).2⟩
theorem SM_ui {a b : zM} (h : SMj a b) {r k : Nat} {x : Int32} : SMj (z_ui a r k x) (z_ui b r k x) := fun r' k' q => ⟨by
  by_cases e : r' = r
  · by_cases e2 : k' = k
    · rw [e, e2, ui_s, ui_s]
    · rw [ui_k e2, ui_k e2]; exact (h r' k' q).1
  · rw [ui_o e, ui_o e]; exact (h r' k' q).1, (h r' k' q).2⟩
def lgM (μ : zM) (s : Nat) (c : Bool) : zM := bif c then z_ui μ 70 s 1 else μ
theorem SM_lg {a b : zM} (h : SMj a b) {s : Nat} {c : Bool} : SMj (lgM a s c) (lgM b s c) := by
  unfold lgM; cases c
  · exact h
  · exact SM_ui h
theorem lgM_o {μ : zM} {s r k : Nat} {c : Bool} (h : r ≠ 70) : (lgM μ s c).1 r k = μ.1 r k := by
  unfold lgM; cases c
  · rfl
  · exact ui_o h
theorem lgM_j {μ : zM} {s r k : Nat} {c : Bool} : (lgM μ s c).2.1 r k = μ.2.1 r k := by unfold lgM; cases c <;> rfl
/-- hands and SETS as before -/
def SE (M W : zM) : Prop := ∀ r k, (r = 60 ∨ r = 62 ∨ r = 63 ∨ r = 64) → W.1 r k = M.1 r k
theorem SE_rf (μ : zM) : SE μ μ := fun _ _ _ => rfl
theorem SE_sm {a b c : zM} (h : SE a b) (h2 : SMj b c) : SE a c := fun r k q => ((h2 r k (by omega)).1).trans (h r k q)
theorem SE_ui {a b : zM} (h : SE a b) {r k : Nat} {x : Int32} (hr : r ≠ 60 ∧ r ≠ 62 ∧ r ≠ 63 ∧ r ≠ 64) : SE a (z_ui b r k x) := fun r' k' q => (ui_o (by omega)).trans (h r' k' q)
theorem a_H_lg {μ : zM} (h : a_H μ) {s : Nat} {c : Bool} : a_H (lgM μ s c) := by
  unfold lgM; cases c
  · exact h
  · exact a_H_ui h (show bI 0 1 1 from ⟨by decide, by decide⟩)
theorem SE_lg {a b : zM} (h : SE a b) {s : Nat} {c : Bool} : SE a (lgM b s c) := fun r' k' q => (lgM_o (by omega)).trans (h r' k' q)
def ovM0 (μ : zM) (c : Nat) (w1 w2 w3 : Int64) : zM := bif decide ((μ.1 50 59) = 0) then lgM (lgM (lgM μ 1 (decide (lg_cmp ((w1 >>> ((nI c).toInt64 &&& 63)) &&& 1) 1 = 0))) 2 (decide (lg_cmp ((w2 >>> ((nI c).toInt64 &&& 63)) &&& 1) 1 = 0))) 3 (decide (lg_cmp ((w3 >>> ((nI c).toInt64 &&& 63)) &&& 1) 1 = 0)) else lgM (lgM (lgM (z_ui (z_ui (z_ui μ 61 0 ((μ.1 61 0) - 1000)) 50 43 ((μ.1 50 43) + 1)) 50 59 0) 1 (decide (lg_cmp ((w1 >>> ((nI c).toInt64 &&& 63)) &&& 1) 1 = 0))) 2 (decide (lg_cmp ((w2 >>> ((nI c).toInt64 &&& 63)) &&& 1) 1 = 0))) 3 (decide (lg_cmp ((w3 >>> ((nI c).toInt64 &&& 63)) &&& 1) 1 = 0))
theorem gm_over0 (d : Nat) (hd : 700 ≤ d) (μ : zM) (hH0 : a_H μ) (c : Nat) (hc49 : μ.1 50 49 = nI c) (ht : μ.1 50 45 = 0) (w1 : Int64) (hw1 : ∀ M, SE μ M → a_H M → ∀ d, 699 ≤ d → z_C d mi_X7_waitsAt [.ref 50, .int 1] M (fun r W => r = some (.long w1) ∧ SMj M W ∧ a_H W)) (w2 : Int64) (hw2 : ∀ M, SE μ M → a_H M → ∀ d, 699 ≤ d → z_C d mi_X7_waitsAt [.ref 50, .int 2] M (fun r W => r = some (.long w2) ∧ SMj M W ∧ a_H W)) (w3 : Int64) (hw3 : ∀ M, SE μ M → a_H M → ∀ d, 699 ≤ d → z_C d mi_X7_waitsAt [.ref 50, .int 3] M (fun r W => r = some (.long w3) ∧ SMj M W ∧ a_H W)) : z_C d mi_X7_over [.ref 50] μ (fun r μ' => r = none ∧ SMj (ovM0 μ c w1 w2 w3) μ') := by
  refine z_C_in (by decide) (by omega) (fun d' Z ed hc hr => ?_)
  have hH : zH mi_X7_over zc_X7_over 79 7 2 := ⟨by rfl, by rfl, by rfl, by rfl⟩
  refine z_rcs hc hH 1 (pc' := 1) (lv' := [(0, .ref 50)]) (st' := [.ref 50]) (μ' := μ) (by rfl) ?_
  refine zq_gfi hc hH (by rfl) (ci := 6) (f := 59) (by rfl) (by decide +kernel) (by rfl) ?_
  refine zq_if hc hH (by rfl) (tg := 37) (by rfl) (fun h1 => ?_) (fun h1 => ?_)
  · have h1 : (decide ((μ.1 50 59) = 0)) = true := decide_eq_true (cm_eq9.mp h1)
    refine z_rcs hc hH 7 (pc' := 46) (lv' := [(1, .int 0), (0, .ref 50)]) (st' := [.ref 50, .int 0]) (μ' := μ) (by rfl) ?_
    refine zq_gfi hc hH (by rfl) (ci := 6) (f := 45) (by rfl) (by decide +kernel) (by rfl) ?_
    rw [ht]
    refine z_rcs hc hH 8 (pc' := 46) (lv' := [(1, .int 1), (0, .ref 50)]) (st' := [.ref 50, .int 1]) (μ' := μ) (by rfl) ?_
    refine zq_gfi hc hH (by rfl) (ci := 6) (f := 45) (by rfl) (by decide +kernel) (by rfl) ?_
    rw [ht]
    refine z_rcs hc hH 3 (pc' := 54) (lv' := [(1, .int 1), (0, .ref 50)]) (st' := [.int 1, .ref 50]) (μ' := μ) (by rfl) ?_
    refine zq_call hc (by rfl) (hw1 _ (SE_rf _) (hH0) d' (by omega)) (by decide +kernel) (fun r9 W1 hq => ?_)
    obtain ⟨rfl, hO1, hA1⟩ := hq
    show Z 0 57 [(1, .int 1), (0, .ref 50)] [.long w1] W1
    refine z_rcs hc hH 1 (pc' := 58) (lv' := [(1, .int 1), (0, .ref 50)]) (st' := [.ref 50, .long w1]) (μ' := W1) (by rfl) ?_
    refine zq_gfi hc hH (by rfl) (ci := 6) (f := 49) (by rfl) (by decide +kernel) (by rfl) ?_
    rw [(hO1 _ _ (by omega)).1]
    rw [hc49]
    refine z_rcs hc hH 5 (pc' := 66) (lv' := [(1, .int 1), (0, .ref 50)]) (st' := [.int (lg_cmp ((w1 >>> ((nI c).toInt64 &&& 63)) &&& 1) 1)]) (μ' := W1) (by rfl) ?_
    have hJ2 : Z 0 76 [(1, .int 1), (0, .ref 50)] [] (lgM W1 1 (decide (lg_cmp ((w1 >>> ((nI c).toInt64 &&& 63)) &&& 1) 1 = 0))) := by
      refine z_rcs hc hH 7 (pc' := 46) (lv' := [(1, .int 2), (0, .ref 50)]) (st' := [.ref 50, .int 2]) (μ' := lgM W1 1 (decide (lg_cmp ((w1 >>> ((nI c).toInt64 &&& 63)) &&& 1) 1 = 0))) (by rfl) ?_
      refine zq_gfi hc hH (by rfl) (ci := 6) (f := 45) (by rfl) (by decide +kernel) (by rfl) ?_
      rw [lgM_o (by omega), (hO1 _ _ (by omega)).1]
      rw [ht]
      refine z_rcs hc hH 3 (pc' := 54) (lv' := [(1, .int 2), (0, .ref 50)]) (st' := [.int 2, .ref 50]) (μ' := lgM W1 1 (decide (lg_cmp ((w1 >>> ((nI c).toInt64 &&& 63)) &&& 1) 1 = 0))) (by rfl) ?_
      refine zq_call hc (by rfl) (hw2 _ (SE_lg (SE_sm (SE_rf _) hO1)) (a_H_lg (hA1)) d' (by omega)) (by decide +kernel) (fun r9 W2 hq => ?_)
      obtain ⟨rfl, hO2, hA2⟩ := hq
      show Z 0 57 [(1, .int 2), (0, .ref 50)] [.long w2] W2
      refine z_rcs hc hH 1 (pc' := 58) (lv' := [(1, .int 2), (0, .ref 50)]) (st' := [.ref 50, .long w2]) (μ' := W2) (by rfl) ?_
      refine zq_gfi hc hH (by rfl) (ci := 6) (f := 49) (by rfl) (by decide +kernel) (by rfl) ?_
      rw [(hO2 _ _ (by omega)).1, lgM_o (by omega), (hO1 _ _ (by omega)).1]
      rw [hc49]
      refine z_rcs hc hH 5 (pc' := 66) (lv' := [(1, .int 2), (0, .ref 50)]) (st' := [.int (lg_cmp ((w2 >>> ((nI c).toInt64 &&& 63)) &&& 1) 1)]) (μ' := W2) (by rfl) ?_
      have hJ3 : Z 0 76 [(1, .int 2), (0, .ref 50)] [] (lgM W2 2 (decide (lg_cmp ((w2 >>> ((nI c).toInt64 &&& 63)) &&& 1) 1 = 0))) := by
        refine z_rcs hc hH 7 (pc' := 46) (lv' := [(1, .int 3), (0, .ref 50)]) (st' := [.ref 50, .int 3]) (μ' := lgM W2 2 (decide (lg_cmp ((w2 >>> ((nI c).toInt64 &&& 63)) &&& 1) 1 = 0))) (by rfl) ?_
        refine zq_gfi hc hH (by rfl) (ci := 6) (f := 45) (by rfl) (by decide +kernel) (by rfl) ?_
        rw [lgM_o (by omega), (hO2 _ _ (by omega)).1, lgM_o (by omega), (hO1 _ _ (by omega)).1]
        rw [ht]
        refine z_rcs hc hH 3 (pc' := 54) (lv' := [(1, .int 3), (0, .ref 50)]) (st' := [.int 3, .ref 50]) (μ' := lgM W2 2 (decide (lg_cmp ((w2 >>> ((nI c).toInt64 &&& 63)) &&& 1) 1 = 0))) (by rfl) ?_
        refine zq_call hc (by rfl) (hw3 _ (SE_lg (SE_sm (SE_lg (SE_sm (SE_rf _) hO1)) hO2)) (a_H_lg (hA2)) d' (by omega)) (by decide +kernel) (fun r9 W3 hq => ?_)
        obtain ⟨rfl, hO3, hA3⟩ := hq
        show Z 0 57 [(1, .int 3), (0, .ref 50)] [.long w3] W3
        refine z_rcs hc hH 1 (pc' := 58) (lv' := [(1, .int 3), (0, .ref 50)]) (st' := [.ref 50, .long w3]) (μ' := W3) (by rfl) ?_
        refine zq_gfi hc hH (by rfl) (ci := 6) (f := 49) (by rfl) (by decide +kernel) (by rfl) ?_
        rw [(hO3 _ _ (by omega)).1, lgM_o (by omega), (hO2 _ _ (by omega)).1, lgM_o (by omega), (hO1 _ _ (by omega)).1]
        rw [hc49]
        refine z_rcs hc hH 5 (pc' := 66) (lv' := [(1, .int 3), (0, .ref 50)]) (st' := [.int (lg_cmp ((w3 >>> ((nI c).toInt64 &&& 63)) &&& 1) 1)]) (μ' := W3) (by rfl) ?_
        have hJ4 : Z 0 76 [(1, .int 3), (0, .ref 50)] [] (lgM W3 3 (decide (lg_cmp ((w3 >>> ((nI c).toInt64 &&& 63)) &&& 1) 1 = 0))) := by
          refine z_rcs hc hH 5 (pc' := 82) (lv' := [(1, .int 4), (0, .ref 50)]) (st' := []) (μ' := lgM W3 3 (decide (lg_cmp ((w3 >>> ((nI c).toInt64 &&& 63)) &&& 1) 1 = 0))) (by rfl) ?_
          exact hr 0 82 _ _ _ none (by decide +kernel) (by rfl) (⟨rfl, by unfold ovM0; rw [h1, cond_true]; exact SM_lg (SM_tr (SM_lg (SM_tr (SM_lg (SM_tr (SM_rf _) hO1)) hO2)) hO3)⟩)
        refine zq_if hc hH (by rfl) (tg := 76) (by rfl) (fun h5 => ?_) (fun h5 => ?_)
        · have h5 : (decide ((lg_cmp ((w3 >>> ((nI c).toInt64 &&& 63)) &&& 1) 1) = 0)) = false := decide_eq_false (cm_ne.mp h5)
          exact zJ hJ4 rfl rfl (by unfold lgM; rw [h5, cond_false])
        · have h5 : (decide ((lg_cmp ((w3 >>> ((nI c).toInt64 &&& 63)) &&& 1) 1) = 0)) = true := decide_eq_true (cn_ne.mp h5)
          refine z_rcs hc hH 1 (pc' := 70) (lv' := [(1, .int 3), (0, .ref 50)]) (st' := [.ref 50]) (μ' := W3) (by rfl) ?_
          refine zq_gfr hc hH (by rfl) (ci := 6) (f := 38) (q := 70) (by rfl) (by decide +kernel) (by rfl) (by decide +kernel) ?_
          refine z_rcs hc hH 2 (pc' := 75) (lv' := [(1, .int 3), (0, .ref 50)]) (st' := [.int 1, .int 3, .ref 70]) (μ' := W3) (by rfl) ?_
          refine zq_bast hc hH (by rfl) 4 (by decide +kernel) (show vp_in (nI 3) 4 from vp_in_nI (by decide) (by decide)) (by decide) ?_
          rw [show (3 : Int32).toNatClampNeg = 3 from rfl]
          show Z 0 76 [(1, .int 3), (0, .ref 50)] [] (z_ui W3 70 3 1)
          exact zJ hJ4 rfl rfl (by unfold lgM; rw [h5, cond_true])
      refine zq_if hc hH (by rfl) (tg := 76) (by rfl) (fun h6 => ?_) (fun h6 => ?_)
      · have h6 : (decide ((lg_cmp ((w2 >>> ((nI c).toInt64 &&& 63)) &&& 1) 1) = 0)) = false := decide_eq_false (cm_ne.mp h6)
        exact zJ hJ3 rfl rfl (by unfold lgM; rw [h6, cond_false])
      · have h6 : (decide ((lg_cmp ((w2 >>> ((nI c).toInt64 &&& 63)) &&& 1) 1) = 0)) = true := decide_eq_true (cn_ne.mp h6)
        refine z_rcs hc hH 1 (pc' := 70) (lv' := [(1, .int 2), (0, .ref 50)]) (st' := [.ref 50]) (μ' := W2) (by rfl) ?_
        refine zq_gfr hc hH (by rfl) (ci := 6) (f := 38) (q := 70) (by rfl) (by decide +kernel) (by rfl) (by decide +kernel) ?_
        refine z_rcs hc hH 2 (pc' := 75) (lv' := [(1, .int 2), (0, .ref 50)]) (st' := [.int 1, .int 2, .ref 70]) (μ' := W2) (by rfl) ?_
        refine zq_bast hc hH (by rfl) 4 (by decide +kernel) (show vp_in (nI 2) 4 from vp_in_nI (by decide) (by decide)) (by decide) ?_
        rw [show (2 : Int32).toNatClampNeg = 2 from rfl]
        show Z 0 76 [(1, .int 2), (0, .ref 50)] [] (z_ui W2 70 2 1)
        exact zJ hJ3 rfl rfl (by unfold lgM; rw [h6, cond_true])
    refine zq_if hc hH (by rfl) (tg := 76) (by rfl) (fun h7 => ?_) (fun h7 => ?_)
    · have h7 : (decide ((lg_cmp ((w1 >>> ((nI c).toInt64 &&& 63)) &&& 1) 1) = 0)) = false := decide_eq_false (cm_ne.mp h7)
      exact zJ hJ2 rfl rfl (by unfold lgM; rw [h7, cond_false])
    · have h7 : (decide ((lg_cmp ((w1 >>> ((nI c).toInt64 &&& 63)) &&& 1) 1) = 0)) = true := decide_eq_true (cn_ne.mp h7)
      refine z_rcs hc hH 1 (pc' := 70) (lv' := [(1, .int 1), (0, .ref 50)]) (st' := [.ref 50]) (μ' := W1) (by rfl) ?_
      refine zq_gfr hc hH (by rfl) (ci := 6) (f := 38) (q := 70) (by rfl) (by decide +kernel) (by rfl) (by decide +kernel) ?_
      refine z_rcs hc hH 2 (pc' := 75) (lv' := [(1, .int 1), (0, .ref 50)]) (st' := [.int 1, .int 1, .ref 70]) (μ' := W1) (by rfl) ?_
      refine zq_bast hc hH (by rfl) 4 (by decide +kernel) (show vp_in (nI 1) 4 from vp_in_nI (by decide) (by decide)) (by decide) ?_
      rw [show (1 : Int32).toNatClampNeg = 1 from rfl]
      show Z 0 76 [(1, .int 1), (0, .ref 50)] [] (z_ui W1 70 1 1)
      exact zJ hJ2 rfl rfl (by unfold lgM; rw [h7, cond_true])
  · have h1 : (decide ((μ.1 50 59) = 0)) = false := decide_eq_false (cn_eq.mp h1)
    refine z_rcs hc hH 1 (pc' := 8) (lv' := [(0, .ref 50)]) (st' := [.ref 50]) (μ' := μ) (by rfl) ?_
    refine zq_gfr hc hH (by rfl) (ci := 6) (f := 29) (q := 61) (by rfl) (by decide +kernel) (by rfl) (by decide +kernel) ?_
    refine z_rcs hc hH 1 (pc' := 12) (lv' := [(0, .ref 50)]) (st' := [.ref 50, .ref 61]) (μ' := μ) (by rfl) ?_
    refine zq_gfi hc hH (by rfl) (ci := 6) (f := 45) (by rfl) (by decide +kernel) (by rfl) ?_
    rw [ht]
    refine z_rcs hc hH 1 (pc' := 16) (lv' := [(0, .ref 50)]) (st' := [.int 0, .ref 61, .int 0, .ref 61]) (μ' := μ) (by rfl) ?_
    refine zq_iald hc hH (by rfl) 4 (oka_i (by decide +kernel)) (show vp_in (nI 0) 4 from vp_in_nI (by decide) (by decide)) ?_
    rw [show (0 : Int32).toNatClampNeg = 0 from rfl]
    refine z_rcs hc hH 2 (pc' := 21) (lv' := [(0, .ref 50)]) (st' := [.int ((μ.1 61 0) - 1000), .int 0, .ref 61]) (μ' := μ) (by rfl) ?_
    refine zq_iast hc hH (by rfl) 4 (oka_i (by decide +kernel)).2 (show vp_in (nI 0) 4 from vp_in_nI (by decide) (by decide)) ?_
    rw [show (0 : Int32).toNatClampNeg = 0 from rfl]
    show Z 0 22 [(0, .ref 50)] [] (z_ui μ 61 0 ((μ.1 61 0) - 1000))
    refine z_rcs hc hH 2 (pc' := 24) (lv' := [(0, .ref 50)]) (st' := [.ref 50, .ref 50]) (μ' := z_ui μ 61 0 ((μ.1 61 0) - 1000)) (by rfl) ?_
    refine zq_gfi hc hH (by rfl) (ci := 6) (f := 43) (by rfl) (by decide +kernel) (by rfl) ?_
    rw [ui_o (by omega)]
    refine z_rcs hc hH 2 (pc' := 29) (lv' := [(0, .ref 50)]) (st' := [.int ((μ.1 50 43) + 1), .ref 50]) (μ' := z_ui μ 61 0 ((μ.1 61 0) - 1000)) (by rfl) ?_
    refine zq_pfi hc hH (by rfl) (ci := 6) (f := 43) (by rfl) (by decide +kernel) (by rfl) ?_
    show Z 0 32 [(0, .ref 50)] [] (z_ui (z_ui μ 61 0 ((μ.1 61 0) - 1000)) 50 43 ((μ.1 50 43) + 1))
    refine z_rcs hc hH 2 (pc' := 34) (lv' := [(0, .ref 50)]) (st' := [.int 0, .ref 50]) (μ' := z_ui (z_ui μ 61 0 ((μ.1 61 0) - 1000)) 50 43 ((μ.1 50 43) + 1)) (by rfl) ?_
    refine zq_pfb hc hH (by rfl) (ci := 6) (f := 59) (by rfl) (by decide +kernel) (by rfl) (by decide) ?_
    show Z 0 37 [(0, .ref 50)] [] (z_ui (z_ui (z_ui μ 61 0 ((μ.1 61 0) - 1000)) 50 43 ((μ.1 50 43) + 1)) 50 59 0)
    refine z_rcs hc hH 7 (pc' := 46) (lv' := [(1, .int 0), (0, .ref 50)]) (st' := [.ref 50, .int 0]) (μ' := z_ui (z_ui (z_ui μ 61 0 ((μ.1 61 0) - 1000)) 50 43 ((μ.1 50 43) + 1)) 50 59 0) (by rfl) ?_
    refine zq_gfi hc hH (by rfl) (ci := 6) (f := 45) (by rfl) (by decide +kernel) (by rfl) ?_
    rw [ui_k (by omega), ui_k (by omega), ui_o (by omega)]
    rw [ht]
    refine z_rcs hc hH 8 (pc' := 46) (lv' := [(1, .int 1), (0, .ref 50)]) (st' := [.ref 50, .int 1]) (μ' := z_ui (z_ui (z_ui μ 61 0 ((μ.1 61 0) - 1000)) 50 43 ((μ.1 50 43) + 1)) 50 59 0) (by rfl) ?_
    refine zq_gfi hc hH (by rfl) (ci := 6) (f := 45) (by rfl) (by decide +kernel) (by rfl) ?_
    rw [ui_k (by omega), ui_k (by omega), ui_o (by omega)]
    rw [ht]
    refine z_rcs hc hH 3 (pc' := 54) (lv' := [(1, .int 1), (0, .ref 50)]) (st' := [.int 1, .ref 50]) (μ' := z_ui (z_ui (z_ui μ 61 0 ((μ.1 61 0) - 1000)) 50 43 ((μ.1 50 43) + 1)) 50 59 0) (by rfl) ?_
    refine zq_call hc (by rfl) (hw1 _ (SE_ui (SE_ui (SE_ui (SE_rf _) (by omega)) (by omega)) (by omega)) (a_H_ui (r := 50) (k := 59) (a_H_ui (r := 50) (k := 43) (a_H_ui (r := 61) (k := 0) (hH0) (bI_top _)) (bI_top _)) ⟨by decide, by decide⟩) d' (by omega)) (by decide +kernel) (fun r9 W1 hq => ?_)
    obtain ⟨rfl, hO1, hA1⟩ := hq
    show Z 0 57 [(1, .int 1), (0, .ref 50)] [.long w1] W1
    refine z_rcs hc hH 1 (pc' := 58) (lv' := [(1, .int 1), (0, .ref 50)]) (st' := [.ref 50, .long w1]) (μ' := W1) (by rfl) ?_
    refine zq_gfi hc hH (by rfl) (ci := 6) (f := 49) (by rfl) (by decide +kernel) (by rfl) ?_
    rw [(hO1 _ _ (by omega)).1, ui_k (by omega), ui_k (by omega), ui_o (by omega)]
    rw [hc49]
    refine z_rcs hc hH 5 (pc' := 66) (lv' := [(1, .int 1), (0, .ref 50)]) (st' := [.int (lg_cmp ((w1 >>> ((nI c).toInt64 &&& 63)) &&& 1) 1)]) (μ' := W1) (by rfl) ?_
    have hJ8 : Z 0 76 [(1, .int 1), (0, .ref 50)] [] (lgM W1 1 (decide (lg_cmp ((w1 >>> ((nI c).toInt64 &&& 63)) &&& 1) 1 = 0))) := by
      refine z_rcs hc hH 7 (pc' := 46) (lv' := [(1, .int 2), (0, .ref 50)]) (st' := [.ref 50, .int 2]) (μ' := lgM W1 1 (decide (lg_cmp ((w1 >>> ((nI c).toInt64 &&& 63)) &&& 1) 1 = 0))) (by rfl) ?_
      refine zq_gfi hc hH (by rfl) (ci := 6) (f := 45) (by rfl) (by decide +kernel) (by rfl) ?_
      rw [lgM_o (by omega), (hO1 _ _ (by omega)).1, ui_k (by omega), ui_k (by omega), ui_o (by omega)]
      rw [ht]
      refine z_rcs hc hH 3 (pc' := 54) (lv' := [(1, .int 2), (0, .ref 50)]) (st' := [.int 2, .ref 50]) (μ' := lgM W1 1 (decide (lg_cmp ((w1 >>> ((nI c).toInt64 &&& 63)) &&& 1) 1 = 0))) (by rfl) ?_
      refine zq_call hc (by rfl) (hw2 _ (SE_lg (SE_sm (SE_ui (SE_ui (SE_ui (SE_rf _) (by omega)) (by omega)) (by omega)) hO1)) (a_H_lg (hA1)) d' (by omega)) (by decide +kernel) (fun r9 W2 hq => ?_)
      obtain ⟨rfl, hO2, hA2⟩ := hq
      show Z 0 57 [(1, .int 2), (0, .ref 50)] [.long w2] W2
      refine z_rcs hc hH 1 (pc' := 58) (lv' := [(1, .int 2), (0, .ref 50)]) (st' := [.ref 50, .long w2]) (μ' := W2) (by rfl) ?_
      refine zq_gfi hc hH (by rfl) (ci := 6) (f := 49) (by rfl) (by decide +kernel) (by rfl) ?_
      rw [(hO2 _ _ (by omega)).1, lgM_o (by omega), (hO1 _ _ (by omega)).1, ui_k (by omega), ui_k (by omega), ui_o (by omega)]
      rw [hc49]
      refine z_rcs hc hH 5 (pc' := 66) (lv' := [(1, .int 2), (0, .ref 50)]) (st' := [.int (lg_cmp ((w2 >>> ((nI c).toInt64 &&& 63)) &&& 1) 1)]) (μ' := W2) (by rfl) ?_
      have hJ9 : Z 0 76 [(1, .int 2), (0, .ref 50)] [] (lgM W2 2 (decide (lg_cmp ((w2 >>> ((nI c).toInt64 &&& 63)) &&& 1) 1 = 0))) := by
        refine z_rcs hc hH 7 (pc' := 46) (lv' := [(1, .int 3), (0, .ref 50)]) (st' := [.ref 50, .int 3]) (μ' := lgM W2 2 (decide (lg_cmp ((w2 >>> ((nI c).toInt64 &&& 63)) &&& 1) 1 = 0))) (by rfl) ?_
        refine zq_gfi hc hH (by rfl) (ci := 6) (f := 45) (by rfl) (by decide +kernel) (by rfl) ?_
        rw [lgM_o (by omega), (hO2 _ _ (by omega)).1, lgM_o (by omega), (hO1 _ _ (by omega)).1, ui_k (by omega), ui_k (by omega), ui_o (by omega)]
        rw [ht]
        refine z_rcs hc hH 3 (pc' := 54) (lv' := [(1, .int 3), (0, .ref 50)]) (st' := [.int 3, .ref 50]) (μ' := lgM W2 2 (decide (lg_cmp ((w2 >>> ((nI c).toInt64 &&& 63)) &&& 1) 1 = 0))) (by rfl) ?_
        refine zq_call hc (by rfl) (hw3 _ (SE_lg (SE_sm (SE_lg (SE_sm (SE_ui (SE_ui (SE_ui (SE_rf _) (by omega)) (by omega)) (by omega)) hO1)) hO2)) (a_H_lg (hA2)) d' (by omega)) (by decide +kernel) (fun r9 W3 hq => ?_)
        obtain ⟨rfl, hO3, hA3⟩ := hq
        show Z 0 57 [(1, .int 3), (0, .ref 50)] [.long w3] W3
        refine z_rcs hc hH 1 (pc' := 58) (lv' := [(1, .int 3), (0, .ref 50)]) (st' := [.ref 50, .long w3]) (μ' := W3) (by rfl) ?_
        refine zq_gfi hc hH (by rfl) (ci := 6) (f := 49) (by rfl) (by decide +kernel) (by rfl) ?_
        rw [(hO3 _ _ (by omega)).1, lgM_o (by omega), (hO2 _ _ (by omega)).1, lgM_o (by omega), (hO1 _ _ (by omega)).1, ui_k (by omega), ui_k (by omega), ui_o (by omega)]
        rw [hc49]
        refine z_rcs hc hH 5 (pc' := 66) (lv' := [(1, .int 3), (0, .ref 50)]) (st' := [.int (lg_cmp ((w3 >>> ((nI c).toInt64 &&& 63)) &&& 1) 1)]) (μ' := W3) (by rfl) ?_
        have hJ10 : Z 0 76 [(1, .int 3), (0, .ref 50)] [] (lgM W3 3 (decide (lg_cmp ((w3 >>> ((nI c).toInt64 &&& 63)) &&& 1) 1 = 0))) := by
          refine z_rcs hc hH 5 (pc' := 82) (lv' := [(1, .int 4), (0, .ref 50)]) (st' := []) (μ' := lgM W3 3 (decide (lg_cmp ((w3 >>> ((nI c).toInt64 &&& 63)) &&& 1) 1 = 0))) (by rfl) ?_
          exact hr 0 82 _ _ _ none (by decide +kernel) (by rfl) (⟨rfl, by unfold ovM0; rw [h1, cond_false]; exact SM_lg (SM_tr (SM_lg (SM_tr (SM_lg (SM_tr (SM_ui (SM_ui (SM_ui (SM_rf _)))) hO1)) hO2)) hO3)⟩)
        refine zq_if hc hH (by rfl) (tg := 76) (by rfl) (fun h11 => ?_) (fun h11 => ?_)
        · have h11 : (decide ((lg_cmp ((w3 >>> ((nI c).toInt64 &&& 63)) &&& 1) 1) = 0)) = false := decide_eq_false (cm_ne.mp h11)
          exact zJ hJ10 rfl rfl (by unfold lgM; rw [h11, cond_false])
        · have h11 : (decide ((lg_cmp ((w3 >>> ((nI c).toInt64 &&& 63)) &&& 1) 1) = 0)) = true := decide_eq_true (cn_ne.mp h11)
          refine z_rcs hc hH 1 (pc' := 70) (lv' := [(1, .int 3), (0, .ref 50)]) (st' := [.ref 50]) (μ' := W3) (by rfl) ?_
          refine zq_gfr hc hH (by rfl) (ci := 6) (f := 38) (q := 70) (by rfl) (by decide +kernel) (by rfl) (by decide +kernel) ?_
          refine z_rcs hc hH 2 (pc' := 75) (lv' := [(1, .int 3), (0, .ref 50)]) (st' := [.int 1, .int 3, .ref 70]) (μ' := W3) (by rfl) ?_
          refine zq_bast hc hH (by rfl) 4 (by decide +kernel) (show vp_in (nI 3) 4 from vp_in_nI (by decide) (by decide)) (by decide) ?_
          rw [show (3 : Int32).toNatClampNeg = 3 from rfl]
          show Z 0 76 [(1, .int 3), (0, .ref 50)] [] (z_ui W3 70 3 1)
          exact zJ hJ10 rfl rfl (by unfold lgM; rw [h11, cond_true])
      refine zq_if hc hH (by rfl) (tg := 76) (by rfl) (fun h12 => ?_) (fun h12 => ?_)
      · have h12 : (decide ((lg_cmp ((w2 >>> ((nI c).toInt64 &&& 63)) &&& 1) 1) = 0)) = false := decide_eq_false (cm_ne.mp h12)
        exact zJ hJ9 rfl rfl (by unfold lgM; rw [h12, cond_false])
      · have h12 : (decide ((lg_cmp ((w2 >>> ((nI c).toInt64 &&& 63)) &&& 1) 1) = 0)) = true := decide_eq_true (cn_ne.mp h12)
        refine z_rcs hc hH 1 (pc' := 70) (lv' := [(1, .int 2), (0, .ref 50)]) (st' := [.ref 50]) (μ' := W2) (by rfl) ?_
        refine zq_gfr hc hH (by rfl) (ci := 6) (f := 38) (q := 70) (by rfl) (by decide +kernel) (by rfl) (by decide +kernel) ?_
        refine z_rcs hc hH 2 (pc' := 75) (lv' := [(1, .int 2), (0, .ref 50)]) (st' := [.int 1, .int 2, .ref 70]) (μ' := W2) (by rfl) ?_
        refine zq_bast hc hH (by rfl) 4 (by decide +kernel) (show vp_in (nI 2) 4 from vp_in_nI (by decide) (by decide)) (by decide) ?_
        rw [show (2 : Int32).toNatClampNeg = 2 from rfl]
        show Z 0 76 [(1, .int 2), (0, .ref 50)] [] (z_ui W2 70 2 1)
        exact zJ hJ9 rfl rfl (by unfold lgM; rw [h12, cond_true])
    refine zq_if hc hH (by rfl) (tg := 76) (by rfl) (fun h13 => ?_) (fun h13 => ?_)
    · have h13 : (decide ((lg_cmp ((w1 >>> ((nI c).toInt64 &&& 63)) &&& 1) 1) = 0)) = false := decide_eq_false (cm_ne.mp h13)
      exact zJ hJ8 rfl rfl (by unfold lgM; rw [h13, cond_false])
    · have h13 : (decide ((lg_cmp ((w1 >>> ((nI c).toInt64 &&& 63)) &&& 1) 1) = 0)) = true := decide_eq_true (cn_ne.mp h13)
      refine z_rcs hc hH 1 (pc' := 70) (lv' := [(1, .int 1), (0, .ref 50)]) (st' := [.ref 50]) (μ' := W1) (by rfl) ?_
      refine zq_gfr hc hH (by rfl) (ci := 6) (f := 38) (q := 70) (by rfl) (by decide +kernel) (by rfl) (by decide +kernel) ?_
      refine z_rcs hc hH 2 (pc' := 75) (lv' := [(1, .int 1), (0, .ref 50)]) (st' := [.int 1, .int 1, .ref 70]) (μ' := W1) (by rfl) ?_
      refine zq_bast hc hH (by rfl) 4 (by decide +kernel) (show vp_in (nI 1) 4 from vp_in_nI (by decide) (by decide)) (by decide) ?_
      rw [show (1 : Int32).toNatClampNeg = 1 from rfl]
      show Z 0 76 [(1, .int 1), (0, .ref 50)] [] (z_ui W1 70 1 1)
      exact zJ hJ8 rfl rfl (by unfold lgM; rw [h13, cond_true])
def ovM1 (μ : zM) (c : Nat) (w0 w2 w3 : Int64) : zM := bif decide ((μ.1 50 59) = 0) then lgM (lgM (lgM μ 0 (decide (lg_cmp ((w0 >>> ((nI c).toInt64 &&& 63)) &&& 1) 1 = 0))) 2 (decide (lg_cmp ((w2 >>> ((nI c).toInt64 &&& 63)) &&& 1) 1 = 0))) 3 (decide (lg_cmp ((w3 >>> ((nI c).toInt64 &&& 63)) &&& 1) 1 = 0)) else lgM (lgM (lgM (z_ui (z_ui (z_ui μ 61 1 ((μ.1 61 1) - 1000)) 50 43 ((μ.1 50 43) + 1)) 50 59 0) 0 (decide (lg_cmp ((w0 >>> ((nI c).toInt64 &&& 63)) &&& 1) 1 = 0))) 2 (decide (lg_cmp ((w2 >>> ((nI c).toInt64 &&& 63)) &&& 1) 1 = 0))) 3 (decide (lg_cmp ((w3 >>> ((nI c).toInt64 &&& 63)) &&& 1) 1 = 0))
theorem gm_over1 (d : Nat) (hd : 700 ≤ d) (μ : zM) (hH0 : a_H μ) (c : Nat) (hc49 : μ.1 50 49 = nI c) (ht : μ.1 50 45 = 1) (w0 : Int64) (hw0 : ∀ M, SE μ M → a_H M → ∀ d, 699 ≤ d → z_C d mi_X7_waitsAt [.ref 50, .int 0] M (fun r W => r = some (.long w0) ∧ SMj M W ∧ a_H W)) (w2 : Int64) (hw2 : ∀ M, SE μ M → a_H M → ∀ d, 699 ≤ d → z_C d mi_X7_waitsAt [.ref 50, .int 2] M (fun r W => r = some (.long w2) ∧ SMj M W ∧ a_H W)) (w3 : Int64) (hw3 : ∀ M, SE μ M → a_H M → ∀ d, 699 ≤ d → z_C d mi_X7_waitsAt [.ref 50, .int 3] M (fun r W => r = some (.long w3) ∧ SMj M W ∧ a_H W)) : z_C d mi_X7_over [.ref 50] μ (fun r μ' => r = none ∧ SMj (ovM1 μ c w0 w2 w3) μ') := by
  refine z_C_in (by decide) (by omega) (fun d' Z ed hc hr => ?_)
  have hH : zH mi_X7_over zc_X7_over 79 7 2 := ⟨by rfl, by rfl, by rfl, by rfl⟩
  refine z_rcs hc hH 1 (pc' := 1) (lv' := [(0, .ref 50)]) (st' := [.ref 50]) (μ' := μ) (by rfl) ?_
  refine zq_gfi hc hH (by rfl) (ci := 6) (f := 59) (by rfl) (by decide +kernel) (by rfl) ?_
  refine zq_if hc hH (by rfl) (tg := 37) (by rfl) (fun h1 => ?_) (fun h1 => ?_)
  · have h1 : (decide ((μ.1 50 59) = 0)) = true := decide_eq_true (cm_eq9.mp h1)
    refine z_rcs hc hH 7 (pc' := 46) (lv' := [(1, .int 0), (0, .ref 50)]) (st' := [.ref 50, .int 0]) (μ' := μ) (by rfl) ?_
    refine zq_gfi hc hH (by rfl) (ci := 6) (f := 45) (by rfl) (by decide +kernel) (by rfl) ?_
    rw [ht]
    refine z_rcs hc hH 3 (pc' := 54) (lv' := [(1, .int 0), (0, .ref 50)]) (st' := [.int 0, .ref 50]) (μ' := μ) (by rfl) ?_
    refine zq_call hc (by rfl) (hw0 _ (SE_rf _) (hH0) d' (by omega)) (by decide +kernel) (fun r9 W0 hq => ?_)
    obtain ⟨rfl, hO0, hA0⟩ := hq
    show Z 0 57 [(1, .int 0), (0, .ref 50)] [.long w0] W0
    refine z_rcs hc hH 1 (pc' := 58) (lv' := [(1, .int 0), (0, .ref 50)]) (st' := [.ref 50, .long w0]) (μ' := W0) (by rfl) ?_
    refine zq_gfi hc hH (by rfl) (ci := 6) (f := 49) (by rfl) (by decide +kernel) (by rfl) ?_
    rw [(hO0 _ _ (by omega)).1]
    rw [hc49]
    refine z_rcs hc hH 5 (pc' := 66) (lv' := [(1, .int 0), (0, .ref 50)]) (st' := [.int (lg_cmp ((w0 >>> ((nI c).toInt64 &&& 63)) &&& 1) 1)]) (μ' := W0) (by rfl) ?_
    have hJ2 : Z 0 76 [(1, .int 0), (0, .ref 50)] [] (lgM W0 0 (decide (lg_cmp ((w0 >>> ((nI c).toInt64 &&& 63)) &&& 1) 1 = 0))) := by
      refine z_rcs hc hH 7 (pc' := 46) (lv' := [(1, .int 1), (0, .ref 50)]) (st' := [.ref 50, .int 1]) (μ' := lgM W0 0 (decide (lg_cmp ((w0 >>> ((nI c).toInt64 &&& 63)) &&& 1) 1 = 0))) (by rfl) ?_
      refine zq_gfi hc hH (by rfl) (ci := 6) (f := 45) (by rfl) (by decide +kernel) (by rfl) ?_
      rw [lgM_o (by omega), (hO0 _ _ (by omega)).1]
      rw [ht]
      refine z_rcs hc hH 8 (pc' := 46) (lv' := [(1, .int 2), (0, .ref 50)]) (st' := [.ref 50, .int 2]) (μ' := lgM W0 0 (decide (lg_cmp ((w0 >>> ((nI c).toInt64 &&& 63)) &&& 1) 1 = 0))) (by rfl) ?_
      refine zq_gfi hc hH (by rfl) (ci := 6) (f := 45) (by rfl) (by decide +kernel) (by rfl) ?_
      rw [lgM_o (by omega), (hO0 _ _ (by omega)).1]
      rw [ht]
      refine z_rcs hc hH 3 (pc' := 54) (lv' := [(1, .int 2), (0, .ref 50)]) (st' := [.int 2, .ref 50]) (μ' := lgM W0 0 (decide (lg_cmp ((w0 >>> ((nI c).toInt64 &&& 63)) &&& 1) 1 = 0))) (by rfl) ?_
      refine zq_call hc (by rfl) (hw2 _ (SE_lg (SE_sm (SE_rf _) hO0)) (a_H_lg (hA0)) d' (by omega)) (by decide +kernel) (fun r9 W2 hq => ?_)
      obtain ⟨rfl, hO2, hA2⟩ := hq
      show Z 0 57 [(1, .int 2), (0, .ref 50)] [.long w2] W2
      refine z_rcs hc hH 1 (pc' := 58) (lv' := [(1, .int 2), (0, .ref 50)]) (st' := [.ref 50, .long w2]) (μ' := W2) (by rfl) ?_
      refine zq_gfi hc hH (by rfl) (ci := 6) (f := 49) (by rfl) (by decide +kernel) (by rfl) ?_
      rw [(hO2 _ _ (by omega)).1, lgM_o (by omega), (hO0 _ _ (by omega)).1]
      rw [hc49]
      refine z_rcs hc hH 5 (pc' := 66) (lv' := [(1, .int 2), (0, .ref 50)]) (st' := [.int (lg_cmp ((w2 >>> ((nI c).toInt64 &&& 63)) &&& 1) 1)]) (μ' := W2) (by rfl) ?_
      have hJ3 : Z 0 76 [(1, .int 2), (0, .ref 50)] [] (lgM W2 2 (decide (lg_cmp ((w2 >>> ((nI c).toInt64 &&& 63)) &&& 1) 1 = 0))) := by
        refine z_rcs hc hH 7 (pc' := 46) (lv' := [(1, .int 3), (0, .ref 50)]) (st' := [.ref 50, .int 3]) (μ' := lgM W2 2 (decide (lg_cmp ((w2 >>> ((nI c).toInt64 &&& 63)) &&& 1) 1 = 0))) (by rfl) ?_
        refine zq_gfi hc hH (by rfl) (ci := 6) (f := 45) (by rfl) (by decide +kernel) (by rfl) ?_
        rw [lgM_o (by omega), (hO2 _ _ (by omega)).1, lgM_o (by omega), (hO0 _ _ (by omega)).1]
        rw [ht]
        refine z_rcs hc hH 3 (pc' := 54) (lv' := [(1, .int 3), (0, .ref 50)]) (st' := [.int 3, .ref 50]) (μ' := lgM W2 2 (decide (lg_cmp ((w2 >>> ((nI c).toInt64 &&& 63)) &&& 1) 1 = 0))) (by rfl) ?_
        refine zq_call hc (by rfl) (hw3 _ (SE_lg (SE_sm (SE_lg (SE_sm (SE_rf _) hO0)) hO2)) (a_H_lg (hA2)) d' (by omega)) (by decide +kernel) (fun r9 W3 hq => ?_)
        obtain ⟨rfl, hO3, hA3⟩ := hq
        show Z 0 57 [(1, .int 3), (0, .ref 50)] [.long w3] W3
        refine z_rcs hc hH 1 (pc' := 58) (lv' := [(1, .int 3), (0, .ref 50)]) (st' := [.ref 50, .long w3]) (μ' := W3) (by rfl) ?_
        refine zq_gfi hc hH (by rfl) (ci := 6) (f := 49) (by rfl) (by decide +kernel) (by rfl) ?_
        rw [(hO3 _ _ (by omega)).1, lgM_o (by omega), (hO2 _ _ (by omega)).1, lgM_o (by omega), (hO0 _ _ (by omega)).1]
        rw [hc49]
        refine z_rcs hc hH 5 (pc' := 66) (lv' := [(1, .int 3), (0, .ref 50)]) (st' := [.int (lg_cmp ((w3 >>> ((nI c).toInt64 &&& 63)) &&& 1) 1)]) (μ' := W3) (by rfl) ?_
        have hJ4 : Z 0 76 [(1, .int 3), (0, .ref 50)] [] (lgM W3 3 (decide (lg_cmp ((w3 >>> ((nI c).toInt64 &&& 63)) &&& 1) 1 = 0))) := by
          refine z_rcs hc hH 5 (pc' := 82) (lv' := [(1, .int 4), (0, .ref 50)]) (st' := []) (μ' := lgM W3 3 (decide (lg_cmp ((w3 >>> ((nI c).toInt64 &&& 63)) &&& 1) 1 = 0))) (by rfl) ?_
          exact hr 0 82 _ _ _ none (by decide +kernel) (by rfl) (⟨rfl, by unfold ovM1; rw [h1, cond_true]; exact SM_lg (SM_tr (SM_lg (SM_tr (SM_lg (SM_tr (SM_rf _) hO0)) hO2)) hO3)⟩)
        refine zq_if hc hH (by rfl) (tg := 76) (by rfl) (fun h5 => ?_) (fun h5 => ?_)
        · have h5 : (decide ((lg_cmp ((w3 >>> ((nI c).toInt64 &&& 63)) &&& 1) 1) = 0)) = false := decide_eq_false (cm_ne.mp h5)
          exact zJ hJ4 rfl rfl (by unfold lgM; rw [h5, cond_false])
        · have h5 : (decide ((lg_cmp ((w3 >>> ((nI c).toInt64 &&& 63)) &&& 1) 1) = 0)) = true := decide_eq_true (cn_ne.mp h5)
          refine z_rcs hc hH 1 (pc' := 70) (lv' := [(1, .int 3), (0, .ref 50)]) (st' := [.ref 50]) (μ' := W3) (by rfl) ?_
          refine zq_gfr hc hH (by rfl) (ci := 6) (f := 38) (q := 70) (by rfl) (by decide +kernel) (by rfl) (by decide +kernel) ?_
          refine z_rcs hc hH 2 (pc' := 75) (lv' := [(1, .int 3), (0, .ref 50)]) (st' := [.int 1, .int 3, .ref 70]) (μ' := W3) (by rfl) ?_
          refine zq_bast hc hH (by rfl) 4 (by decide +kernel) (show vp_in (nI 3) 4 from vp_in_nI (by decide) (by decide)) (by decide) ?_
          rw [show (3 : Int32).toNatClampNeg = 3 from rfl]
          show Z 0 76 [(1, .int 3), (0, .ref 50)] [] (z_ui W3 70 3 1)
          exact zJ hJ4 rfl rfl (by unfold lgM; rw [h5, cond_true])
      refine zq_if hc hH (by rfl) (tg := 76) (by rfl) (fun h6 => ?_) (fun h6 => ?_)
      · have h6 : (decide ((lg_cmp ((w2 >>> ((nI c).toInt64 &&& 63)) &&& 1) 1) = 0)) = false := decide_eq_false (cm_ne.mp h6)
        exact zJ hJ3 rfl rfl (by unfold lgM; rw [h6, cond_false])
      · have h6 : (decide ((lg_cmp ((w2 >>> ((nI c).toInt64 &&& 63)) &&& 1) 1) = 0)) = true := decide_eq_true (cn_ne.mp h6)
        refine z_rcs hc hH 1 (pc' := 70) (lv' := [(1, .int 2), (0, .ref 50)]) (st' := [.ref 50]) (μ' := W2) (by rfl) ?_
        refine zq_gfr hc hH (by rfl) (ci := 6) (f := 38) (q := 70) (by rfl) (by decide +kernel) (by rfl) (by decide +kernel) ?_
        refine z_rcs hc hH 2 (pc' := 75) (lv' := [(1, .int 2), (0, .ref 50)]) (st' := [.int 1, .int 2, .ref 70]) (μ' := W2) (by rfl) ?_
        refine zq_bast hc hH (by rfl) 4 (by decide +kernel) (show vp_in (nI 2) 4 from vp_in_nI (by decide) (by decide)) (by decide) ?_
        rw [show (2 : Int32).toNatClampNeg = 2 from rfl]
        show Z 0 76 [(1, .int 2), (0, .ref 50)] [] (z_ui W2 70 2 1)
        exact zJ hJ3 rfl rfl (by unfold lgM; rw [h6, cond_true])
    refine zq_if hc hH (by rfl) (tg := 76) (by rfl) (fun h7 => ?_) (fun h7 => ?_)
    · have h7 : (decide ((lg_cmp ((w0 >>> ((nI c).toInt64 &&& 63)) &&& 1) 1) = 0)) = false := decide_eq_false (cm_ne.mp h7)
      exact zJ hJ2 rfl rfl (by unfold lgM; rw [h7, cond_false])
    · have h7 : (decide ((lg_cmp ((w0 >>> ((nI c).toInt64 &&& 63)) &&& 1) 1) = 0)) = true := decide_eq_true (cn_ne.mp h7)
      refine z_rcs hc hH 1 (pc' := 70) (lv' := [(1, .int 0), (0, .ref 50)]) (st' := [.ref 50]) (μ' := W0) (by rfl) ?_
      refine zq_gfr hc hH (by rfl) (ci := 6) (f := 38) (q := 70) (by rfl) (by decide +kernel) (by rfl) (by decide +kernel) ?_
      refine z_rcs hc hH 2 (pc' := 75) (lv' := [(1, .int 0), (0, .ref 50)]) (st' := [.int 1, .int 0, .ref 70]) (μ' := W0) (by rfl) ?_
      refine zq_bast hc hH (by rfl) 4 (by decide +kernel) (show vp_in (nI 0) 4 from vp_in_nI (by decide) (by decide)) (by decide) ?_
      rw [show (0 : Int32).toNatClampNeg = 0 from rfl]
      show Z 0 76 [(1, .int 0), (0, .ref 50)] [] (z_ui W0 70 0 1)
      exact zJ hJ2 rfl rfl (by unfold lgM; rw [h7, cond_true])
  · have h1 : (decide ((μ.1 50 59) = 0)) = false := decide_eq_false (cn_eq.mp h1)
    refine z_rcs hc hH 1 (pc' := 8) (lv' := [(0, .ref 50)]) (st' := [.ref 50]) (μ' := μ) (by rfl) ?_
    refine zq_gfr hc hH (by rfl) (ci := 6) (f := 29) (q := 61) (by rfl) (by decide +kernel) (by rfl) (by decide +kernel) ?_
    refine z_rcs hc hH 1 (pc' := 12) (lv' := [(0, .ref 50)]) (st' := [.ref 50, .ref 61]) (μ' := μ) (by rfl) ?_
    refine zq_gfi hc hH (by rfl) (ci := 6) (f := 45) (by rfl) (by decide +kernel) (by rfl) ?_
    rw [ht]
    refine z_rcs hc hH 1 (pc' := 16) (lv' := [(0, .ref 50)]) (st' := [.int 1, .ref 61, .int 1, .ref 61]) (μ' := μ) (by rfl) ?_
    refine zq_iald hc hH (by rfl) 4 (oka_i (by decide +kernel)) (show vp_in (nI 1) 4 from vp_in_nI (by decide) (by decide)) ?_
    rw [show (1 : Int32).toNatClampNeg = 1 from rfl]
    refine z_rcs hc hH 2 (pc' := 21) (lv' := [(0, .ref 50)]) (st' := [.int ((μ.1 61 1) - 1000), .int 1, .ref 61]) (μ' := μ) (by rfl) ?_
    refine zq_iast hc hH (by rfl) 4 (oka_i (by decide +kernel)).2 (show vp_in (nI 1) 4 from vp_in_nI (by decide) (by decide)) ?_
    rw [show (1 : Int32).toNatClampNeg = 1 from rfl]
    show Z 0 22 [(0, .ref 50)] [] (z_ui μ 61 1 ((μ.1 61 1) - 1000))
    refine z_rcs hc hH 2 (pc' := 24) (lv' := [(0, .ref 50)]) (st' := [.ref 50, .ref 50]) (μ' := z_ui μ 61 1 ((μ.1 61 1) - 1000)) (by rfl) ?_
    refine zq_gfi hc hH (by rfl) (ci := 6) (f := 43) (by rfl) (by decide +kernel) (by rfl) ?_
    rw [ui_o (by omega)]
    refine z_rcs hc hH 2 (pc' := 29) (lv' := [(0, .ref 50)]) (st' := [.int ((μ.1 50 43) + 1), .ref 50]) (μ' := z_ui μ 61 1 ((μ.1 61 1) - 1000)) (by rfl) ?_
    refine zq_pfi hc hH (by rfl) (ci := 6) (f := 43) (by rfl) (by decide +kernel) (by rfl) ?_
    show Z 0 32 [(0, .ref 50)] [] (z_ui (z_ui μ 61 1 ((μ.1 61 1) - 1000)) 50 43 ((μ.1 50 43) + 1))
    refine z_rcs hc hH 2 (pc' := 34) (lv' := [(0, .ref 50)]) (st' := [.int 0, .ref 50]) (μ' := z_ui (z_ui μ 61 1 ((μ.1 61 1) - 1000)) 50 43 ((μ.1 50 43) + 1)) (by rfl) ?_
    refine zq_pfb hc hH (by rfl) (ci := 6) (f := 59) (by rfl) (by decide +kernel) (by rfl) (by decide) ?_
    show Z 0 37 [(0, .ref 50)] [] (z_ui (z_ui (z_ui μ 61 1 ((μ.1 61 1) - 1000)) 50 43 ((μ.1 50 43) + 1)) 50 59 0)
    refine z_rcs hc hH 7 (pc' := 46) (lv' := [(1, .int 0), (0, .ref 50)]) (st' := [.ref 50, .int 0]) (μ' := z_ui (z_ui (z_ui μ 61 1 ((μ.1 61 1) - 1000)) 50 43 ((μ.1 50 43) + 1)) 50 59 0) (by rfl) ?_
    refine zq_gfi hc hH (by rfl) (ci := 6) (f := 45) (by rfl) (by decide +kernel) (by rfl) ?_
    rw [ui_k (by omega), ui_k (by omega), ui_o (by omega)]
    rw [ht]
    refine z_rcs hc hH 3 (pc' := 54) (lv' := [(1, .int 0), (0, .ref 50)]) (st' := [.int 0, .ref 50]) (μ' := z_ui (z_ui (z_ui μ 61 1 ((μ.1 61 1) - 1000)) 50 43 ((μ.1 50 43) + 1)) 50 59 0) (by rfl) ?_
    refine zq_call hc (by rfl) (hw0 _ (SE_ui (SE_ui (SE_ui (SE_rf _) (by omega)) (by omega)) (by omega)) (a_H_ui (r := 50) (k := 59) (a_H_ui (r := 50) (k := 43) (a_H_ui (r := 61) (k := 1) (hH0) (bI_top _)) (bI_top _)) ⟨by decide, by decide⟩) d' (by omega)) (by decide +kernel) (fun r9 W0 hq => ?_)
    obtain ⟨rfl, hO0, hA0⟩ := hq
    show Z 0 57 [(1, .int 0), (0, .ref 50)] [.long w0] W0
    refine z_rcs hc hH 1 (pc' := 58) (lv' := [(1, .int 0), (0, .ref 50)]) (st' := [.ref 50, .long w0]) (μ' := W0) (by rfl) ?_
    refine zq_gfi hc hH (by rfl) (ci := 6) (f := 49) (by rfl) (by decide +kernel) (by rfl) ?_
    rw [(hO0 _ _ (by omega)).1, ui_k (by omega), ui_k (by omega), ui_o (by omega)]
    rw [hc49]
    refine z_rcs hc hH 5 (pc' := 66) (lv' := [(1, .int 0), (0, .ref 50)]) (st' := [.int (lg_cmp ((w0 >>> ((nI c).toInt64 &&& 63)) &&& 1) 1)]) (μ' := W0) (by rfl) ?_
    have hJ8 : Z 0 76 [(1, .int 0), (0, .ref 50)] [] (lgM W0 0 (decide (lg_cmp ((w0 >>> ((nI c).toInt64 &&& 63)) &&& 1) 1 = 0))) := by
      refine z_rcs hc hH 7 (pc' := 46) (lv' := [(1, .int 1), (0, .ref 50)]) (st' := [.ref 50, .int 1]) (μ' := lgM W0 0 (decide (lg_cmp ((w0 >>> ((nI c).toInt64 &&& 63)) &&& 1) 1 = 0))) (by rfl) ?_
      refine zq_gfi hc hH (by rfl) (ci := 6) (f := 45) (by rfl) (by decide +kernel) (by rfl) ?_
      rw [lgM_o (by omega), (hO0 _ _ (by omega)).1, ui_k (by omega), ui_k (by omega), ui_o (by omega)]
      rw [ht]
      refine z_rcs hc hH 8 (pc' := 46) (lv' := [(1, .int 2), (0, .ref 50)]) (st' := [.ref 50, .int 2]) (μ' := lgM W0 0 (decide (lg_cmp ((w0 >>> ((nI c).toInt64 &&& 63)) &&& 1) 1 = 0))) (by rfl) ?_
      refine zq_gfi hc hH (by rfl) (ci := 6) (f := 45) (by rfl) (by decide +kernel) (by rfl) ?_
      rw [lgM_o (by omega), (hO0 _ _ (by omega)).1, ui_k (by omega), ui_k (by omega), ui_o (by omega)]
      rw [ht]
      refine z_rcs hc hH 3 (pc' := 54) (lv' := [(1, .int 2), (0, .ref 50)]) (st' := [.int 2, .ref 50]) (μ' := lgM W0 0 (decide (lg_cmp ((w0 >>> ((nI c).toInt64 &&& 63)) &&& 1) 1 = 0))) (by rfl) ?_
      refine zq_call hc (by rfl) (hw2 _ (SE_lg (SE_sm (SE_ui (SE_ui (SE_ui (SE_rf _) (by omega)) (by omega)) (by omega)) hO0)) (a_H_lg (hA0)) d' (by omega)) (by decide +kernel) (fun r9 W2 hq => ?_)
      obtain ⟨rfl, hO2, hA2⟩ := hq
      show Z 0 57 [(1, .int 2), (0, .ref 50)] [.long w2] W2
      refine z_rcs hc hH 1 (pc' := 58) (lv' := [(1, .int 2), (0, .ref 50)]) (st' := [.ref 50, .long w2]) (μ' := W2) (by rfl) ?_
      refine zq_gfi hc hH (by rfl) (ci := 6) (f := 49) (by rfl) (by decide +kernel) (by rfl) ?_
      rw [(hO2 _ _ (by omega)).1, lgM_o (by omega), (hO0 _ _ (by omega)).1, ui_k (by omega), ui_k (by omega), ui_o (by omega)]
      rw [hc49]
      refine z_rcs hc hH 5 (pc' := 66) (lv' := [(1, .int 2), (0, .ref 50)]) (st' := [.int (lg_cmp ((w2 >>> ((nI c).toInt64 &&& 63)) &&& 1) 1)]) (μ' := W2) (by rfl) ?_
      have hJ9 : Z 0 76 [(1, .int 2), (0, .ref 50)] [] (lgM W2 2 (decide (lg_cmp ((w2 >>> ((nI c).toInt64 &&& 63)) &&& 1) 1 = 0))) := by
        refine z_rcs hc hH 7 (pc' := 46) (lv' := [(1, .int 3), (0, .ref 50)]) (st' := [.ref 50, .int 3]) (μ' := lgM W2 2 (decide (lg_cmp ((w2 >>> ((nI c).toInt64 &&& 63)) &&& 1) 1 = 0))) (by rfl) ?_
        refine zq_gfi hc hH (by rfl) (ci := 6) (f := 45) (by rfl) (by decide +kernel) (by rfl) ?_
        rw [lgM_o (by omega), (hO2 _ _ (by omega)).1, lgM_o (by omega), (hO0 _ _ (by omega)).1, ui_k (by omega), ui_k (by omega), ui_o (by omega)]
        rw [ht]
        refine z_rcs hc hH 3 (pc' := 54) (lv' := [(1, .int 3), (0, .ref 50)]) (st' := [.int 3, .ref 50]) (μ' := lgM W2 2 (decide (lg_cmp ((w2 >>> ((nI c).toInt64 &&& 63)) &&& 1) 1 = 0))) (by rfl) ?_
        refine zq_call hc (by rfl) (hw3 _ (SE_lg (SE_sm (SE_lg (SE_sm (SE_ui (SE_ui (SE_ui (SE_rf _) (by omega)) (by omega)) (by omega)) hO0)) hO2)) (a_H_lg (hA2)) d' (by omega)) (by decide +kernel) (fun r9 W3 hq => ?_)
        obtain ⟨rfl, hO3, hA3⟩ := hq
        show Z 0 57 [(1, .int 3), (0, .ref 50)] [.long w3] W3
        refine z_rcs hc hH 1 (pc' := 58) (lv' := [(1, .int 3), (0, .ref 50)]) (st' := [.ref 50, .long w3]) (μ' := W3) (by rfl) ?_
        refine zq_gfi hc hH (by rfl) (ci := 6) (f := 49) (by rfl) (by decide +kernel) (by rfl) ?_
        rw [(hO3 _ _ (by omega)).1, lgM_o (by omega), (hO2 _ _ (by omega)).1, lgM_o (by omega), (hO0 _ _ (by omega)).1, ui_k (by omega), ui_k (by omega), ui_o (by omega)]
        rw [hc49]
        refine z_rcs hc hH 5 (pc' := 66) (lv' := [(1, .int 3), (0, .ref 50)]) (st' := [.int (lg_cmp ((w3 >>> ((nI c).toInt64 &&& 63)) &&& 1) 1)]) (μ' := W3) (by rfl) ?_
        have hJ10 : Z 0 76 [(1, .int 3), (0, .ref 50)] [] (lgM W3 3 (decide (lg_cmp ((w3 >>> ((nI c).toInt64 &&& 63)) &&& 1) 1 = 0))) := by
          refine z_rcs hc hH 5 (pc' := 82) (lv' := [(1, .int 4), (0, .ref 50)]) (st' := []) (μ' := lgM W3 3 (decide (lg_cmp ((w3 >>> ((nI c).toInt64 &&& 63)) &&& 1) 1 = 0))) (by rfl) ?_
          exact hr 0 82 _ _ _ none (by decide +kernel) (by rfl) (⟨rfl, by unfold ovM1; rw [h1, cond_false]; exact SM_lg (SM_tr (SM_lg (SM_tr (SM_lg (SM_tr (SM_ui (SM_ui (SM_ui (SM_rf _)))) hO0)) hO2)) hO3)⟩)
        refine zq_if hc hH (by rfl) (tg := 76) (by rfl) (fun h11 => ?_) (fun h11 => ?_)
        · have h11 : (decide ((lg_cmp ((w3 >>> ((nI c).toInt64 &&& 63)) &&& 1) 1) = 0)) = false := decide_eq_false (cm_ne.mp h11)
          exact zJ hJ10 rfl rfl (by unfold lgM; rw [h11, cond_false])
        · have h11 : (decide ((lg_cmp ((w3 >>> ((nI c).toInt64 &&& 63)) &&& 1) 1) = 0)) = true := decide_eq_true (cn_ne.mp h11)
          refine z_rcs hc hH 1 (pc' := 70) (lv' := [(1, .int 3), (0, .ref 50)]) (st' := [.ref 50]) (μ' := W3) (by rfl) ?_
          refine zq_gfr hc hH (by rfl) (ci := 6) (f := 38) (q := 70) (by rfl) (by decide +kernel) (by rfl) (by decide +kernel) ?_
          refine z_rcs hc hH 2 (pc' := 75) (lv' := [(1, .int 3), (0, .ref 50)]) (st' := [.int 1, .int 3, .ref 70]) (μ' := W3) (by rfl) ?_
          refine zq_bast hc hH (by rfl) 4 (by decide +kernel) (show vp_in (nI 3) 4 from vp_in_nI (by decide) (by decide)) (by decide) ?_
          rw [show (3 : Int32).toNatClampNeg = 3 from rfl]
          show Z 0 76 [(1, .int 3), (0, .ref 50)] [] (z_ui W3 70 3 1)
          exact zJ hJ10 rfl rfl (by unfold lgM; rw [h11, cond_true])
      refine zq_if hc hH (by rfl) (tg := 76) (by rfl) (fun h12 => ?_) (fun h12 => ?_)
      · have h12 : (decide ((lg_cmp ((w2 >>> ((nI c).toInt64 &&& 63)) &&& 1) 1) = 0)) = false := decide_eq_false (cm_ne.mp h12)
        exact zJ hJ9 rfl rfl (by unfold lgM; rw [h12, cond_false])
      · have h12 : (decide ((lg_cmp ((w2 >>> ((nI c).toInt64 &&& 63)) &&& 1) 1) = 0)) = true := decide_eq_true (cn_ne.mp h12)
        refine z_rcs hc hH 1 (pc' := 70) (lv' := [(1, .int 2), (0, .ref 50)]) (st' := [.ref 50]) (μ' := W2) (by rfl) ?_
        refine zq_gfr hc hH (by rfl) (ci := 6) (f := 38) (q := 70) (by rfl) (by decide +kernel) (by rfl) (by decide +kernel) ?_
        refine z_rcs hc hH 2 (pc' := 75) (lv' := [(1, .int 2), (0, .ref 50)]) (st' := [.int 1, .int 2, .ref 70]) (μ' := W2) (by rfl) ?_
        refine zq_bast hc hH (by rfl) 4 (by decide +kernel) (show vp_in (nI 2) 4 from vp_in_nI (by decide) (by decide)) (by decide) ?_
        rw [show (2 : Int32).toNatClampNeg = 2 from rfl]
        show Z 0 76 [(1, .int 2), (0, .ref 50)] [] (z_ui W2 70 2 1)
        exact zJ hJ9 rfl rfl (by unfold lgM; rw [h12, cond_true])
    refine zq_if hc hH (by rfl) (tg := 76) (by rfl) (fun h13 => ?_) (fun h13 => ?_)
    · have h13 : (decide ((lg_cmp ((w0 >>> ((nI c).toInt64 &&& 63)) &&& 1) 1) = 0)) = false := decide_eq_false (cm_ne.mp h13)
      exact zJ hJ8 rfl rfl (by unfold lgM; rw [h13, cond_false])
    · have h13 : (decide ((lg_cmp ((w0 >>> ((nI c).toInt64 &&& 63)) &&& 1) 1) = 0)) = true := decide_eq_true (cn_ne.mp h13)
      refine z_rcs hc hH 1 (pc' := 70) (lv' := [(1, .int 0), (0, .ref 50)]) (st' := [.ref 50]) (μ' := W0) (by rfl) ?_
      refine zq_gfr hc hH (by rfl) (ci := 6) (f := 38) (q := 70) (by rfl) (by decide +kernel) (by rfl) (by decide +kernel) ?_
      refine z_rcs hc hH 2 (pc' := 75) (lv' := [(1, .int 0), (0, .ref 50)]) (st' := [.int 1, .int 0, .ref 70]) (μ' := W0) (by rfl) ?_
      refine zq_bast hc hH (by rfl) 4 (by decide +kernel) (show vp_in (nI 0) 4 from vp_in_nI (by decide) (by decide)) (by decide) ?_
      rw [show (0 : Int32).toNatClampNeg = 0 from rfl]
      show Z 0 76 [(1, .int 0), (0, .ref 50)] [] (z_ui W0 70 0 1)
      exact zJ hJ8 rfl rfl (by unfold lgM; rw [h13, cond_true])
def ovM2 (μ : zM) (c : Nat) (w0 w1 w3 : Int64) : zM := bif decide ((μ.1 50 59) = 0) then lgM (lgM (lgM μ 0 (decide (lg_cmp ((w0 >>> ((nI c).toInt64 &&& 63)) &&& 1) 1 = 0))) 1 (decide (lg_cmp ((w1 >>> ((nI c).toInt64 &&& 63)) &&& 1) 1 = 0))) 3 (decide (lg_cmp ((w3 >>> ((nI c).toInt64 &&& 63)) &&& 1) 1 = 0)) else lgM (lgM (lgM (z_ui (z_ui (z_ui μ 61 2 ((μ.1 61 2) - 1000)) 50 43 ((μ.1 50 43) + 1)) 50 59 0) 0 (decide (lg_cmp ((w0 >>> ((nI c).toInt64 &&& 63)) &&& 1) 1 = 0))) 1 (decide (lg_cmp ((w1 >>> ((nI c).toInt64 &&& 63)) &&& 1) 1 = 0))) 3 (decide (lg_cmp ((w3 >>> ((nI c).toInt64 &&& 63)) &&& 1) 1 = 0))
theorem gm_over2 (d : Nat) (hd : 700 ≤ d) (μ : zM) (hH0 : a_H μ) (c : Nat) (hc49 : μ.1 50 49 = nI c) (ht : μ.1 50 45 = 2) (w0 : Int64) (hw0 : ∀ M, SE μ M → a_H M → ∀ d, 699 ≤ d → z_C d mi_X7_waitsAt [.ref 50, .int 0] M (fun r W => r = some (.long w0) ∧ SMj M W ∧ a_H W)) (w1 : Int64) (hw1 : ∀ M, SE μ M → a_H M → ∀ d, 699 ≤ d → z_C d mi_X7_waitsAt [.ref 50, .int 1] M (fun r W => r = some (.long w1) ∧ SMj M W ∧ a_H W)) (w3 : Int64) (hw3 : ∀ M, SE μ M → a_H M → ∀ d, 699 ≤ d → z_C d mi_X7_waitsAt [.ref 50, .int 3] M (fun r W => r = some (.long w3) ∧ SMj M W ∧ a_H W)) : z_C d mi_X7_over [.ref 50] μ (fun r μ' => r = none ∧ SMj (ovM2 μ c w0 w1 w3) μ') := by
  refine z_C_in (by decide) (by omega) (fun d' Z ed hc hr => ?_)
  have hH : zH mi_X7_over zc_X7_over 79 7 2 := ⟨by rfl, by rfl, by rfl, by rfl⟩
  refine z_rcs hc hH 1 (pc' := 1) (lv' := [(0, .ref 50)]) (st' := [.ref 50]) (μ' := μ) (by rfl) ?_
  refine zq_gfi hc hH (by rfl) (ci := 6) (f := 59) (by rfl) (by decide +kernel) (by rfl) ?_
  refine zq_if hc hH (by rfl) (tg := 37) (by rfl) (fun h1 => ?_) (fun h1 => ?_)
  · have h1 : (decide ((μ.1 50 59) = 0)) = true := decide_eq_true (cm_eq9.mp h1)
    refine z_rcs hc hH 7 (pc' := 46) (lv' := [(1, .int 0), (0, .ref 50)]) (st' := [.ref 50, .int 0]) (μ' := μ) (by rfl) ?_
    refine zq_gfi hc hH (by rfl) (ci := 6) (f := 45) (by rfl) (by decide +kernel) (by rfl) ?_
    rw [ht]
    refine z_rcs hc hH 3 (pc' := 54) (lv' := [(1, .int 0), (0, .ref 50)]) (st' := [.int 0, .ref 50]) (μ' := μ) (by rfl) ?_
    refine zq_call hc (by rfl) (hw0 _ (SE_rf _) (hH0) d' (by omega)) (by decide +kernel) (fun r9 W0 hq => ?_)
    obtain ⟨rfl, hO0, hA0⟩ := hq
    show Z 0 57 [(1, .int 0), (0, .ref 50)] [.long w0] W0
    refine z_rcs hc hH 1 (pc' := 58) (lv' := [(1, .int 0), (0, .ref 50)]) (st' := [.ref 50, .long w0]) (μ' := W0) (by rfl) ?_
    refine zq_gfi hc hH (by rfl) (ci := 6) (f := 49) (by rfl) (by decide +kernel) (by rfl) ?_
    rw [(hO0 _ _ (by omega)).1]
    rw [hc49]
    refine z_rcs hc hH 5 (pc' := 66) (lv' := [(1, .int 0), (0, .ref 50)]) (st' := [.int (lg_cmp ((w0 >>> ((nI c).toInt64 &&& 63)) &&& 1) 1)]) (μ' := W0) (by rfl) ?_
    have hJ2 : Z 0 76 [(1, .int 0), (0, .ref 50)] [] (lgM W0 0 (decide (lg_cmp ((w0 >>> ((nI c).toInt64 &&& 63)) &&& 1) 1 = 0))) := by
      refine z_rcs hc hH 7 (pc' := 46) (lv' := [(1, .int 1), (0, .ref 50)]) (st' := [.ref 50, .int 1]) (μ' := lgM W0 0 (decide (lg_cmp ((w0 >>> ((nI c).toInt64 &&& 63)) &&& 1) 1 = 0))) (by rfl) ?_
      refine zq_gfi hc hH (by rfl) (ci := 6) (f := 45) (by rfl) (by decide +kernel) (by rfl) ?_
      rw [lgM_o (by omega), (hO0 _ _ (by omega)).1]
      rw [ht]
      refine z_rcs hc hH 3 (pc' := 54) (lv' := [(1, .int 1), (0, .ref 50)]) (st' := [.int 1, .ref 50]) (μ' := lgM W0 0 (decide (lg_cmp ((w0 >>> ((nI c).toInt64 &&& 63)) &&& 1) 1 = 0))) (by rfl) ?_
      refine zq_call hc (by rfl) (hw1 _ (SE_lg (SE_sm (SE_rf _) hO0)) (a_H_lg (hA0)) d' (by omega)) (by decide +kernel) (fun r9 W1 hq => ?_)
      obtain ⟨rfl, hO1, hA1⟩ := hq
      show Z 0 57 [(1, .int 1), (0, .ref 50)] [.long w1] W1
      refine z_rcs hc hH 1 (pc' := 58) (lv' := [(1, .int 1), (0, .ref 50)]) (st' := [.ref 50, .long w1]) (μ' := W1) (by rfl) ?_
      refine zq_gfi hc hH (by rfl) (ci := 6) (f := 49) (by rfl) (by decide +kernel) (by rfl) ?_
      rw [(hO1 _ _ (by omega)).1, lgM_o (by omega), (hO0 _ _ (by omega)).1]
      rw [hc49]
      refine z_rcs hc hH 5 (pc' := 66) (lv' := [(1, .int 1), (0, .ref 50)]) (st' := [.int (lg_cmp ((w1 >>> ((nI c).toInt64 &&& 63)) &&& 1) 1)]) (μ' := W1) (by rfl) ?_
      have hJ3 : Z 0 76 [(1, .int 1), (0, .ref 50)] [] (lgM W1 1 (decide (lg_cmp ((w1 >>> ((nI c).toInt64 &&& 63)) &&& 1) 1 = 0))) := by
        refine z_rcs hc hH 7 (pc' := 46) (lv' := [(1, .int 2), (0, .ref 50)]) (st' := [.ref 50, .int 2]) (μ' := lgM W1 1 (decide (lg_cmp ((w1 >>> ((nI c).toInt64 &&& 63)) &&& 1) 1 = 0))) (by rfl) ?_
        refine zq_gfi hc hH (by rfl) (ci := 6) (f := 45) (by rfl) (by decide +kernel) (by rfl) ?_
        rw [lgM_o (by omega), (hO1 _ _ (by omega)).1, lgM_o (by omega), (hO0 _ _ (by omega)).1]
        rw [ht]
        refine z_rcs hc hH 8 (pc' := 46) (lv' := [(1, .int 3), (0, .ref 50)]) (st' := [.ref 50, .int 3]) (μ' := lgM W1 1 (decide (lg_cmp ((w1 >>> ((nI c).toInt64 &&& 63)) &&& 1) 1 = 0))) (by rfl) ?_
        refine zq_gfi hc hH (by rfl) (ci := 6) (f := 45) (by rfl) (by decide +kernel) (by rfl) ?_
        rw [lgM_o (by omega), (hO1 _ _ (by omega)).1, lgM_o (by omega), (hO0 _ _ (by omega)).1]
        rw [ht]
        refine z_rcs hc hH 3 (pc' := 54) (lv' := [(1, .int 3), (0, .ref 50)]) (st' := [.int 3, .ref 50]) (μ' := lgM W1 1 (decide (lg_cmp ((w1 >>> ((nI c).toInt64 &&& 63)) &&& 1) 1 = 0))) (by rfl) ?_
        refine zq_call hc (by rfl) (hw3 _ (SE_lg (SE_sm (SE_lg (SE_sm (SE_rf _) hO0)) hO1)) (a_H_lg (hA1)) d' (by omega)) (by decide +kernel) (fun r9 W3 hq => ?_)
        obtain ⟨rfl, hO3, hA3⟩ := hq
        show Z 0 57 [(1, .int 3), (0, .ref 50)] [.long w3] W3
        refine z_rcs hc hH 1 (pc' := 58) (lv' := [(1, .int 3), (0, .ref 50)]) (st' := [.ref 50, .long w3]) (μ' := W3) (by rfl) ?_
        refine zq_gfi hc hH (by rfl) (ci := 6) (f := 49) (by rfl) (by decide +kernel) (by rfl) ?_
        rw [(hO3 _ _ (by omega)).1, lgM_o (by omega), (hO1 _ _ (by omega)).1, lgM_o (by omega), (hO0 _ _ (by omega)).1]
        rw [hc49]
        refine z_rcs hc hH 5 (pc' := 66) (lv' := [(1, .int 3), (0, .ref 50)]) (st' := [.int (lg_cmp ((w3 >>> ((nI c).toInt64 &&& 63)) &&& 1) 1)]) (μ' := W3) (by rfl) ?_
        have hJ4 : Z 0 76 [(1, .int 3), (0, .ref 50)] [] (lgM W3 3 (decide (lg_cmp ((w3 >>> ((nI c).toInt64 &&& 63)) &&& 1) 1 = 0))) := by
          refine z_rcs hc hH 5 (pc' := 82) (lv' := [(1, .int 4), (0, .ref 50)]) (st' := []) (μ' := lgM W3 3 (decide (lg_cmp ((w3 >>> ((nI c).toInt64 &&& 63)) &&& 1) 1 = 0))) (by rfl) ?_
          exact hr 0 82 _ _ _ none (by decide +kernel) (by rfl) (⟨rfl, by unfold ovM2; rw [h1, cond_true]; exact SM_lg (SM_tr (SM_lg (SM_tr (SM_lg (SM_tr (SM_rf _) hO0)) hO1)) hO3)⟩)
        refine zq_if hc hH (by rfl) (tg := 76) (by rfl) (fun h5 => ?_) (fun h5 => ?_)
        · have h5 : (decide ((lg_cmp ((w3 >>> ((nI c).toInt64 &&& 63)) &&& 1) 1) = 0)) = false := decide_eq_false (cm_ne.mp h5)
          exact zJ hJ4 rfl rfl (by unfold lgM; rw [h5, cond_false])
        · have h5 : (decide ((lg_cmp ((w3 >>> ((nI c).toInt64 &&& 63)) &&& 1) 1) = 0)) = true := decide_eq_true (cn_ne.mp h5)
          refine z_rcs hc hH 1 (pc' := 70) (lv' := [(1, .int 3), (0, .ref 50)]) (st' := [.ref 50]) (μ' := W3) (by rfl) ?_
          refine zq_gfr hc hH (by rfl) (ci := 6) (f := 38) (q := 70) (by rfl) (by decide +kernel) (by rfl) (by decide +kernel) ?_
          refine z_rcs hc hH 2 (pc' := 75) (lv' := [(1, .int 3), (0, .ref 50)]) (st' := [.int 1, .int 3, .ref 70]) (μ' := W3) (by rfl) ?_
          refine zq_bast hc hH (by rfl) 4 (by decide +kernel) (show vp_in (nI 3) 4 from vp_in_nI (by decide) (by decide)) (by decide) ?_
          rw [show (3 : Int32).toNatClampNeg = 3 from rfl]
          show Z 0 76 [(1, .int 3), (0, .ref 50)] [] (z_ui W3 70 3 1)
          exact zJ hJ4 rfl rfl (by unfold lgM; rw [h5, cond_true])
      refine zq_if hc hH (by rfl) (tg := 76) (by rfl) (fun h6 => ?_) (fun h6 => ?_)
      · have h6 : (decide ((lg_cmp ((w1 >>> ((nI c).toInt64 &&& 63)) &&& 1) 1) = 0)) = false := decide_eq_false (cm_ne.mp h6)
        exact zJ hJ3 rfl rfl (by unfold lgM; rw [h6, cond_false])
      · have h6 : (decide ((lg_cmp ((w1 >>> ((nI c).toInt64 &&& 63)) &&& 1) 1) = 0)) = true := decide_eq_true (cn_ne.mp h6)
        refine z_rcs hc hH 1 (pc' := 70) (lv' := [(1, .int 1), (0, .ref 50)]) (st' := [.ref 50]) (μ' := W1) (by rfl) ?_
        refine zq_gfr hc hH (by rfl) (ci := 6) (f := 38) (q := 70) (by rfl) (by decide +kernel) (by rfl) (by decide +kernel) ?_
        refine z_rcs hc hH 2 (pc' := 75) (lv' := [(1, .int 1), (0, .ref 50)]) (st' := [.int 1, .int 1, .ref 70]) (μ' := W1) (by rfl) ?_
        refine zq_bast hc hH (by rfl) 4 (by decide +kernel) (show vp_in (nI 1) 4 from vp_in_nI (by decide) (by decide)) (by decide) ?_
        rw [show (1 : Int32).toNatClampNeg = 1 from rfl]
        show Z 0 76 [(1, .int 1), (0, .ref 50)] [] (z_ui W1 70 1 1)
        exact zJ hJ3 rfl rfl (by unfold lgM; rw [h6, cond_true])
    refine zq_if hc hH (by rfl) (tg := 76) (by rfl) (fun h7 => ?_) (fun h7 => ?_)
    · have h7 : (decide ((lg_cmp ((w0 >>> ((nI c).toInt64 &&& 63)) &&& 1) 1) = 0)) = false := decide_eq_false (cm_ne.mp h7)
      exact zJ hJ2 rfl rfl (by unfold lgM; rw [h7, cond_false])
    · have h7 : (decide ((lg_cmp ((w0 >>> ((nI c).toInt64 &&& 63)) &&& 1) 1) = 0)) = true := decide_eq_true (cn_ne.mp h7)
      refine z_rcs hc hH 1 (pc' := 70) (lv' := [(1, .int 0), (0, .ref 50)]) (st' := [.ref 50]) (μ' := W0) (by rfl) ?_
      refine zq_gfr hc hH (by rfl) (ci := 6) (f := 38) (q := 70) (by rfl) (by decide +kernel) (by rfl) (by decide +kernel) ?_
      refine z_rcs hc hH 2 (pc' := 75) (lv' := [(1, .int 0), (0, .ref 50)]) (st' := [.int 1, .int 0, .ref 70]) (μ' := W0) (by rfl) ?_
      refine zq_bast hc hH (by rfl) 4 (by decide +kernel) (show vp_in (nI 0) 4 from vp_in_nI (by decide) (by decide)) (by decide) ?_
      rw [show (0 : Int32).toNatClampNeg = 0 from rfl]
      show Z 0 76 [(1, .int 0), (0, .ref 50)] [] (z_ui W0 70 0 1)
      exact zJ hJ2 rfl rfl (by unfold lgM; rw [h7, cond_true])
  · have h1 : (decide ((μ.1 50 59) = 0)) = false := decide_eq_false (cn_eq.mp h1)
    refine z_rcs hc hH 1 (pc' := 8) (lv' := [(0, .ref 50)]) (st' := [.ref 50]) (μ' := μ) (by rfl) ?_
    refine zq_gfr hc hH (by rfl) (ci := 6) (f := 29) (q := 61) (by rfl) (by decide +kernel) (by rfl) (by decide +kernel) ?_
    refine z_rcs hc hH 1 (pc' := 12) (lv' := [(0, .ref 50)]) (st' := [.ref 50, .ref 61]) (μ' := μ) (by rfl) ?_
    refine zq_gfi hc hH (by rfl) (ci := 6) (f := 45) (by rfl) (by decide +kernel) (by rfl) ?_
    rw [ht]
    refine z_rcs hc hH 1 (pc' := 16) (lv' := [(0, .ref 50)]) (st' := [.int 2, .ref 61, .int 2, .ref 61]) (μ' := μ) (by rfl) ?_
    refine zq_iald hc hH (by rfl) 4 (oka_i (by decide +kernel)) (show vp_in (nI 2) 4 from vp_in_nI (by decide) (by decide)) ?_
    rw [show (2 : Int32).toNatClampNeg = 2 from rfl]
    refine z_rcs hc hH 2 (pc' := 21) (lv' := [(0, .ref 50)]) (st' := [.int ((μ.1 61 2) - 1000), .int 2, .ref 61]) (μ' := μ) (by rfl) ?_
    refine zq_iast hc hH (by rfl) 4 (oka_i (by decide +kernel)).2 (show vp_in (nI 2) 4 from vp_in_nI (by decide) (by decide)) ?_
    rw [show (2 : Int32).toNatClampNeg = 2 from rfl]
    show Z 0 22 [(0, .ref 50)] [] (z_ui μ 61 2 ((μ.1 61 2) - 1000))
    refine z_rcs hc hH 2 (pc' := 24) (lv' := [(0, .ref 50)]) (st' := [.ref 50, .ref 50]) (μ' := z_ui μ 61 2 ((μ.1 61 2) - 1000)) (by rfl) ?_
    refine zq_gfi hc hH (by rfl) (ci := 6) (f := 43) (by rfl) (by decide +kernel) (by rfl) ?_
    rw [ui_o (by omega)]
    refine z_rcs hc hH 2 (pc' := 29) (lv' := [(0, .ref 50)]) (st' := [.int ((μ.1 50 43) + 1), .ref 50]) (μ' := z_ui μ 61 2 ((μ.1 61 2) - 1000)) (by rfl) ?_
    refine zq_pfi hc hH (by rfl) (ci := 6) (f := 43) (by rfl) (by decide +kernel) (by rfl) ?_
    show Z 0 32 [(0, .ref 50)] [] (z_ui (z_ui μ 61 2 ((μ.1 61 2) - 1000)) 50 43 ((μ.1 50 43) + 1))
    refine z_rcs hc hH 2 (pc' := 34) (lv' := [(0, .ref 50)]) (st' := [.int 0, .ref 50]) (μ' := z_ui (z_ui μ 61 2 ((μ.1 61 2) - 1000)) 50 43 ((μ.1 50 43) + 1)) (by rfl) ?_
    refine zq_pfb hc hH (by rfl) (ci := 6) (f := 59) (by rfl) (by decide +kernel) (by rfl) (by decide) ?_
    show Z 0 37 [(0, .ref 50)] [] (z_ui (z_ui (z_ui μ 61 2 ((μ.1 61 2) - 1000)) 50 43 ((μ.1 50 43) + 1)) 50 59 0)
    refine z_rcs hc hH 7 (pc' := 46) (lv' := [(1, .int 0), (0, .ref 50)]) (st' := [.ref 50, .int 0]) (μ' := z_ui (z_ui (z_ui μ 61 2 ((μ.1 61 2) - 1000)) 50 43 ((μ.1 50 43) + 1)) 50 59 0) (by rfl) ?_
    refine zq_gfi hc hH (by rfl) (ci := 6) (f := 45) (by rfl) (by decide +kernel) (by rfl) ?_
    rw [ui_k (by omega), ui_k (by omega), ui_o (by omega)]
    rw [ht]
    refine z_rcs hc hH 3 (pc' := 54) (lv' := [(1, .int 0), (0, .ref 50)]) (st' := [.int 0, .ref 50]) (μ' := z_ui (z_ui (z_ui μ 61 2 ((μ.1 61 2) - 1000)) 50 43 ((μ.1 50 43) + 1)) 50 59 0) (by rfl) ?_
    refine zq_call hc (by rfl) (hw0 _ (SE_ui (SE_ui (SE_ui (SE_rf _) (by omega)) (by omega)) (by omega)) (a_H_ui (r := 50) (k := 59) (a_H_ui (r := 50) (k := 43) (a_H_ui (r := 61) (k := 2) (hH0) (bI_top _)) (bI_top _)) ⟨by decide, by decide⟩) d' (by omega)) (by decide +kernel) (fun r9 W0 hq => ?_)
    obtain ⟨rfl, hO0, hA0⟩ := hq
    show Z 0 57 [(1, .int 0), (0, .ref 50)] [.long w0] W0
    refine z_rcs hc hH 1 (pc' := 58) (lv' := [(1, .int 0), (0, .ref 50)]) (st' := [.ref 50, .long w0]) (μ' := W0) (by rfl) ?_
    refine zq_gfi hc hH (by rfl) (ci := 6) (f := 49) (by rfl) (by decide +kernel) (by rfl) ?_
    rw [(hO0 _ _ (by omega)).1, ui_k (by omega), ui_k (by omega), ui_o (by omega)]
    rw [hc49]
    refine z_rcs hc hH 5 (pc' := 66) (lv' := [(1, .int 0), (0, .ref 50)]) (st' := [.int (lg_cmp ((w0 >>> ((nI c).toInt64 &&& 63)) &&& 1) 1)]) (μ' := W0) (by rfl) ?_
    have hJ8 : Z 0 76 [(1, .int 0), (0, .ref 50)] [] (lgM W0 0 (decide (lg_cmp ((w0 >>> ((nI c).toInt64 &&& 63)) &&& 1) 1 = 0))) := by
      refine z_rcs hc hH 7 (pc' := 46) (lv' := [(1, .int 1), (0, .ref 50)]) (st' := [.ref 50, .int 1]) (μ' := lgM W0 0 (decide (lg_cmp ((w0 >>> ((nI c).toInt64 &&& 63)) &&& 1) 1 = 0))) (by rfl) ?_
      refine zq_gfi hc hH (by rfl) (ci := 6) (f := 45) (by rfl) (by decide +kernel) (by rfl) ?_
      rw [lgM_o (by omega), (hO0 _ _ (by omega)).1, ui_k (by omega), ui_k (by omega), ui_o (by omega)]
      rw [ht]
      refine z_rcs hc hH 3 (pc' := 54) (lv' := [(1, .int 1), (0, .ref 50)]) (st' := [.int 1, .ref 50]) (μ' := lgM W0 0 (decide (lg_cmp ((w0 >>> ((nI c).toInt64 &&& 63)) &&& 1) 1 = 0))) (by rfl) ?_
      refine zq_call hc (by rfl) (hw1 _ (SE_lg (SE_sm (SE_ui (SE_ui (SE_ui (SE_rf _) (by omega)) (by omega)) (by omega)) hO0)) (a_H_lg (hA0)) d' (by omega)) (by decide +kernel) (fun r9 W1 hq => ?_)
      obtain ⟨rfl, hO1, hA1⟩ := hq
      show Z 0 57 [(1, .int 1), (0, .ref 50)] [.long w1] W1
      refine z_rcs hc hH 1 (pc' := 58) (lv' := [(1, .int 1), (0, .ref 50)]) (st' := [.ref 50, .long w1]) (μ' := W1) (by rfl) ?_
      refine zq_gfi hc hH (by rfl) (ci := 6) (f := 49) (by rfl) (by decide +kernel) (by rfl) ?_
      rw [(hO1 _ _ (by omega)).1, lgM_o (by omega), (hO0 _ _ (by omega)).1, ui_k (by omega), ui_k (by omega), ui_o (by omega)]
      rw [hc49]
      refine z_rcs hc hH 5 (pc' := 66) (lv' := [(1, .int 1), (0, .ref 50)]) (st' := [.int (lg_cmp ((w1 >>> ((nI c).toInt64 &&& 63)) &&& 1) 1)]) (μ' := W1) (by rfl) ?_
      have hJ9 : Z 0 76 [(1, .int 1), (0, .ref 50)] [] (lgM W1 1 (decide (lg_cmp ((w1 >>> ((nI c).toInt64 &&& 63)) &&& 1) 1 = 0))) := by
        refine z_rcs hc hH 7 (pc' := 46) (lv' := [(1, .int 2), (0, .ref 50)]) (st' := [.ref 50, .int 2]) (μ' := lgM W1 1 (decide (lg_cmp ((w1 >>> ((nI c).toInt64 &&& 63)) &&& 1) 1 = 0))) (by rfl) ?_
        refine zq_gfi hc hH (by rfl) (ci := 6) (f := 45) (by rfl) (by decide +kernel) (by rfl) ?_
        rw [lgM_o (by omega), (hO1 _ _ (by omega)).1, lgM_o (by omega), (hO0 _ _ (by omega)).1, ui_k (by omega), ui_k (by omega), ui_o (by omega)]
        rw [ht]
        refine z_rcs hc hH 8 (pc' := 46) (lv' := [(1, .int 3), (0, .ref 50)]) (st' := [.ref 50, .int 3]) (μ' := lgM W1 1 (decide (lg_cmp ((w1 >>> ((nI c).toInt64 &&& 63)) &&& 1) 1 = 0))) (by rfl) ?_
        refine zq_gfi hc hH (by rfl) (ci := 6) (f := 45) (by rfl) (by decide +kernel) (by rfl) ?_
        rw [lgM_o (by omega), (hO1 _ _ (by omega)).1, lgM_o (by omega), (hO0 _ _ (by omega)).1, ui_k (by omega), ui_k (by omega), ui_o (by omega)]
        rw [ht]
        refine z_rcs hc hH 3 (pc' := 54) (lv' := [(1, .int 3), (0, .ref 50)]) (st' := [.int 3, .ref 50]) (μ' := lgM W1 1 (decide (lg_cmp ((w1 >>> ((nI c).toInt64 &&& 63)) &&& 1) 1 = 0))) (by rfl) ?_
        refine zq_call hc (by rfl) (hw3 _ (SE_lg (SE_sm (SE_lg (SE_sm (SE_ui (SE_ui (SE_ui (SE_rf _) (by omega)) (by omega)) (by omega)) hO0)) hO1)) (a_H_lg (hA1)) d' (by omega)) (by decide +kernel) (fun r9 W3 hq => ?_)
        obtain ⟨rfl, hO3, hA3⟩ := hq
        show Z 0 57 [(1, .int 3), (0, .ref 50)] [.long w3] W3
        refine z_rcs hc hH 1 (pc' := 58) (lv' := [(1, .int 3), (0, .ref 50)]) (st' := [.ref 50, .long w3]) (μ' := W3) (by rfl) ?_
        refine zq_gfi hc hH (by rfl) (ci := 6) (f := 49) (by rfl) (by decide +kernel) (by rfl) ?_
        rw [(hO3 _ _ (by omega)).1, lgM_o (by omega), (hO1 _ _ (by omega)).1, lgM_o (by omega), (hO0 _ _ (by omega)).1, ui_k (by omega), ui_k (by omega), ui_o (by omega)]
        rw [hc49]
        refine z_rcs hc hH 5 (pc' := 66) (lv' := [(1, .int 3), (0, .ref 50)]) (st' := [.int (lg_cmp ((w3 >>> ((nI c).toInt64 &&& 63)) &&& 1) 1)]) (μ' := W3) (by rfl) ?_
        have hJ10 : Z 0 76 [(1, .int 3), (0, .ref 50)] [] (lgM W3 3 (decide (lg_cmp ((w3 >>> ((nI c).toInt64 &&& 63)) &&& 1) 1 = 0))) := by
          refine z_rcs hc hH 5 (pc' := 82) (lv' := [(1, .int 4), (0, .ref 50)]) (st' := []) (μ' := lgM W3 3 (decide (lg_cmp ((w3 >>> ((nI c).toInt64 &&& 63)) &&& 1) 1 = 0))) (by rfl) ?_
          exact hr 0 82 _ _ _ none (by decide +kernel) (by rfl) (⟨rfl, by unfold ovM2; rw [h1, cond_false]; exact SM_lg (SM_tr (SM_lg (SM_tr (SM_lg (SM_tr (SM_ui (SM_ui (SM_ui (SM_rf _)))) hO0)) hO1)) hO3)⟩)
        refine zq_if hc hH (by rfl) (tg := 76) (by rfl) (fun h11 => ?_) (fun h11 => ?_)
        · have h11 : (decide ((lg_cmp ((w3 >>> ((nI c).toInt64 &&& 63)) &&& 1) 1) = 0)) = false := decide_eq_false (cm_ne.mp h11)
          exact zJ hJ10 rfl rfl (by unfold lgM; rw [h11, cond_false])
        · have h11 : (decide ((lg_cmp ((w3 >>> ((nI c).toInt64 &&& 63)) &&& 1) 1) = 0)) = true := decide_eq_true (cn_ne.mp h11)
          refine z_rcs hc hH 1 (pc' := 70) (lv' := [(1, .int 3), (0, .ref 50)]) (st' := [.ref 50]) (μ' := W3) (by rfl) ?_
          refine zq_gfr hc hH (by rfl) (ci := 6) (f := 38) (q := 70) (by rfl) (by decide +kernel) (by rfl) (by decide +kernel) ?_
          refine z_rcs hc hH 2 (pc' := 75) (lv' := [(1, .int 3), (0, .ref 50)]) (st' := [.int 1, .int 3, .ref 70]) (μ' := W3) (by rfl) ?_
          refine zq_bast hc hH (by rfl) 4 (by decide +kernel) (show vp_in (nI 3) 4 from vp_in_nI (by decide) (by decide)) (by decide) ?_
          rw [show (3 : Int32).toNatClampNeg = 3 from rfl]
          show Z 0 76 [(1, .int 3), (0, .ref 50)] [] (z_ui W3 70 3 1)
          exact zJ hJ10 rfl rfl (by unfold lgM; rw [h11, cond_true])
      refine zq_if hc hH (by rfl) (tg := 76) (by rfl) (fun h12 => ?_) (fun h12 => ?_)
      · have h12 : (decide ((lg_cmp ((w1 >>> ((nI c).toInt64 &&& 63)) &&& 1) 1) = 0)) = false := decide_eq_false (cm_ne.mp h12)
        exact zJ hJ9 rfl rfl (by unfold lgM; rw [h12, cond_false])
      · have h12 : (decide ((lg_cmp ((w1 >>> ((nI c).toInt64 &&& 63)) &&& 1) 1) = 0)) = true := decide_eq_true (cn_ne.mp h12)
        refine z_rcs hc hH 1 (pc' := 70) (lv' := [(1, .int 1), (0, .ref 50)]) (st' := [.ref 50]) (μ' := W1) (by rfl) ?_
        refine zq_gfr hc hH (by rfl) (ci := 6) (f := 38) (q := 70) (by rfl) (by decide +kernel) (by rfl) (by decide +kernel) ?_
        refine z_rcs hc hH 2 (pc' := 75) (lv' := [(1, .int 1), (0, .ref 50)]) (st' := [.int 1, .int 1, .ref 70]) (μ' := W1) (by rfl) ?_
        refine zq_bast hc hH (by rfl) 4 (by decide +kernel) (show vp_in (nI 1) 4 from vp_in_nI (by decide) (by decide)) (by decide) ?_
        rw [show (1 : Int32).toNatClampNeg = 1 from rfl]
        show Z 0 76 [(1, .int 1), (0, .ref 50)] [] (z_ui W1 70 1 1)
        exact zJ hJ9 rfl rfl (by unfold lgM; rw [h12, cond_true])
    refine zq_if hc hH (by rfl) (tg := 76) (by rfl) (fun h13 => ?_) (fun h13 => ?_)
    · have h13 : (decide ((lg_cmp ((w0 >>> ((nI c).toInt64 &&& 63)) &&& 1) 1) = 0)) = false := decide_eq_false (cm_ne.mp h13)
      exact zJ hJ8 rfl rfl (by unfold lgM; rw [h13, cond_false])
    · have h13 : (decide ((lg_cmp ((w0 >>> ((nI c).toInt64 &&& 63)) &&& 1) 1) = 0)) = true := decide_eq_true (cn_ne.mp h13)
      refine z_rcs hc hH 1 (pc' := 70) (lv' := [(1, .int 0), (0, .ref 50)]) (st' := [.ref 50]) (μ' := W0) (by rfl) ?_
      refine zq_gfr hc hH (by rfl) (ci := 6) (f := 38) (q := 70) (by rfl) (by decide +kernel) (by rfl) (by decide +kernel) ?_
      refine z_rcs hc hH 2 (pc' := 75) (lv' := [(1, .int 0), (0, .ref 50)]) (st' := [.int 1, .int 0, .ref 70]) (μ' := W0) (by rfl) ?_
      refine zq_bast hc hH (by rfl) 4 (by decide +kernel) (show vp_in (nI 0) 4 from vp_in_nI (by decide) (by decide)) (by decide) ?_
      rw [show (0 : Int32).toNatClampNeg = 0 from rfl]
      show Z 0 76 [(1, .int 0), (0, .ref 50)] [] (z_ui W0 70 0 1)
      exact zJ hJ8 rfl rfl (by unfold lgM; rw [h13, cond_true])
def ovM3 (μ : zM) (c : Nat) (w0 w1 w2 : Int64) : zM := bif decide ((μ.1 50 59) = 0) then lgM (lgM (lgM μ 0 (decide (lg_cmp ((w0 >>> ((nI c).toInt64 &&& 63)) &&& 1) 1 = 0))) 1 (decide (lg_cmp ((w1 >>> ((nI c).toInt64 &&& 63)) &&& 1) 1 = 0))) 2 (decide (lg_cmp ((w2 >>> ((nI c).toInt64 &&& 63)) &&& 1) 1 = 0)) else lgM (lgM (lgM (z_ui (z_ui (z_ui μ 61 3 ((μ.1 61 3) - 1000)) 50 43 ((μ.1 50 43) + 1)) 50 59 0) 0 (decide (lg_cmp ((w0 >>> ((nI c).toInt64 &&& 63)) &&& 1) 1 = 0))) 1 (decide (lg_cmp ((w1 >>> ((nI c).toInt64 &&& 63)) &&& 1) 1 = 0))) 2 (decide (lg_cmp ((w2 >>> ((nI c).toInt64 &&& 63)) &&& 1) 1 = 0))
theorem gm_over3 (d : Nat) (hd : 700 ≤ d) (μ : zM) (hH0 : a_H μ) (c : Nat) (hc49 : μ.1 50 49 = nI c) (ht : μ.1 50 45 = 3) (w0 : Int64) (hw0 : ∀ M, SE μ M → a_H M → ∀ d, 699 ≤ d → z_C d mi_X7_waitsAt [.ref 50, .int 0] M (fun r W => r = some (.long w0) ∧ SMj M W ∧ a_H W)) (w1 : Int64) (hw1 : ∀ M, SE μ M → a_H M → ∀ d, 699 ≤ d → z_C d mi_X7_waitsAt [.ref 50, .int 1] M (fun r W => r = some (.long w1) ∧ SMj M W ∧ a_H W)) (w2 : Int64) (hw2 : ∀ M, SE μ M → a_H M → ∀ d, 699 ≤ d → z_C d mi_X7_waitsAt [.ref 50, .int 2] M (fun r W => r = some (.long w2) ∧ SMj M W ∧ a_H W)) : z_C d mi_X7_over [.ref 50] μ (fun r μ' => r = none ∧ SMj (ovM3 μ c w0 w1 w2) μ') := by
  refine z_C_in (by decide) (by omega) (fun d' Z ed hc hr => ?_)
  have hH : zH mi_X7_over zc_X7_over 79 7 2 := ⟨by rfl, by rfl, by rfl, by rfl⟩
  refine z_rcs hc hH 1 (pc' := 1) (lv' := [(0, .ref 50)]) (st' := [.ref 50]) (μ' := μ) (by rfl) ?_
  refine zq_gfi hc hH (by rfl) (ci := 6) (f := 59) (by rfl) (by decide +kernel) (by rfl) ?_
  refine zq_if hc hH (by rfl) (tg := 37) (by rfl) (fun h1 => ?_) (fun h1 => ?_)
  · have h1 : (decide ((μ.1 50 59) = 0)) = true := decide_eq_true (cm_eq9.mp h1)
    refine z_rcs hc hH 7 (pc' := 46) (lv' := [(1, .int 0), (0, .ref 50)]) (st' := [.ref 50, .int 0]) (μ' := μ) (by rfl) ?_
    refine zq_gfi hc hH (by rfl) (ci := 6) (f := 45) (by rfl) (by decide +kernel) (by rfl) ?_
    rw [ht]
    refine z_rcs hc hH 3 (pc' := 54) (lv' := [(1, .int 0), (0, .ref 50)]) (st' := [.int 0, .ref 50]) (μ' := μ) (by rfl) ?_
    refine zq_call hc (by rfl) (hw0 _ (SE_rf _) (hH0) d' (by omega)) (by decide +kernel) (fun r9 W0 hq => ?_)
    obtain ⟨rfl, hO0, hA0⟩ := hq
    show Z 0 57 [(1, .int 0), (0, .ref 50)] [.long w0] W0
    refine z_rcs hc hH 1 (pc' := 58) (lv' := [(1, .int 0), (0, .ref 50)]) (st' := [.ref 50, .long w0]) (μ' := W0) (by rfl) ?_
    refine zq_gfi hc hH (by rfl) (ci := 6) (f := 49) (by rfl) (by decide +kernel) (by rfl) ?_
    rw [(hO0 _ _ (by omega)).1]
    rw [hc49]
    refine z_rcs hc hH 5 (pc' := 66) (lv' := [(1, .int 0), (0, .ref 50)]) (st' := [.int (lg_cmp ((w0 >>> ((nI c).toInt64 &&& 63)) &&& 1) 1)]) (μ' := W0) (by rfl) ?_
    have hJ2 : Z 0 76 [(1, .int 0), (0, .ref 50)] [] (lgM W0 0 (decide (lg_cmp ((w0 >>> ((nI c).toInt64 &&& 63)) &&& 1) 1 = 0))) := by
      refine z_rcs hc hH 7 (pc' := 46) (lv' := [(1, .int 1), (0, .ref 50)]) (st' := [.ref 50, .int 1]) (μ' := lgM W0 0 (decide (lg_cmp ((w0 >>> ((nI c).toInt64 &&& 63)) &&& 1) 1 = 0))) (by rfl) ?_
      refine zq_gfi hc hH (by rfl) (ci := 6) (f := 45) (by rfl) (by decide +kernel) (by rfl) ?_
      rw [lgM_o (by omega), (hO0 _ _ (by omega)).1]
      rw [ht]
      refine z_rcs hc hH 3 (pc' := 54) (lv' := [(1, .int 1), (0, .ref 50)]) (st' := [.int 1, .ref 50]) (μ' := lgM W0 0 (decide (lg_cmp ((w0 >>> ((nI c).toInt64 &&& 63)) &&& 1) 1 = 0))) (by rfl) ?_
      refine zq_call hc (by rfl) (hw1 _ (SE_lg (SE_sm (SE_rf _) hO0)) (a_H_lg (hA0)) d' (by omega)) (by decide +kernel) (fun r9 W1 hq => ?_)
      obtain ⟨rfl, hO1, hA1⟩ := hq
      show Z 0 57 [(1, .int 1), (0, .ref 50)] [.long w1] W1
      refine z_rcs hc hH 1 (pc' := 58) (lv' := [(1, .int 1), (0, .ref 50)]) (st' := [.ref 50, .long w1]) (μ' := W1) (by rfl) ?_
      refine zq_gfi hc hH (by rfl) (ci := 6) (f := 49) (by rfl) (by decide +kernel) (by rfl) ?_
      rw [(hO1 _ _ (by omega)).1, lgM_o (by omega), (hO0 _ _ (by omega)).1]
      rw [hc49]
      refine z_rcs hc hH 5 (pc' := 66) (lv' := [(1, .int 1), (0, .ref 50)]) (st' := [.int (lg_cmp ((w1 >>> ((nI c).toInt64 &&& 63)) &&& 1) 1)]) (μ' := W1) (by rfl) ?_
      have hJ3 : Z 0 76 [(1, .int 1), (0, .ref 50)] [] (lgM W1 1 (decide (lg_cmp ((w1 >>> ((nI c).toInt64 &&& 63)) &&& 1) 1 = 0))) := by
        refine z_rcs hc hH 7 (pc' := 46) (lv' := [(1, .int 2), (0, .ref 50)]) (st' := [.ref 50, .int 2]) (μ' := lgM W1 1 (decide (lg_cmp ((w1 >>> ((nI c).toInt64 &&& 63)) &&& 1) 1 = 0))) (by rfl) ?_
        refine zq_gfi hc hH (by rfl) (ci := 6) (f := 45) (by rfl) (by decide +kernel) (by rfl) ?_
        rw [lgM_o (by omega), (hO1 _ _ (by omega)).1, lgM_o (by omega), (hO0 _ _ (by omega)).1]
        rw [ht]
        refine z_rcs hc hH 3 (pc' := 54) (lv' := [(1, .int 2), (0, .ref 50)]) (st' := [.int 2, .ref 50]) (μ' := lgM W1 1 (decide (lg_cmp ((w1 >>> ((nI c).toInt64 &&& 63)) &&& 1) 1 = 0))) (by rfl) ?_
        refine zq_call hc (by rfl) (hw2 _ (SE_lg (SE_sm (SE_lg (SE_sm (SE_rf _) hO0)) hO1)) (a_H_lg (hA1)) d' (by omega)) (by decide +kernel) (fun r9 W2 hq => ?_)
        obtain ⟨rfl, hO2, hA2⟩ := hq
        show Z 0 57 [(1, .int 2), (0, .ref 50)] [.long w2] W2
        refine z_rcs hc hH 1 (pc' := 58) (lv' := [(1, .int 2), (0, .ref 50)]) (st' := [.ref 50, .long w2]) (μ' := W2) (by rfl) ?_
        refine zq_gfi hc hH (by rfl) (ci := 6) (f := 49) (by rfl) (by decide +kernel) (by rfl) ?_
        rw [(hO2 _ _ (by omega)).1, lgM_o (by omega), (hO1 _ _ (by omega)).1, lgM_o (by omega), (hO0 _ _ (by omega)).1]
        rw [hc49]
        refine z_rcs hc hH 5 (pc' := 66) (lv' := [(1, .int 2), (0, .ref 50)]) (st' := [.int (lg_cmp ((w2 >>> ((nI c).toInt64 &&& 63)) &&& 1) 1)]) (μ' := W2) (by rfl) ?_
        have hJ4 : Z 0 76 [(1, .int 2), (0, .ref 50)] [] (lgM W2 2 (decide (lg_cmp ((w2 >>> ((nI c).toInt64 &&& 63)) &&& 1) 1 = 0))) := by
          refine z_rcs hc hH 7 (pc' := 46) (lv' := [(1, .int 3), (0, .ref 50)]) (st' := [.ref 50, .int 3]) (μ' := lgM W2 2 (decide (lg_cmp ((w2 >>> ((nI c).toInt64 &&& 63)) &&& 1) 1 = 0))) (by rfl) ?_
          refine zq_gfi hc hH (by rfl) (ci := 6) (f := 45) (by rfl) (by decide +kernel) (by rfl) ?_
          rw [lgM_o (by omega), (hO2 _ _ (by omega)).1, lgM_o (by omega), (hO1 _ _ (by omega)).1, lgM_o (by omega), (hO0 _ _ (by omega)).1]
          rw [ht]
          refine z_rcs hc hH 6 (pc' := 82) (lv' := [(1, .int 4), (0, .ref 50)]) (st' := []) (μ' := lgM W2 2 (decide (lg_cmp ((w2 >>> ((nI c).toInt64 &&& 63)) &&& 1) 1 = 0))) (by rfl) ?_
          exact hr 0 82 _ _ _ none (by decide +kernel) (by rfl) (⟨rfl, by unfold ovM3; rw [h1, cond_true]; exact SM_lg (SM_tr (SM_lg (SM_tr (SM_lg (SM_tr (SM_rf _) hO0)) hO1)) hO2)⟩)
        refine zq_if hc hH (by rfl) (tg := 76) (by rfl) (fun h5 => ?_) (fun h5 => ?_)
        · have h5 : (decide ((lg_cmp ((w2 >>> ((nI c).toInt64 &&& 63)) &&& 1) 1) = 0)) = false := decide_eq_false (cm_ne.mp h5)
          exact zJ hJ4 rfl rfl (by unfold lgM; rw [h5, cond_false])
        · have h5 : (decide ((lg_cmp ((w2 >>> ((nI c).toInt64 &&& 63)) &&& 1) 1) = 0)) = true := decide_eq_true (cn_ne.mp h5)
          refine z_rcs hc hH 1 (pc' := 70) (lv' := [(1, .int 2), (0, .ref 50)]) (st' := [.ref 50]) (μ' := W2) (by rfl) ?_
          refine zq_gfr hc hH (by rfl) (ci := 6) (f := 38) (q := 70) (by rfl) (by decide +kernel) (by rfl) (by decide +kernel) ?_
          refine z_rcs hc hH 2 (pc' := 75) (lv' := [(1, .int 2), (0, .ref 50)]) (st' := [.int 1, .int 2, .ref 70]) (μ' := W2) (by rfl) ?_
          refine zq_bast hc hH (by rfl) 4 (by decide +kernel) (show vp_in (nI 2) 4 from vp_in_nI (by decide) (by decide)) (by decide) ?_
          rw [show (2 : Int32).toNatClampNeg = 2 from rfl]
          show Z 0 76 [(1, .int 2), (0, .ref 50)] [] (z_ui W2 70 2 1)
          exact zJ hJ4 rfl rfl (by unfold lgM; rw [h5, cond_true])
      refine zq_if hc hH (by rfl) (tg := 76) (by rfl) (fun h6 => ?_) (fun h6 => ?_)
      · have h6 : (decide ((lg_cmp ((w1 >>> ((nI c).toInt64 &&& 63)) &&& 1) 1) = 0)) = false := decide_eq_false (cm_ne.mp h6)
        exact zJ hJ3 rfl rfl (by unfold lgM; rw [h6, cond_false])
      · have h6 : (decide ((lg_cmp ((w1 >>> ((nI c).toInt64 &&& 63)) &&& 1) 1) = 0)) = true := decide_eq_true (cn_ne.mp h6)
        refine z_rcs hc hH 1 (pc' := 70) (lv' := [(1, .int 1), (0, .ref 50)]) (st' := [.ref 50]) (μ' := W1) (by rfl) ?_
        refine zq_gfr hc hH (by rfl) (ci := 6) (f := 38) (q := 70) (by rfl) (by decide +kernel) (by rfl) (by decide +kernel) ?_
        refine z_rcs hc hH 2 (pc' := 75) (lv' := [(1, .int 1), (0, .ref 50)]) (st' := [.int 1, .int 1, .ref 70]) (μ' := W1) (by rfl) ?_
        refine zq_bast hc hH (by rfl) 4 (by decide +kernel) (show vp_in (nI 1) 4 from vp_in_nI (by decide) (by decide)) (by decide) ?_
        rw [show (1 : Int32).toNatClampNeg = 1 from rfl]
        show Z 0 76 [(1, .int 1), (0, .ref 50)] [] (z_ui W1 70 1 1)
        exact zJ hJ3 rfl rfl (by unfold lgM; rw [h6, cond_true])
    refine zq_if hc hH (by rfl) (tg := 76) (by rfl) (fun h7 => ?_) (fun h7 => ?_)
    · have h7 : (decide ((lg_cmp ((w0 >>> ((nI c).toInt64 &&& 63)) &&& 1) 1) = 0)) = false := decide_eq_false (cm_ne.mp h7)
      exact zJ hJ2 rfl rfl (by unfold lgM; rw [h7, cond_false])
    · have h7 : (decide ((lg_cmp ((w0 >>> ((nI c).toInt64 &&& 63)) &&& 1) 1) = 0)) = true := decide_eq_true (cn_ne.mp h7)
      refine z_rcs hc hH 1 (pc' := 70) (lv' := [(1, .int 0), (0, .ref 50)]) (st' := [.ref 50]) (μ' := W0) (by rfl) ?_
      refine zq_gfr hc hH (by rfl) (ci := 6) (f := 38) (q := 70) (by rfl) (by decide +kernel) (by rfl) (by decide +kernel) ?_
      refine z_rcs hc hH 2 (pc' := 75) (lv' := [(1, .int 0), (0, .ref 50)]) (st' := [.int 1, .int 0, .ref 70]) (μ' := W0) (by rfl) ?_
      refine zq_bast hc hH (by rfl) 4 (by decide +kernel) (show vp_in (nI 0) 4 from vp_in_nI (by decide) (by decide)) (by decide) ?_
      rw [show (0 : Int32).toNatClampNeg = 0 from rfl]
      show Z 0 76 [(1, .int 0), (0, .ref 50)] [] (z_ui W0 70 0 1)
      exact zJ hJ2 rfl rfl (by unfold lgM; rw [h7, cond_true])
  · have h1 : (decide ((μ.1 50 59) = 0)) = false := decide_eq_false (cn_eq.mp h1)
    refine z_rcs hc hH 1 (pc' := 8) (lv' := [(0, .ref 50)]) (st' := [.ref 50]) (μ' := μ) (by rfl) ?_
    refine zq_gfr hc hH (by rfl) (ci := 6) (f := 29) (q := 61) (by rfl) (by decide +kernel) (by rfl) (by decide +kernel) ?_
    refine z_rcs hc hH 1 (pc' := 12) (lv' := [(0, .ref 50)]) (st' := [.ref 50, .ref 61]) (μ' := μ) (by rfl) ?_
    refine zq_gfi hc hH (by rfl) (ci := 6) (f := 45) (by rfl) (by decide +kernel) (by rfl) ?_
    rw [ht]
    refine z_rcs hc hH 1 (pc' := 16) (lv' := [(0, .ref 50)]) (st' := [.int 3, .ref 61, .int 3, .ref 61]) (μ' := μ) (by rfl) ?_
    refine zq_iald hc hH (by rfl) 4 (oka_i (by decide +kernel)) (show vp_in (nI 3) 4 from vp_in_nI (by decide) (by decide)) ?_
    rw [show (3 : Int32).toNatClampNeg = 3 from rfl]
    refine z_rcs hc hH 2 (pc' := 21) (lv' := [(0, .ref 50)]) (st' := [.int ((μ.1 61 3) - 1000), .int 3, .ref 61]) (μ' := μ) (by rfl) ?_
    refine zq_iast hc hH (by rfl) 4 (oka_i (by decide +kernel)).2 (show vp_in (nI 3) 4 from vp_in_nI (by decide) (by decide)) ?_
    rw [show (3 : Int32).toNatClampNeg = 3 from rfl]
    show Z 0 22 [(0, .ref 50)] [] (z_ui μ 61 3 ((μ.1 61 3) - 1000))
    refine z_rcs hc hH 2 (pc' := 24) (lv' := [(0, .ref 50)]) (st' := [.ref 50, .ref 50]) (μ' := z_ui μ 61 3 ((μ.1 61 3) - 1000)) (by rfl) ?_
    refine zq_gfi hc hH (by rfl) (ci := 6) (f := 43) (by rfl) (by decide +kernel) (by rfl) ?_
    rw [ui_o (by omega)]
    refine z_rcs hc hH 2 (pc' := 29) (lv' := [(0, .ref 50)]) (st' := [.int ((μ.1 50 43) + 1), .ref 50]) (μ' := z_ui μ 61 3 ((μ.1 61 3) - 1000)) (by rfl) ?_
    refine zq_pfi hc hH (by rfl) (ci := 6) (f := 43) (by rfl) (by decide +kernel) (by rfl) ?_
    show Z 0 32 [(0, .ref 50)] [] (z_ui (z_ui μ 61 3 ((μ.1 61 3) - 1000)) 50 43 ((μ.1 50 43) + 1))
    refine z_rcs hc hH 2 (pc' := 34) (lv' := [(0, .ref 50)]) (st' := [.int 0, .ref 50]) (μ' := z_ui (z_ui μ 61 3 ((μ.1 61 3) - 1000)) 50 43 ((μ.1 50 43) + 1)) (by rfl) ?_
    refine zq_pfb hc hH (by rfl) (ci := 6) (f := 59) (by rfl) (by decide +kernel) (by rfl) (by decide) ?_
    show Z 0 37 [(0, .ref 50)] [] (z_ui (z_ui (z_ui μ 61 3 ((μ.1 61 3) - 1000)) 50 43 ((μ.1 50 43) + 1)) 50 59 0)
    refine z_rcs hc hH 7 (pc' := 46) (lv' := [(1, .int 0), (0, .ref 50)]) (st' := [.ref 50, .int 0]) (μ' := z_ui (z_ui (z_ui μ 61 3 ((μ.1 61 3) - 1000)) 50 43 ((μ.1 50 43) + 1)) 50 59 0) (by rfl) ?_
    refine zq_gfi hc hH (by rfl) (ci := 6) (f := 45) (by rfl) (by decide +kernel) (by rfl) ?_
    rw [ui_k (by omega), ui_k (by omega), ui_o (by omega)]
    rw [ht]
    refine z_rcs hc hH 3 (pc' := 54) (lv' := [(1, .int 0), (0, .ref 50)]) (st' := [.int 0, .ref 50]) (μ' := z_ui (z_ui (z_ui μ 61 3 ((μ.1 61 3) - 1000)) 50 43 ((μ.1 50 43) + 1)) 50 59 0) (by rfl) ?_
    refine zq_call hc (by rfl) (hw0 _ (SE_ui (SE_ui (SE_ui (SE_rf _) (by omega)) (by omega)) (by omega)) (a_H_ui (r := 50) (k := 59) (a_H_ui (r := 50) (k := 43) (a_H_ui (r := 61) (k := 3) (hH0) (bI_top _)) (bI_top _)) ⟨by decide, by decide⟩) d' (by omega)) (by decide +kernel) (fun r9 W0 hq => ?_)
    obtain ⟨rfl, hO0, hA0⟩ := hq
    show Z 0 57 [(1, .int 0), (0, .ref 50)] [.long w0] W0
    refine z_rcs hc hH 1 (pc' := 58) (lv' := [(1, .int 0), (0, .ref 50)]) (st' := [.ref 50, .long w0]) (μ' := W0) (by rfl) ?_
    refine zq_gfi hc hH (by rfl) (ci := 6) (f := 49) (by rfl) (by decide +kernel) (by rfl) ?_
    rw [(hO0 _ _ (by omega)).1, ui_k (by omega), ui_k (by omega), ui_o (by omega)]
    rw [hc49]
    refine z_rcs hc hH 5 (pc' := 66) (lv' := [(1, .int 0), (0, .ref 50)]) (st' := [.int (lg_cmp ((w0 >>> ((nI c).toInt64 &&& 63)) &&& 1) 1)]) (μ' := W0) (by rfl) ?_
    have hJ8 : Z 0 76 [(1, .int 0), (0, .ref 50)] [] (lgM W0 0 (decide (lg_cmp ((w0 >>> ((nI c).toInt64 &&& 63)) &&& 1) 1 = 0))) := by
      refine z_rcs hc hH 7 (pc' := 46) (lv' := [(1, .int 1), (0, .ref 50)]) (st' := [.ref 50, .int 1]) (μ' := lgM W0 0 (decide (lg_cmp ((w0 >>> ((nI c).toInt64 &&& 63)) &&& 1) 1 = 0))) (by rfl) ?_
      refine zq_gfi hc hH (by rfl) (ci := 6) (f := 45) (by rfl) (by decide +kernel) (by rfl) ?_
      rw [lgM_o (by omega), (hO0 _ _ (by omega)).1, ui_k (by omega), ui_k (by omega), ui_o (by omega)]
      rw [ht]
      refine z_rcs hc hH 3 (pc' := 54) (lv' := [(1, .int 1), (0, .ref 50)]) (st' := [.int 1, .ref 50]) (μ' := lgM W0 0 (decide (lg_cmp ((w0 >>> ((nI c).toInt64 &&& 63)) &&& 1) 1 = 0))) (by rfl) ?_
      refine zq_call hc (by rfl) (hw1 _ (SE_lg (SE_sm (SE_ui (SE_ui (SE_ui (SE_rf _) (by omega)) (by omega)) (by omega)) hO0)) (a_H_lg (hA0)) d' (by omega)) (by decide +kernel) (fun r9 W1 hq => ?_)
      obtain ⟨rfl, hO1, hA1⟩ := hq
      show Z 0 57 [(1, .int 1), (0, .ref 50)] [.long w1] W1
      refine z_rcs hc hH 1 (pc' := 58) (lv' := [(1, .int 1), (0, .ref 50)]) (st' := [.ref 50, .long w1]) (μ' := W1) (by rfl) ?_
      refine zq_gfi hc hH (by rfl) (ci := 6) (f := 49) (by rfl) (by decide +kernel) (by rfl) ?_
      rw [(hO1 _ _ (by omega)).1, lgM_o (by omega), (hO0 _ _ (by omega)).1, ui_k (by omega), ui_k (by omega), ui_o (by omega)]
      rw [hc49]
      refine z_rcs hc hH 5 (pc' := 66) (lv' := [(1, .int 1), (0, .ref 50)]) (st' := [.int (lg_cmp ((w1 >>> ((nI c).toInt64 &&& 63)) &&& 1) 1)]) (μ' := W1) (by rfl) ?_
      have hJ9 : Z 0 76 [(1, .int 1), (0, .ref 50)] [] (lgM W1 1 (decide (lg_cmp ((w1 >>> ((nI c).toInt64 &&& 63)) &&& 1) 1 = 0))) := by
        refine z_rcs hc hH 7 (pc' := 46) (lv' := [(1, .int 2), (0, .ref 50)]) (st' := [.ref 50, .int 2]) (μ' := lgM W1 1 (decide (lg_cmp ((w1 >>> ((nI c).toInt64 &&& 63)) &&& 1) 1 = 0))) (by rfl) ?_
        refine zq_gfi hc hH (by rfl) (ci := 6) (f := 45) (by rfl) (by decide +kernel) (by rfl) ?_
        rw [lgM_o (by omega), (hO1 _ _ (by omega)).1, lgM_o (by omega), (hO0 _ _ (by omega)).1, ui_k (by omega), ui_k (by omega), ui_o (by omega)]
        rw [ht]
        refine z_rcs hc hH 3 (pc' := 54) (lv' := [(1, .int 2), (0, .ref 50)]) (st' := [.int 2, .ref 50]) (μ' := lgM W1 1 (decide (lg_cmp ((w1 >>> ((nI c).toInt64 &&& 63)) &&& 1) 1 = 0))) (by rfl) ?_
        refine zq_call hc (by rfl) (hw2 _ (SE_lg (SE_sm (SE_lg (SE_sm (SE_ui (SE_ui (SE_ui (SE_rf _) (by omega)) (by omega)) (by omega)) hO0)) hO1)) (a_H_lg (hA1)) d' (by omega)) (by decide +kernel) (fun r9 W2 hq => ?_)
        obtain ⟨rfl, hO2, hA2⟩ := hq
        show Z 0 57 [(1, .int 2), (0, .ref 50)] [.long w2] W2
        refine z_rcs hc hH 1 (pc' := 58) (lv' := [(1, .int 2), (0, .ref 50)]) (st' := [.ref 50, .long w2]) (μ' := W2) (by rfl) ?_
        refine zq_gfi hc hH (by rfl) (ci := 6) (f := 49) (by rfl) (by decide +kernel) (by rfl) ?_
        rw [(hO2 _ _ (by omega)).1, lgM_o (by omega), (hO1 _ _ (by omega)).1, lgM_o (by omega), (hO0 _ _ (by omega)).1, ui_k (by omega), ui_k (by omega), ui_o (by omega)]
        rw [hc49]
        refine z_rcs hc hH 5 (pc' := 66) (lv' := [(1, .int 2), (0, .ref 50)]) (st' := [.int (lg_cmp ((w2 >>> ((nI c).toInt64 &&& 63)) &&& 1) 1)]) (μ' := W2) (by rfl) ?_
        have hJ10 : Z 0 76 [(1, .int 2), (0, .ref 50)] [] (lgM W2 2 (decide (lg_cmp ((w2 >>> ((nI c).toInt64 &&& 63)) &&& 1) 1 = 0))) := by
          refine z_rcs hc hH 7 (pc' := 46) (lv' := [(1, .int 3), (0, .ref 50)]) (st' := [.ref 50, .int 3]) (μ' := lgM W2 2 (decide (lg_cmp ((w2 >>> ((nI c).toInt64 &&& 63)) &&& 1) 1 = 0))) (by rfl) ?_
          refine zq_gfi hc hH (by rfl) (ci := 6) (f := 45) (by rfl) (by decide +kernel) (by rfl) ?_
          rw [lgM_o (by omega), (hO2 _ _ (by omega)).1, lgM_o (by omega), (hO1 _ _ (by omega)).1, lgM_o (by omega), (hO0 _ _ (by omega)).1, ui_k (by omega), ui_k (by omega), ui_o (by omega)]
          rw [ht]
          refine z_rcs hc hH 6 (pc' := 82) (lv' := [(1, .int 4), (0, .ref 50)]) (st' := []) (μ' := lgM W2 2 (decide (lg_cmp ((w2 >>> ((nI c).toInt64 &&& 63)) &&& 1) 1 = 0))) (by rfl) ?_
          exact hr 0 82 _ _ _ none (by decide +kernel) (by rfl) (⟨rfl, by unfold ovM3; rw [h1, cond_false]; exact SM_lg (SM_tr (SM_lg (SM_tr (SM_lg (SM_tr (SM_ui (SM_ui (SM_ui (SM_rf _)))) hO0)) hO1)) hO2)⟩)
        refine zq_if hc hH (by rfl) (tg := 76) (by rfl) (fun h11 => ?_) (fun h11 => ?_)
        · have h11 : (decide ((lg_cmp ((w2 >>> ((nI c).toInt64 &&& 63)) &&& 1) 1) = 0)) = false := decide_eq_false (cm_ne.mp h11)
          exact zJ hJ10 rfl rfl (by unfold lgM; rw [h11, cond_false])
        · have h11 : (decide ((lg_cmp ((w2 >>> ((nI c).toInt64 &&& 63)) &&& 1) 1) = 0)) = true := decide_eq_true (cn_ne.mp h11)
          refine z_rcs hc hH 1 (pc' := 70) (lv' := [(1, .int 2), (0, .ref 50)]) (st' := [.ref 50]) (μ' := W2) (by rfl) ?_
          refine zq_gfr hc hH (by rfl) (ci := 6) (f := 38) (q := 70) (by rfl) (by decide +kernel) (by rfl) (by decide +kernel) ?_
          refine z_rcs hc hH 2 (pc' := 75) (lv' := [(1, .int 2), (0, .ref 50)]) (st' := [.int 1, .int 2, .ref 70]) (μ' := W2) (by rfl) ?_
          refine zq_bast hc hH (by rfl) 4 (by decide +kernel) (show vp_in (nI 2) 4 from vp_in_nI (by decide) (by decide)) (by decide) ?_
          rw [show (2 : Int32).toNatClampNeg = 2 from rfl]
          show Z 0 76 [(1, .int 2), (0, .ref 50)] [] (z_ui W2 70 2 1)
          exact zJ hJ10 rfl rfl (by unfold lgM; rw [h11, cond_true])
      refine zq_if hc hH (by rfl) (tg := 76) (by rfl) (fun h12 => ?_) (fun h12 => ?_)
      · have h12 : (decide ((lg_cmp ((w1 >>> ((nI c).toInt64 &&& 63)) &&& 1) 1) = 0)) = false := decide_eq_false (cm_ne.mp h12)
        exact zJ hJ9 rfl rfl (by unfold lgM; rw [h12, cond_false])
      · have h12 : (decide ((lg_cmp ((w1 >>> ((nI c).toInt64 &&& 63)) &&& 1) 1) = 0)) = true := decide_eq_true (cn_ne.mp h12)
        refine z_rcs hc hH 1 (pc' := 70) (lv' := [(1, .int 1), (0, .ref 50)]) (st' := [.ref 50]) (μ' := W1) (by rfl) ?_
        refine zq_gfr hc hH (by rfl) (ci := 6) (f := 38) (q := 70) (by rfl) (by decide +kernel) (by rfl) (by decide +kernel) ?_
        refine z_rcs hc hH 2 (pc' := 75) (lv' := [(1, .int 1), (0, .ref 50)]) (st' := [.int 1, .int 1, .ref 70]) (μ' := W1) (by rfl) ?_
        refine zq_bast hc hH (by rfl) 4 (by decide +kernel) (show vp_in (nI 1) 4 from vp_in_nI (by decide) (by decide)) (by decide) ?_
        rw [show (1 : Int32).toNatClampNeg = 1 from rfl]
        show Z 0 76 [(1, .int 1), (0, .ref 50)] [] (z_ui W1 70 1 1)
        exact zJ hJ9 rfl rfl (by unfold lgM; rw [h12, cond_true])
    refine zq_if hc hH (by rfl) (tg := 76) (by rfl) (fun h13 => ?_) (fun h13 => ?_)
    · have h13 : (decide ((lg_cmp ((w0 >>> ((nI c).toInt64 &&& 63)) &&& 1) 1) = 0)) = false := decide_eq_false (cm_ne.mp h13)
      exact zJ hJ8 rfl rfl (by unfold lgM; rw [h13, cond_false])
    · have h13 : (decide ((lg_cmp ((w0 >>> ((nI c).toInt64 &&& 63)) &&& 1) 1) = 0)) = true := decide_eq_true (cn_ne.mp h13)
      refine z_rcs hc hH 1 (pc' := 70) (lv' := [(1, .int 0), (0, .ref 50)]) (st' := [.ref 50]) (μ' := W0) (by rfl) ?_
      refine zq_gfr hc hH (by rfl) (ci := 6) (f := 38) (q := 70) (by rfl) (by decide +kernel) (by rfl) (by decide +kernel) ?_
      refine z_rcs hc hH 2 (pc' := 75) (lv' := [(1, .int 0), (0, .ref 50)]) (st' := [.int 1, .int 0, .ref 70]) (μ' := W0) (by rfl) ?_
      refine zq_bast hc hH (by rfl) 4 (by decide +kernel) (show vp_in (nI 0) 4 from vp_in_nI (by decide) (by decide)) (by decide) ?_
      rw [show (0 : Int32).toNatClampNeg = 0 from rfl]
      show Z 0 76 [(1, .int 0), (0, .ref 50)] [] (z_ui W0 70 0 1)
      exact zJ hJ8 rfl rfl (by unfold lgM; rw [h13, cond_true])

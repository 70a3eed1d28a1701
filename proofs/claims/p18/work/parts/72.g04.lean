/-! like RUNS, OPEN, hidden: as expressions -/
set_option maxRecDepth 8000
theorem mGP2 {μ : zM} {a b g p : Int64} {c f : Int32} : mGP (mGP μ a b c) g p f = mGP μ g p f := by
  rw [show mGP (mGP μ a b c) g p f = z_uj (z_uj (z_ui (mGP (mGP μ a b c) a b c) 50 23 f) 50 25 p) 50 24 g by rw [mGP_f, mGP_p, mGP_g]]
  rw [show mGP (mGP μ a b c) a b c = mGP μ a b c from mGP_rf (mGP μ a b c), mGP_f, mGP_p, mGP_g]
noncomputable def xOp (μ : zM) : Nat → Bool
  | 0 => false
  | i + 1 => xOp μ i || !decide (μ.1 52 i = 3)
theorem xOp_iff (μ : zM) : ∀ q, xOp μ q = true ↔ ∃ j, j < q ∧ ¬ μ.1 52 j = 3 := by
  intro q
  induction q with
  | zero => exact ⟨fun h => absurd h Bool.false_ne_true, fun ⟨j, hj, _⟩ => absurd hj (by omega)⟩
  | succ q ih =>
    show (xOp μ q || !decide (μ.1 52 q = 3)) = true ↔ _
    rw [Bool.or_eq_true, ih, Bool.not_eq_true', decide_eq_false_iff_not]
    constructor
    · rintro (⟨j, h1, h2⟩ | h)
      · exact ⟨j, by omega, h2⟩
      · exact ⟨q, by omega, h⟩
    · rintro ⟨j, h1, h2⟩
      by_cases e : j = q
      · exact Or.inr (e ▸ h2)
      · exact Or.inl ⟨j, by omega, h2⟩
theorem fb_X7_isOpen (d : Nat) (hd : 1 ≤ d) (μ : zM) (q : Nat) (hq : q ≤ 4) (e4 : μ.1 50 4 = nI q) : z_C d mi_X7_isOpen [.ref 50] μ (zR μ (.int (nB (xOp μ q)))) := by
  refine z_C_mono (fc_X7_isOpen d hd μ q hq e4) (fun r μ' h => ⟨h.1, ?_⟩)
  rcases h.2 with ⟨e, h⟩ | ⟨e, h⟩
  · rw [e, (xOp_iff μ q).mpr h]; rfl
  · rw [e, show xOp μ q = false by rw [← Bool.not_eq_true]; exact fun z => h ((xOp_iff μ q).mp z)]; rfl
theorem fb_X7_twins (d : Nat) (hd : 2 ≤ d) (μ : zM) (s l : Nat → Nat) (hA : AY μ s l) : z_C d mi_X7_twins [.ref 50] μ (fun r μ' => r = none ∧ μ' = mGP μ (μ.2.1 50 24) (((μ.2.1 50 25) ||| (lb (decide ((nI (twn s l 27)) = 1)) 10)) ||| (lb (decide ((nI (twn s l 27)) = 2)) 28)) (μ.1 50 23)) := by
  refine z_C_in (by decide) (by omega) (fun d' Z ed hc hr => ?_)
  have hH : zH mi_X7_twins zt_X7_twins 79 7 5 := hh_X7_twins
  refine z_rcs hc hH 4 (pc' := 4) (lv' := [(2, .int 0), (1, .int 0), (0, .ref 50)]) (st' := []) (μ' := μ) (by rfl) ?_
  refine (tw4 d' Z (by omega) μ s l hA hc (fun x3 => ?_) 27 0 (by omega)).2 rfl
  refine zJ (μ := mGP μ (μ.2.1 50 24) (μ.2.1 50 25) (μ.1 50 23)) ?_ rfl rfl (mGP_rf μ)
  refine z_rcs hc hH 2 (pc' := 70) (lv' := [(2, .int (nI 27)), (1, .int (nI (twn s l 27))), (4, .int (nI 4)), (3, .int x3), (0, .ref 50)]) (st' := [.int 1, .int (nI (twn s l 27))]) (μ' := mGP μ (μ.2.1 50 24) (μ.2.1 50 25) (μ.1 50 23)) (by rfl) ?_
  have hJ1 : Z 0 87 [(2, .int (nI 27)), (1, .int (nI (twn s l 27))), (4, .int (nI 4)), (3, .int x3), (0, .ref 50)] [] (mGP μ (μ.2.1 50 24) ((μ.2.1 50 25) ||| (lb (decide ((nI (twn s l 27)) = 1)) 10)) (μ.1 50 23)) := by
    refine z_rcs0 hc hH 2 (pc' := 89) (lv' := [(2, .int (nI 27)), (1, .int (nI (twn s l 27))), (4, .int (nI 4)), (3, .int x3), (0, .ref 50)]) (st' := [.int 2, .int (nI (twn s l 27))]) (by rfl) ?_
    refine zq_ic hc hH (by rfl) (tg := 106) (by rfl) (fun h2 => ?_) (fun h2 => ?_)
    · have h2 : (decide ((nI (twn s l 27)) = 2)) = false := decide_eq_false (cm_ne.mp h2)
      exact hr 0 106 _ _ _ none (by decide +kernel) (by rfl) (⟨rfl, (by simp only [h2, lb_f, Int64.or_zero, nB_t, nB_f, Bool.not_true, Bool.not_false, Bool.and_true, Bool.true_and, Bool.false_and, Bool.and_false, Bool.or_true, Bool.true_or, Bool.false_or, Bool.or_false, cond_true, cond_false])⟩)
    · have h2 : (decide ((nI (twn s l 27)) = 2)) = true := decide_eq_true (cn_ne.mp h2)
      refine z_rcs0 hc hH 4 (pc' := 99) (lv' := [(2, .int (nI 27)), (1, .int (nI (twn s l 27))), (4, .int (nI 4)), (3, .int x3), (0, .ref 50)]) (st' := [.int 28, .long ((μ.2.1 50 25) ||| (lb (decide ((nI (twn s l 27)) = 1)) 10)), .ref 50]) (by rfl) ?_
      refine zq_call hc (z_cx_ok hH (by rfl)) (fb_X7_bit d' (by omega) (mGP μ (μ.2.1 50 24) ((μ.2.1 50 25) ||| (lb (decide ((nI (twn s l 27)) = 1)) 10)) (μ.1 50 23)) 28) (by decide +kernel) (fun r9 μ9 hq => ?_)
      obtain ⟨hμ9, rfl⟩ := hq
      rw [hμ9]
      clear hμ9 μ9
      show Z 0 102 [(2, .int (nI 27)), (1, .int (nI (twn s l 27))), (4, .int (nI 4)), (3, .int x3), (0, .ref 50)] [.long (lb true 28), .long ((μ.2.1 50 25) ||| (lb (decide ((nI (twn s l 27)) = 1)) 10)), .ref 50] _
      refine z_rcs hc hH 2 (pc' := 106) (lv' := [(2, .int (nI 27)), (1, .int (nI (twn s l 27))), (4, .int (nI 4)), (3, .int x3), (0, .ref 50)]) (st' := []) (μ' := z_uj (mGP μ (μ.2.1 50 24) ((μ.2.1 50 25) ||| (lb (decide ((nI (twn s l 27)) = 1)) 10)) (μ.1 50 23)) 50 25 (((μ.2.1 50 25) ||| (lb (decide ((nI (twn s l 27)) = 1)) 10)) ||| (lb true 28))) (by rfl) ?_
      rw [mGP_p]
      exact hr 0 106 _ _ _ none (by decide +kernel) (by rfl) (⟨rfl, (by simp only [h2, lb_f, Int64.or_zero, nB_t, nB_f, Bool.not_true, Bool.not_false, Bool.and_true, Bool.true_and, Bool.false_and, Bool.and_false, Bool.or_true, Bool.true_or, Bool.false_or, Bool.or_false, cond_true, cond_false])⟩)
  refine zq_ic hc hH (by rfl) (tg := 87) (by rfl) (fun h3 => ?_) (fun h3 => ?_)
  · have h3 : (decide ((nI (twn s l 27)) = 1)) = false := decide_eq_false (cm_ne.mp h3)
    exact zJ hJ1 rfl rfl (by simp only [h3, lb_f, Int64.or_zero, nB_t, nB_f, Bool.not_true, Bool.not_false, Bool.and_true, Bool.true_and, Bool.false_and, Bool.and_false, Bool.or_true, Bool.true_or, Bool.false_or, Bool.or_false, cond_true, cond_false])
  · have h3 : (decide ((nI (twn s l 27)) = 1)) = true := decide_eq_true (cn_ne.mp h3)
    refine z_rcs hc hH 4 (pc' := 80) (lv' := [(2, .int (nI 27)), (1, .int (nI (twn s l 27))), (4, .int (nI 4)), (3, .int x3), (0, .ref 50)]) (st' := [.int 10, .long (μ.2.1 50 25), .ref 50]) (μ' := mGP μ (μ.2.1 50 24) (μ.2.1 50 25) (μ.1 50 23)) (by rfl) ?_
    refine zq_call hc (z_cx_ok hH (by rfl)) (fb_X7_bit d' (by omega) (mGP μ (μ.2.1 50 24) (μ.2.1 50 25) (μ.1 50 23)) 10) (by decide +kernel) (fun r9 μ9 hq => ?_)
    obtain ⟨hμ9, rfl⟩ := hq
    rw [hμ9]
    clear hμ9 μ9
    show Z 0 83 [(2, .int (nI 27)), (1, .int (nI (twn s l 27))), (4, .int (nI 4)), (3, .int x3), (0, .ref 50)] [.long (lb true 10), .long (μ.2.1 50 25), .ref 50] _
    refine z_rcs hc hH 2 (pc' := 87) (lv' := [(2, .int (nI 27)), (1, .int (nI (twn s l 27))), (4, .int (nI 4)), (3, .int x3), (0, .ref 50)]) (st' := []) (μ' := z_uj (mGP μ (μ.2.1 50 24) (μ.2.1 50 25) (μ.1 50 23)) 50 25 ((μ.2.1 50 25) ||| (lb true 10))) (by rfl) ?_
    rw [mGP_p]
    exact zJ hJ1 rfl rfl (by simp only [h3, lb_f, Int64.or_zero, nB_t, nB_f, Bool.not_true, Bool.not_false, Bool.and_true, Bool.true_and, Bool.false_and, Bool.and_false, Bool.or_true, Bool.true_or, Bool.false_or, Bool.or_false, cond_true, cond_false])
noncomputable def xHi0 (μ : zM) : Bool := (decide ((μ.1 56 0) = 3)) || (!(decide ((0 : Int32) < (μ.1 50 4))) && ((decide ((μ.1 56 0) = 1)) && (!(decide ((μ.1 50 11) = 0)) || (!(decide ((μ.1 50 22) = 0))))))
theorem fb_X7_isHidden0 (d : Nat) (hd : 1 ≤ d) (μ : zM) : z_C d mi_X7_isHidden [.ref 50, .int 0] μ (zR μ (.int (nB (xHi0 μ)))) := by
  refine z_C_in (by decide) (by omega) (fun d' Z ed hc hr => ?_)
  have hH : zH mi_X7_isHidden zt_X7_isHidden 79 7 2 := hh_X7_isHidden
  refine z_rcs hc hH 3 (pc' := 5) (lv' := [(0, .ref 50), (1, .int 0)]) (st' := [.int 0, .ref 56]) (μ' := μ) (by rfl) ?_
  refine zq_iald hc hH (by rfl) 4 (by decide +kernel) (show vp_in (nI 0) 4 from vp_in_nI (by decide) (by decide)) ?_
  show Z 0 6 [(0, .ref 50), (1, .int 0)] [.int (μ.1 56 0)] μ
  refine z_rcs hc hH 1 (pc' := 7) (lv' := [(0, .ref 50), (1, .int 0)]) (st' := [.int 3, .int (μ.1 56 0)]) (μ' := μ) (by rfl) ?_
  refine zq_ic hc hH (by rfl) (tg := 12) (by rfl) (fun h1 => ?_) (fun h1 => ?_)
  · have h1 : (decide ((μ.1 56 0) = 3)) = false := decide_eq_false (cm_ne.mp h1)
    refine z_rcs hc hH 3 (pc' := 17) (lv' := [(0, .ref 50), (1, .int 0)]) (st' := [.int (μ.1 50 4), .int 0]) (μ' := μ) (by rfl) ?_
    have hJ2 : Z 0 50 [(0, .ref 50), (1, .int 0)] [.int (nB (!(decide ((0 : Int32) < (μ.1 50 4))) && ((decide ((μ.1 56 0) = 1)) && (!(decide ((μ.1 50 11) = 0)) || (!(decide ((μ.1 50 22) = 0)))))))] μ := by
      generalize he3 : (!(decide ((0 : Int32) < (μ.1 50 4))) && ((decide ((μ.1 56 0) = 1)) && (!(decide ((μ.1 50 11) = 0)) || (!(decide ((μ.1 50 22) = 0)))))) = e3
      exact hr 0 50 _ _ _ (some (.int (nB e3))) (by decide +kernel) ((fun b : Bool => (by cases b <;> rfl : z_rn mi_X7_isHidden 50 [.int (nB b)] = some (some (.int (nB b))))) e3) (⟨rfl, (by unfold xHi0; try rw [he3]; simp only [h1, lb_f, Int64.or_zero, nB_t, nB_f, Bool.not_true, Bool.not_false, Bool.and_true, Bool.true_and, Bool.false_and, Bool.and_false, Bool.or_true, Bool.true_or, Bool.false_or, Bool.or_false, cond_true, cond_false])⟩)
    refine zq_ic hc hH (by rfl) (tg := 49) (by rfl) (fun h4 => ?_) (fun h4 => ?_)
    · have h4 : (decide ((0 : Int32) < (μ.1 50 4))) = true := decide_eq_true (cm_lt.mp h4)
      refine z_rcs hc hH 1 (pc' := 50) (lv' := [(0, .ref 50), (1, .int 0)]) (st' := [.int 0]) (μ' := μ) (by rfl) ?_
      exact zJ hJ2 rfl (by simp only [h4, lb_f, Int64.or_zero, nB_t, nB_f, Bool.not_true, Bool.not_false, Bool.and_true, Bool.true_and, Bool.false_and, Bool.and_false, Bool.or_true, Bool.true_or, Bool.false_or, Bool.or_false, cond_true, cond_false]) rfl
    · have h4 : (decide ((0 : Int32) < (μ.1 50 4))) = false := decide_eq_false (cn_lt.mp h4)
      refine z_rcs hc hH 3 (pc' := 25) (lv' := [(0, .ref 50), (1, .int 0)]) (st' := [.int 0, .ref 56]) (μ' := μ) (by rfl) ?_
      refine zq_iald hc hH (by rfl) 4 (by decide +kernel) (show vp_in (nI 0) 4 from vp_in_nI (by decide) (by decide)) ?_
      show Z 0 26 [(0, .ref 50), (1, .int 0)] [.int (μ.1 56 0)] μ
      refine z_rcs hc hH 1 (pc' := 27) (lv' := [(0, .ref 50), (1, .int 0)]) (st' := [.int 1, .int (μ.1 56 0)]) (μ' := μ) (by rfl) ?_
      refine zq_ic hc hH (by rfl) (tg := 49) (by rfl) (fun h5 => ?_) (fun h5 => ?_)
      · have h5 : (decide ((μ.1 56 0) = 1)) = false := decide_eq_false (cm_ne.mp h5)
        refine z_rcs hc hH 1 (pc' := 50) (lv' := [(0, .ref 50), (1, .int 0)]) (st' := [.int 0]) (μ' := μ) (by rfl) ?_
        exact zJ hJ2 rfl (by simp only [h4, h5, lb_f, Int64.or_zero, nB_t, nB_f, Bool.not_true, Bool.not_false, Bool.and_true, Bool.true_and, Bool.false_and, Bool.and_false, Bool.or_true, Bool.true_or, Bool.false_or, Bool.or_false, cond_true, cond_false]) rfl
      · have h5 : (decide ((μ.1 56 0) = 1)) = true := decide_eq_true (cn_ne.mp h5)
        refine z_rcs hc hH 2 (pc' := 34) (lv' := [(0, .ref 50), (1, .int 0)]) (st' := [.int (μ.1 50 11)]) (μ' := μ) (by rfl) ?_
        refine zq_if hc hH (by rfl) (tg := 45) (by rfl) (fun h6 => ?_) (fun h6 => ?_)
        · have h6 : (decide ((μ.1 50 11) = 0)) = false := decide_eq_false (cm_ne.mp h6)
          refine z_rcs hc hH 2 (pc' := 50) (lv' := [(0, .ref 50), (1, .int 0)]) (st' := [.int 1]) (μ' := μ) (by rfl) ?_
          exact zJ hJ2 rfl (by simp only [h4, h5, h6, lb_f, Int64.or_zero, nB_t, nB_f, Bool.not_true, Bool.not_false, Bool.and_true, Bool.true_and, Bool.false_and, Bool.and_false, Bool.or_true, Bool.true_or, Bool.false_or, Bool.or_false, cond_true, cond_false]) rfl
        · have h6 : (decide ((μ.1 50 11) = 0)) = true := decide_eq_true (cn_ne.mp h6)
          refine z_rcs hc hH 3 (pc' := 42) (lv' := [(0, .ref 50), (1, .int 0)]) (st' := [.int 0, .int (μ.1 50 22)]) (μ' := μ) (by rfl) ?_
          refine zq_ic hc hH (by rfl) (tg := 49) (by rfl) (fun h7 => ?_) (fun h7 => ?_)
          · have h7 : (decide ((μ.1 50 22) = 0)) = true := decide_eq_true (cm_eq9.mp h7)
            refine z_rcs hc hH 1 (pc' := 50) (lv' := [(0, .ref 50), (1, .int 0)]) (st' := [.int 0]) (μ' := μ) (by rfl) ?_
            exact zJ hJ2 rfl (by simp only [h4, h5, h6, h7, lb_f, Int64.or_zero, nB_t, nB_f, Bool.not_true, Bool.not_false, Bool.and_true, Bool.true_and, Bool.false_and, Bool.and_false, Bool.or_true, Bool.true_or, Bool.false_or, Bool.or_false, cond_true, cond_false]) rfl
          · have h7 : (decide ((μ.1 50 22) = 0)) = false := decide_eq_false (cn_eq.mp h7)
            refine z_rcs hc hH 2 (pc' := 50) (lv' := [(0, .ref 50), (1, .int 0)]) (st' := [.int 1]) (μ' := μ) (by rfl) ?_
            exact zJ hJ2 rfl (by simp only [h4, h5, h6, h7, lb_f, Int64.or_zero, nB_t, nB_f, Bool.not_true, Bool.not_false, Bool.and_true, Bool.true_and, Bool.false_and, Bool.and_false, Bool.or_true, Bool.true_or, Bool.false_or, Bool.or_false, cond_true, cond_false]) rfl
  · have h1 : (decide ((μ.1 56 0) = 3)) = true := decide_eq_true (cn_ne.mp h1)
    refine z_rcs hc hH 1 (pc' := 11) (lv' := [(0, .ref 50), (1, .int 0)]) (st' := [.int 1]) (μ' := μ) (by rfl) ?_
    exact hr 0 11 _ _ _ (some (.int 1)) (by decide +kernel) (z_rx_ok hH (by rfl)) (⟨rfl, (by unfold xHi0; simp only [h1, lb_f, Int64.or_zero, nB_t, nB_f, Bool.not_true, Bool.not_false, Bool.and_true, Bool.true_and, Bool.false_and, Bool.and_false, Bool.or_true, Bool.true_or, Bool.false_or, Bool.or_false, cond_true, cond_false])⟩)
noncomputable def xHi1 (μ : zM) : Bool := (decide ((μ.1 56 1) = 3)) || (!(decide ((1 : Int32) < (μ.1 50 4))) && ((decide ((μ.1 56 1) = 1)) && (!(decide ((μ.1 50 11) = 0)) || (!(decide ((μ.1 50 22) = 1))))))
theorem fb_X7_isHidden1 (d : Nat) (hd : 1 ≤ d) (μ : zM) : z_C d mi_X7_isHidden [.ref 50, .int 1] μ (zR μ (.int (nB (xHi1 μ)))) := by
  refine z_C_in (by decide) (by omega) (fun d' Z ed hc hr => ?_)
  have hH : zH mi_X7_isHidden zt_X7_isHidden 79 7 2 := hh_X7_isHidden
  refine z_rcs hc hH 3 (pc' := 5) (lv' := [(0, .ref 50), (1, .int 1)]) (st' := [.int 1, .ref 56]) (μ' := μ) (by rfl) ?_
  refine zq_iald hc hH (by rfl) 4 (by decide +kernel) (show vp_in (nI 1) 4 from vp_in_nI (by decide) (by decide)) ?_
  show Z 0 6 [(0, .ref 50), (1, .int 1)] [.int (μ.1 56 1)] μ
  refine z_rcs hc hH 1 (pc' := 7) (lv' := [(0, .ref 50), (1, .int 1)]) (st' := [.int 3, .int (μ.1 56 1)]) (μ' := μ) (by rfl) ?_
  refine zq_ic hc hH (by rfl) (tg := 12) (by rfl) (fun h1 => ?_) (fun h1 => ?_)
  · have h1 : (decide ((μ.1 56 1) = 3)) = false := decide_eq_false (cm_ne.mp h1)
    refine z_rcs hc hH 3 (pc' := 17) (lv' := [(0, .ref 50), (1, .int 1)]) (st' := [.int (μ.1 50 4), .int 1]) (μ' := μ) (by rfl) ?_
    have hJ2 : Z 0 50 [(0, .ref 50), (1, .int 1)] [.int (nB (!(decide ((1 : Int32) < (μ.1 50 4))) && ((decide ((μ.1 56 1) = 1)) && (!(decide ((μ.1 50 11) = 0)) || (!(decide ((μ.1 50 22) = 1)))))))] μ := by
      generalize he3 : (!(decide ((1 : Int32) < (μ.1 50 4))) && ((decide ((μ.1 56 1) = 1)) && (!(decide ((μ.1 50 11) = 0)) || (!(decide ((μ.1 50 22) = 1)))))) = e3
      exact hr 0 50 _ _ _ (some (.int (nB e3))) (by decide +kernel) ((fun b : Bool => (by cases b <;> rfl : z_rn mi_X7_isHidden 50 [.int (nB b)] = some (some (.int (nB b))))) e3) (⟨rfl, (by unfold xHi1; try rw [he3]; simp only [h1, lb_f, Int64.or_zero, nB_t, nB_f, Bool.not_true, Bool.not_false, Bool.and_true, Bool.true_and, Bool.false_and, Bool.and_false, Bool.or_true, Bool.true_or, Bool.false_or, Bool.or_false, cond_true, cond_false])⟩)
    refine zq_ic hc hH (by rfl) (tg := 49) (by rfl) (fun h4 => ?_) (fun h4 => ?_)
    · have h4 : (decide ((1 : Int32) < (μ.1 50 4))) = true := decide_eq_true (cm_lt.mp h4)
      refine z_rcs hc hH 1 (pc' := 50) (lv' := [(0, .ref 50), (1, .int 1)]) (st' := [.int 0]) (μ' := μ) (by rfl) ?_
      exact zJ hJ2 rfl (by simp only [h4, lb_f, Int64.or_zero, nB_t, nB_f, Bool.not_true, Bool.not_false, Bool.and_true, Bool.true_and, Bool.false_and, Bool.and_false, Bool.or_true, Bool.true_or, Bool.false_or, Bool.or_false, cond_true, cond_false]) rfl
    · have h4 : (decide ((1 : Int32) < (μ.1 50 4))) = false := decide_eq_false (cn_lt.mp h4)
      refine z_rcs hc hH 3 (pc' := 25) (lv' := [(0, .ref 50), (1, .int 1)]) (st' := [.int 1, .ref 56]) (μ' := μ) (by rfl) ?_
      refine zq_iald hc hH (by rfl) 4 (by decide +kernel) (show vp_in (nI 1) 4 from vp_in_nI (by decide) (by decide)) ?_
      show Z 0 26 [(0, .ref 50), (1, .int 1)] [.int (μ.1 56 1)] μ
      refine z_rcs hc hH 1 (pc' := 27) (lv' := [(0, .ref 50), (1, .int 1)]) (st' := [.int 1, .int (μ.1 56 1)]) (μ' := μ) (by rfl) ?_
      refine zq_ic hc hH (by rfl) (tg := 49) (by rfl) (fun h5 => ?_) (fun h5 => ?_)
      · have h5 : (decide ((μ.1 56 1) = 1)) = false := decide_eq_false (cm_ne.mp h5)
        refine z_rcs hc hH 1 (pc' := 50) (lv' := [(0, .ref 50), (1, .int 1)]) (st' := [.int 0]) (μ' := μ) (by rfl) ?_
        exact zJ hJ2 rfl (by simp only [h4, h5, lb_f, Int64.or_zero, nB_t, nB_f, Bool.not_true, Bool.not_false, Bool.and_true, Bool.true_and, Bool.false_and, Bool.and_false, Bool.or_true, Bool.true_or, Bool.false_or, Bool.or_false, cond_true, cond_false]) rfl
      · have h5 : (decide ((μ.1 56 1) = 1)) = true := decide_eq_true (cn_ne.mp h5)
        refine z_rcs hc hH 2 (pc' := 34) (lv' := [(0, .ref 50), (1, .int 1)]) (st' := [.int (μ.1 50 11)]) (μ' := μ) (by rfl) ?_
        refine zq_if hc hH (by rfl) (tg := 45) (by rfl) (fun h6 => ?_) (fun h6 => ?_)
        · have h6 : (decide ((μ.1 50 11) = 0)) = false := decide_eq_false (cm_ne.mp h6)
          refine z_rcs hc hH 2 (pc' := 50) (lv' := [(0, .ref 50), (1, .int 1)]) (st' := [.int 1]) (μ' := μ) (by rfl) ?_
          exact zJ hJ2 rfl (by simp only [h4, h5, h6, lb_f, Int64.or_zero, nB_t, nB_f, Bool.not_true, Bool.not_false, Bool.and_true, Bool.true_and, Bool.false_and, Bool.and_false, Bool.or_true, Bool.true_or, Bool.false_or, Bool.or_false, cond_true, cond_false]) rfl
        · have h6 : (decide ((μ.1 50 11) = 0)) = true := decide_eq_true (cn_ne.mp h6)
          refine z_rcs hc hH 3 (pc' := 42) (lv' := [(0, .ref 50), (1, .int 1)]) (st' := [.int 1, .int (μ.1 50 22)]) (μ' := μ) (by rfl) ?_
          refine zq_ic hc hH (by rfl) (tg := 49) (by rfl) (fun h7 => ?_) (fun h7 => ?_)
          · have h7 : (decide ((μ.1 50 22) = 1)) = true := decide_eq_true (cm_eq9.mp h7)
            refine z_rcs hc hH 1 (pc' := 50) (lv' := [(0, .ref 50), (1, .int 1)]) (st' := [.int 0]) (μ' := μ) (by rfl) ?_
            exact zJ hJ2 rfl (by simp only [h4, h5, h6, h7, lb_f, Int64.or_zero, nB_t, nB_f, Bool.not_true, Bool.not_false, Bool.and_true, Bool.true_and, Bool.false_and, Bool.and_false, Bool.or_true, Bool.true_or, Bool.false_or, Bool.or_false, cond_true, cond_false]) rfl
          · have h7 : (decide ((μ.1 50 22) = 1)) = false := decide_eq_false (cn_eq.mp h7)
            refine z_rcs hc hH 2 (pc' := 50) (lv' := [(0, .ref 50), (1, .int 1)]) (st' := [.int 1]) (μ' := μ) (by rfl) ?_
            exact zJ hJ2 rfl (by simp only [h4, h5, h6, h7, lb_f, Int64.or_zero, nB_t, nB_f, Bool.not_true, Bool.not_false, Bool.and_true, Bool.true_and, Bool.false_and, Bool.and_false, Bool.or_true, Bool.true_or, Bool.false_or, Bool.or_false, cond_true, cond_false]) rfl
  · have h1 : (decide ((μ.1 56 1) = 3)) = true := decide_eq_true (cn_ne.mp h1)
    refine z_rcs hc hH 1 (pc' := 11) (lv' := [(0, .ref 50), (1, .int 1)]) (st' := [.int 1]) (μ' := μ) (by rfl) ?_
    exact hr 0 11 _ _ _ (some (.int 1)) (by decide +kernel) (z_rx_ok hH (by rfl)) (⟨rfl, (by unfold xHi1; simp only [h1, lb_f, Int64.or_zero, nB_t, nB_f, Bool.not_true, Bool.not_false, Bool.and_true, Bool.true_and, Bool.false_and, Bool.and_false, Bool.or_true, Bool.true_or, Bool.false_or, Bool.or_false, cond_true, cond_false])⟩)
noncomputable def xHi2 (μ : zM) : Bool := (decide ((μ.1 56 2) = 3)) || (!(decide ((2 : Int32) < (μ.1 50 4))) && ((decide ((μ.1 56 2) = 1)) && (!(decide ((μ.1 50 11) = 0)) || (!(decide ((μ.1 50 22) = 2))))))
theorem fb_X7_isHidden2 (d : Nat) (hd : 1 ≤ d) (μ : zM) : z_C d mi_X7_isHidden [.ref 50, .int 2] μ (zR μ (.int (nB (xHi2 μ)))) := by
  refine z_C_in (by decide) (by omega) (fun d' Z ed hc hr => ?_)
  have hH : zH mi_X7_isHidden zt_X7_isHidden 79 7 2 := hh_X7_isHidden
  refine z_rcs hc hH 3 (pc' := 5) (lv' := [(0, .ref 50), (1, .int 2)]) (st' := [.int 2, .ref 56]) (μ' := μ) (by rfl) ?_
  refine zq_iald hc hH (by rfl) 4 (by decide +kernel) (show vp_in (nI 2) 4 from vp_in_nI (by decide) (by decide)) ?_
  show Z 0 6 [(0, .ref 50), (1, .int 2)] [.int (μ.1 56 2)] μ
  refine z_rcs hc hH 1 (pc' := 7) (lv' := [(0, .ref 50), (1, .int 2)]) (st' := [.int 3, .int (μ.1 56 2)]) (μ' := μ) (by rfl) ?_
  refine zq_ic hc hH (by rfl) (tg := 12) (by rfl) (fun h1 => ?_) (fun h1 => ?_)
  · have h1 : (decide ((μ.1 56 2) = 3)) = false := decide_eq_false (cm_ne.mp h1)
    refine z_rcs hc hH 3 (pc' := 17) (lv' := [(0, .ref 50), (1, .int 2)]) (st' := [.int (μ.1 50 4), .int 2]) (μ' := μ) (by rfl) ?_
    have hJ2 : Z 0 50 [(0, .ref 50), (1, .int 2)] [.int (nB (!(decide ((2 : Int32) < (μ.1 50 4))) && ((decide ((μ.1 56 2) = 1)) && (!(decide ((μ.1 50 11) = 0)) || (!(decide ((μ.1 50 22) = 2)))))))] μ := by
      generalize he3 : (!(decide ((2 : Int32) < (μ.1 50 4))) && ((decide ((μ.1 56 2) = 1)) && (!(decide ((μ.1 50 11) = 0)) || (!(decide ((μ.1 50 22) = 2)))))) = e3
      exact hr 0 50 _ _ _ (some (.int (nB e3))) (by decide +kernel) ((fun b : Bool => (by cases b <;> rfl : z_rn mi_X7_isHidden 50 [.int (nB b)] = some (some (.int (nB b))))) e3) (⟨rfl, (by unfold xHi2; try rw [he3]; simp only [h1, lb_f, Int64.or_zero, nB_t, nB_f, Bool.not_true, Bool.not_false, Bool.and_true, Bool.true_and, Bool.false_and, Bool.and_false, Bool.or_true, Bool.true_or, Bool.false_or, Bool.or_false, cond_true, cond_false])⟩)
    refine zq_ic hc hH (by rfl) (tg := 49) (by rfl) (fun h4 => ?_) (fun h4 => ?_)
    · have h4 : (decide ((2 : Int32) < (μ.1 50 4))) = true := decide_eq_true (cm_lt.mp h4)
      refine z_rcs hc hH 1 (pc' := 50) (lv' := [(0, .ref 50), (1, .int 2)]) (st' := [.int 0]) (μ' := μ) (by rfl) ?_
      exact zJ hJ2 rfl (by simp only [h4, lb_f, Int64.or_zero, nB_t, nB_f, Bool.not_true, Bool.not_false, Bool.and_true, Bool.true_and, Bool.false_and, Bool.and_false, Bool.or_true, Bool.true_or, Bool.false_or, Bool.or_false, cond_true, cond_false]) rfl
    · have h4 : (decide ((2 : Int32) < (μ.1 50 4))) = false := decide_eq_false (cn_lt.mp h4)
      refine z_rcs hc hH 3 (pc' := 25) (lv' := [(0, .ref 50), (1, .int 2)]) (st' := [.int 2, .ref 56]) (μ' := μ) (by rfl) ?_
      refine zq_iald hc hH (by rfl) 4 (by decide +kernel) (show vp_in (nI 2) 4 from vp_in_nI (by decide) (by decide)) ?_
      show Z 0 26 [(0, .ref 50), (1, .int 2)] [.int (μ.1 56 2)] μ
      refine z_rcs hc hH 1 (pc' := 27) (lv' := [(0, .ref 50), (1, .int 2)]) (st' := [.int 1, .int (μ.1 56 2)]) (μ' := μ) (by rfl) ?_
      refine zq_ic hc hH (by rfl) (tg := 49) (by rfl) (fun h5 => ?_) (fun h5 => ?_)
      · have h5 : (decide ((μ.1 56 2) = 1)) = false := decide_eq_false (cm_ne.mp h5)
        refine z_rcs hc hH 1 (pc' := 50) (lv' := [(0, .ref 50), (1, .int 2)]) (st' := [.int 0]) (μ' := μ) (by rfl) ?_
        exact zJ hJ2 rfl (by simp only [h4, h5, lb_f, Int64.or_zero, nB_t, nB_f, Bool.not_true, Bool.not_false, Bool.and_true, Bool.true_and, Bool.false_and, Bool.and_false, Bool.or_true, Bool.true_or, Bool.false_or, Bool.or_false, cond_true, cond_false]) rfl
      · have h5 : (decide ((μ.1 56 2) = 1)) = true := decide_eq_true (cn_ne.mp h5)
        refine z_rcs hc hH 2 (pc' := 34) (lv' := [(0, .ref 50), (1, .int 2)]) (st' := [.int (μ.1 50 11)]) (μ' := μ) (by rfl) ?_
        refine zq_if hc hH (by rfl) (tg := 45) (by rfl) (fun h6 => ?_) (fun h6 => ?_)
        · have h6 : (decide ((μ.1 50 11) = 0)) = false := decide_eq_false (cm_ne.mp h6)
          refine z_rcs hc hH 2 (pc' := 50) (lv' := [(0, .ref 50), (1, .int 2)]) (st' := [.int 1]) (μ' := μ) (by rfl) ?_
          exact zJ hJ2 rfl (by simp only [h4, h5, h6, lb_f, Int64.or_zero, nB_t, nB_f, Bool.not_true, Bool.not_false, Bool.and_true, Bool.true_and, Bool.false_and, Bool.and_false, Bool.or_true, Bool.true_or, Bool.false_or, Bool.or_false, cond_true, cond_false]) rfl
        · have h6 : (decide ((μ.1 50 11) = 0)) = true := decide_eq_true (cn_ne.mp h6)
          refine z_rcs hc hH 3 (pc' := 42) (lv' := [(0, .ref 50), (1, .int 2)]) (st' := [.int 2, .int (μ.1 50 22)]) (μ' := μ) (by rfl) ?_
          refine zq_ic hc hH (by rfl) (tg := 49) (by rfl) (fun h7 => ?_) (fun h7 => ?_)
          · have h7 : (decide ((μ.1 50 22) = 2)) = true := decide_eq_true (cm_eq9.mp h7)
            refine z_rcs hc hH 1 (pc' := 50) (lv' := [(0, .ref 50), (1, .int 2)]) (st' := [.int 0]) (μ' := μ) (by rfl) ?_
            exact zJ hJ2 rfl (by simp only [h4, h5, h6, h7, lb_f, Int64.or_zero, nB_t, nB_f, Bool.not_true, Bool.not_false, Bool.and_true, Bool.true_and, Bool.false_and, Bool.and_false, Bool.or_true, Bool.true_or, Bool.false_or, Bool.or_false, cond_true, cond_false]) rfl
          · have h7 : (decide ((μ.1 50 22) = 2)) = false := decide_eq_false (cn_eq.mp h7)
            refine z_rcs hc hH 2 (pc' := 50) (lv' := [(0, .ref 50), (1, .int 2)]) (st' := [.int 1]) (μ' := μ) (by rfl) ?_
            exact zJ hJ2 rfl (by simp only [h4, h5, h6, h7, lb_f, Int64.or_zero, nB_t, nB_f, Bool.not_true, Bool.not_false, Bool.and_true, Bool.true_and, Bool.false_and, Bool.and_false, Bool.or_true, Bool.true_or, Bool.false_or, Bool.or_false, cond_true, cond_false]) rfl
  · have h1 : (decide ((μ.1 56 2) = 3)) = true := decide_eq_true (cn_ne.mp h1)
    refine z_rcs hc hH 1 (pc' := 11) (lv' := [(0, .ref 50), (1, .int 2)]) (st' := [.int 1]) (μ' := μ) (by rfl) ?_
    exact hr 0 11 _ _ _ (some (.int 1)) (by decide +kernel) (z_rx_ok hH (by rfl)) (⟨rfl, (by unfold xHi2; simp only [h1, lb_f, Int64.or_zero, nB_t, nB_f, Bool.not_true, Bool.not_false, Bool.and_true, Bool.true_and, Bool.false_and, Bool.and_false, Bool.or_true, Bool.true_or, Bool.false_or, Bool.or_false, cond_true, cond_false])⟩)
noncomputable def xHi3 (μ : zM) : Bool := (decide ((μ.1 56 3) = 3)) || (!(decide ((3 : Int32) < (μ.1 50 4))) && ((decide ((μ.1 56 3) = 1)) && (!(decide ((μ.1 50 11) = 0)) || (!(decide ((μ.1 50 22) = 3))))))
theorem fb_X7_isHidden3 (d : Nat) (hd : 1 ≤ d) (μ : zM) : z_C d mi_X7_isHidden [.ref 50, .int 3] μ (zR μ (.int (nB (xHi3 μ)))) := by
  refine z_C_in (by decide) (by omega) (fun d' Z ed hc hr => ?_)
  have hH : zH mi_X7_isHidden zt_X7_isHidden 79 7 2 := hh_X7_isHidden
  refine z_rcs hc hH 3 (pc' := 5) (lv' := [(0, .ref 50), (1, .int 3)]) (st' := [.int 3, .ref 56]) (μ' := μ) (by rfl) ?_
  refine zq_iald hc hH (by rfl) 4 (by decide +kernel) (show vp_in (nI 3) 4 from vp_in_nI (by decide) (by decide)) ?_
  show Z 0 6 [(0, .ref 50), (1, .int 3)] [.int (μ.1 56 3)] μ
  refine z_rcs hc hH 1 (pc' := 7) (lv' := [(0, .ref 50), (1, .int 3)]) (st' := [.int 3, .int (μ.1 56 3)]) (μ' := μ) (by rfl) ?_
  refine zq_ic hc hH (by rfl) (tg := 12) (by rfl) (fun h1 => ?_) (fun h1 => ?_)
  · have h1 : (decide ((μ.1 56 3) = 3)) = false := decide_eq_false (cm_ne.mp h1)
    refine z_rcs hc hH 3 (pc' := 17) (lv' := [(0, .ref 50), (1, .int 3)]) (st' := [.int (μ.1 50 4), .int 3]) (μ' := μ) (by rfl) ?_
    have hJ2 : Z 0 50 [(0, .ref 50), (1, .int 3)] [.int (nB (!(decide ((3 : Int32) < (μ.1 50 4))) && ((decide ((μ.1 56 3) = 1)) && (!(decide ((μ.1 50 11) = 0)) || (!(decide ((μ.1 50 22) = 3)))))))] μ := by
      generalize he3 : (!(decide ((3 : Int32) < (μ.1 50 4))) && ((decide ((μ.1 56 3) = 1)) && (!(decide ((μ.1 50 11) = 0)) || (!(decide ((μ.1 50 22) = 3)))))) = e3
      exact hr 0 50 _ _ _ (some (.int (nB e3))) (by decide +kernel) ((fun b : Bool => (by cases b <;> rfl : z_rn mi_X7_isHidden 50 [.int (nB b)] = some (some (.int (nB b))))) e3) (⟨rfl, (by unfold xHi3; try rw [he3]; simp only [h1, lb_f, Int64.or_zero, nB_t, nB_f, Bool.not_true, Bool.not_false, Bool.and_true, Bool.true_and, Bool.false_and, Bool.and_false, Bool.or_true, Bool.true_or, Bool.false_or, Bool.or_false, cond_true, cond_false])⟩)
    refine zq_ic hc hH (by rfl) (tg := 49) (by rfl) (fun h4 => ?_) (fun h4 => ?_)
    · have h4 : (decide ((3 : Int32) < (μ.1 50 4))) = true := decide_eq_true (cm_lt.mp h4)
      refine z_rcs hc hH 1 (pc' := 50) (lv' := [(0, .ref 50), (1, .int 3)]) (st' := [.int 0]) (μ' := μ) (by rfl) ?_
      exact zJ hJ2 rfl (by simp only [h4, lb_f, Int64.or_zero, nB_t, nB_f, Bool.not_true, Bool.not_false, Bool.and_true, Bool.true_and, Bool.false_and, Bool.and_false, Bool.or_true, Bool.true_or, Bool.false_or, Bool.or_false, cond_true, cond_false]) rfl
    · have h4 : (decide ((3 : Int32) < (μ.1 50 4))) = false := decide_eq_false (cn_lt.mp h4)
      refine z_rcs hc hH 3 (pc' := 25) (lv' := [(0, .ref 50), (1, .int 3)]) (st' := [.int 3, .ref 56]) (μ' := μ) (by rfl) ?_
      refine zq_iald hc hH (by rfl) 4 (by decide +kernel) (show vp_in (nI 3) 4 from vp_in_nI (by decide) (by decide)) ?_
      show Z 0 26 [(0, .ref 50), (1, .int 3)] [.int (μ.1 56 3)] μ
      refine z_rcs hc hH 1 (pc' := 27) (lv' := [(0, .ref 50), (1, .int 3)]) (st' := [.int 1, .int (μ.1 56 3)]) (μ' := μ) (by rfl) ?_
      refine zq_ic hc hH (by rfl) (tg := 49) (by rfl) (fun h5 => ?_) (fun h5 => ?_)
      · have h5 : (decide ((μ.1 56 3) = 1)) = false := decide_eq_false (cm_ne.mp h5)
        refine z_rcs hc hH 1 (pc' := 50) (lv' := [(0, .ref 50), (1, .int 3)]) (st' := [.int 0]) (μ' := μ) (by rfl) ?_
        exact zJ hJ2 rfl (by simp only [h4, h5, lb_f, Int64.or_zero, nB_t, nB_f, Bool.not_true, Bool.not_false, Bool.and_true, Bool.true_and, Bool.false_and, Bool.and_false, Bool.or_true, Bool.true_or, Bool.false_or, Bool.or_false, cond_true, cond_false]) rfl
      · have h5 : (decide ((μ.1 56 3) = 1)) = true := decide_eq_true (cn_ne.mp h5)
        refine z_rcs hc hH 2 (pc' := 34) (lv' := [(0, .ref 50), (1, .int 3)]) (st' := [.int (μ.1 50 11)]) (μ' := μ) (by rfl) ?_
        refine zq_if hc hH (by rfl) (tg := 45) (by rfl) (fun h6 => ?_) (fun h6 => ?_)
        · have h6 : (decide ((μ.1 50 11) = 0)) = false := decide_eq_false (cm_ne.mp h6)
          refine z_rcs hc hH 2 (pc' := 50) (lv' := [(0, .ref 50), (1, .int 3)]) (st' := [.int 1]) (μ' := μ) (by rfl) ?_
          exact zJ hJ2 rfl (by simp only [h4, h5, h6, lb_f, Int64.or_zero, nB_t, nB_f, Bool.not_true, Bool.not_false, Bool.and_true, Bool.true_and, Bool.false_and, Bool.and_false, Bool.or_true, Bool.true_or, Bool.false_or, Bool.or_false, cond_true, cond_false]) rfl
        · have h6 : (decide ((μ.1 50 11) = 0)) = true := decide_eq_true (cn_ne.mp h6)
          refine z_rcs hc hH 3 (pc' := 42) (lv' := [(0, .ref 50), (1, .int 3)]) (st' := [.int 3, .int (μ.1 50 22)]) (μ' := μ) (by rfl) ?_
          refine zq_ic hc hH (by rfl) (tg := 49) (by rfl) (fun h7 => ?_) (fun h7 => ?_)
          · have h7 : (decide ((μ.1 50 22) = 3)) = true := decide_eq_true (cm_eq9.mp h7)
            refine z_rcs hc hH 1 (pc' := 50) (lv' := [(0, .ref 50), (1, .int 3)]) (st' := [.int 0]) (μ' := μ) (by rfl) ?_
            exact zJ hJ2 rfl (by simp only [h4, h5, h6, h7, lb_f, Int64.or_zero, nB_t, nB_f, Bool.not_true, Bool.not_false, Bool.and_true, Bool.true_and, Bool.false_and, Bool.and_false, Bool.or_true, Bool.true_or, Bool.false_or, Bool.or_false, cond_true, cond_false]) rfl
          · have h7 : (decide ((μ.1 50 22) = 3)) = false := decide_eq_false (cn_eq.mp h7)
            refine z_rcs hc hH 2 (pc' := 50) (lv' := [(0, .ref 50), (1, .int 3)]) (st' := [.int 1]) (μ' := μ) (by rfl) ?_
            exact zJ hJ2 rfl (by simp only [h4, h5, h6, h7, lb_f, Int64.or_zero, nB_t, nB_f, Bool.not_true, Bool.not_false, Bool.and_true, Bool.true_and, Bool.false_and, Bool.and_false, Bool.or_true, Bool.true_or, Bool.false_or, Bool.or_false, cond_true, cond_false]) rfl
  · have h1 : (decide ((μ.1 56 3) = 3)) = true := decide_eq_true (cn_ne.mp h1)
    refine z_rcs hc hH 1 (pc' := 11) (lv' := [(0, .ref 50), (1, .int 3)]) (st' := [.int 1]) (μ' := μ) (by rfl) ?_
    exact hr 0 11 _ _ _ (some (.int 1)) (by decide +kernel) (z_rx_ok hH (by rfl)) (⟨rfl, (by unfold xHi3; simp only [h1, lb_f, Int64.or_zero, nB_t, nB_f, Bool.not_true, Bool.not_false, Bool.and_true, Bool.true_and, Bool.false_and, Bool.and_false, Bool.or_true, Bool.true_or, Bool.false_or, Bool.or_false, cond_true, cond_false])⟩)

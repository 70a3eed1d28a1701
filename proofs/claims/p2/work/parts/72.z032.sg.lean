/-! the game: canDiscard of the reference -/
set_option maxRecDepth 8000
def cdF (μ : zM) (s k : Nat) : Bool := !decide (μ.1 60 (34 * s + k) ≤ 0) && (!decide (nI k = μ.1 50 50) && !decide (nI k = μ.1 50 51))
theorem gm_canDiscard (d : Nat) (hd : 2 ≤ d) (μ : zM) (s : Nat) (hs4 : s < 4) : z_C d mi_X7_canDiscard [.ref 50, .int (nI s)] μ (zR μ (.int (nB (kA (cdF μ s) 34)))) := by
  refine z_C_in (by decide) (by omega) (fun d' Z ed hc hr => ?_)
  have hH : zH mi_X7_canDiscard zc_X7_canDiscard 79 7 4 := ⟨by rfl, by rfl, by rfl, by rfl⟩
  have hL : ∀ n k, k + n = 34 → Z 0 4 [(3, .int (nI k)), (2, .int (nB (kA (cdF μ s) k))), (0, .ref 50), (1, .int (nI s))] [] μ := by
    intro n
    induction n with
    | zero =>
      intro k hk
      have hk : k = 34 := by omega
      obtain ⟨bb, hbb⟩ : ∃ b, kA (cdF μ s) k = b := ⟨_, rfl⟩
      rw [hbb]
      refine z_rcs hc hH 2 (pc' := 7) (lv' := [(3, .int (nI k)), (2, .int (nB bb)), (0, .ref 50), (1, .int (nI s))]) (st' := [.int 34, .int (nI k)]) (μ' := μ) (by rfl) ?_
      refine zq_ic hc hH (by rfl) (tg := 51) (by rfl) (fun h1 => ?_) (fun h1 => ?_)
      · have h1 : (decide (34 ≤ (nI k))) = true := decide_eq_true (cm_ge.mp h1)
        refine z_rcs hc hH 1 (pc' := 52) (lv' := [(3, .int (nI k)), (2, .int (nB bb)), (0, .ref 50), (1, .int (nI s))]) (st' := [.int (nB bb)]) (μ' := μ) (by rfl) ?_
        exact hr 0 52 _ _ _ (some (.int (nB bb))) (by decide +kernel) ((fun b : Bool => (by cases b <;> rfl : z_rn mi_X7_canDiscard 52 [.int (nB b)] = some (some (.int (nB b))))) bb) (⟨rfl, by rw [← hbb, hk]⟩)
      · have h1 : (decide (34 ≤ (nI k))) = false := decide_eq_false (cn_ge.mp h1)
        exact absurd (Eq.trans (Eq.symm (kn_le2 (m := 34) rfl (by omega) (by omega))) h1) (by decide)
    | succ n ih =>
      intro k hk
      obtain ⟨bb, hbb⟩ : ∃ b, kA (cdF μ s) k = b := ⟨_, rfl⟩
      rw [hbb]
      refine z_rcs hc hH 2 (pc' := 7) (lv' := [(3, .int (nI k)), (2, .int (nB bb)), (0, .ref 50), (1, .int (nI s))]) (st' := [.int 34, .int (nI k)]) (μ' := μ) (by rfl) ?_
      refine zq_ic hc hH (by rfl) (tg := 51) (by rfl) (fun h1 => ?_) (fun h1 => ?_)
      · have h1 : (decide (34 ≤ (nI k))) = true := decide_eq_true (cm_ge.mp h1)
        exact absurd (Eq.trans (Eq.symm (kn_le (m := 34) rfl (by omega) (by omega))) h1) (by decide)
      · have h1 : (decide (34 ≤ (nI k))) = false := decide_eq_false (cn_ge.mp h1)
        refine z_rcs hc hH 1 (pc' := 11) (lv' := [(3, .int (nI k)), (2, .int (nB bb)), (0, .ref 50), (1, .int (nI s))]) (st' := [.int (nB bb)]) (μ' := μ) (by rfl) ?_
        have hJ2 : Z 0 44 [(3, .int (nI k)), (2, .int (nB bb)), (0, .ref 50), (1, .int (nI s))] [.int (nB (bb || (!(decide ((μ.1 60 (34 * s + k)) ≤ 0)) && (!(decide ((nI k) = (μ.1 50 50))) && (!(decide ((nI k) = (μ.1 50 51))))))))] μ := by
          refine z_rcs hc hH 3 (pc' := 4) (lv' := [(3, .int ((nI k) + 1)), (2, .int (nB (bb || (!(decide ((μ.1 60 (34 * s + k)) ≤ 0)) && (!(decide ((nI k) = (μ.1 50 50))) && (!(decide ((nI k) = (μ.1 50 51))))))))), (0, .ref 50), (1, .int (nI s))]) (st' := []) (μ' := μ) (by rfl) ?_
          have e9 := ih (k + 1) (by omega)
          rw [nI_s1]
          refine zJ e9 ?_ rfl rfl
          have e8 : kA (cdF μ s) (k + 1) = (bb || (!(decide ((μ.1 60 (34 * s + k)) ≤ 0)) && (!(decide ((nI k) = (μ.1 50 50))) && (!(decide ((nI k) = (μ.1 50 51))))))) := by
            show (kA _ k || cdF μ s k) = _
            rw [hbb]; unfold cdF; cases bb <;> first | rfl | (simp only [Bool.false_or, Bool.true_or, Bool.and_assoc, Bool.or_assoc])
          rw [e8]
        refine zq_if hc hH (by rfl) (tg := 39) (by rfl) (fun h3 => ?_) (fun h3 => ?_)
        · have h3 : (bb) = true := nB_n.mp (cm_ne.mp h3)
          refine z_rcs hc hH 2 (pc' := 44) (lv' := [(3, .int (nI k)), (2, .int (nB bb)), (0, .ref 50), (1, .int (nI s))]) (st' := [.int 1]) (μ' := μ) (by rfl) ?_
          exact zJ hJ2 rfl (by first | rfl | simp only [h3, lb_f, Int64.or_zero, Int32.add_zero, nB_t, nB_f, Bool.not_true, Bool.not_false, Bool.and_true, Bool.true_and, Bool.false_and, Bool.and_false, Bool.or_true, Bool.true_or, Bool.false_or, Bool.or_false, cond_true, cond_false]) rfl
        · have h3 : (bb) = false := nB_z.mp (cn_ne.mp h3)
          refine z_rcs hc hH 3 (pc' := 17) (lv' := [(3, .int (nI k)), (2, .int (nB bb)), (0, .ref 50), (1, .int (nI s))]) (st' := [.int (nI k), .int (nI s), .ref 50]) (μ' := μ) (by rfl) ?_
          refine zq_call hc (by rfl) (fc_X7_has_ d' (by omega) μ s k hs4 (by omega)) (by decide +kernel) (fun r9 μ9 hq => ?_)
          obtain ⟨hμ9, rfl⟩ := hq
          rw [hμ9]
          clear hμ9 μ9
          show Z 0 20 [(3, .int (nI k)), (2, .int (nB bb)), (0, .ref 50), (1, .int (nI s))] [.int (μ.1 60 (34 * s + k))] μ
          refine zq_if hc hH (by rfl) (tg := 43) (by rfl) (fun h4 => ?_) (fun h4 => ?_)
          · have h4 : (decide ((μ.1 60 (34 * s + k)) ≤ 0)) = true := decide_eq_true (cm_le.mp h4)
            refine z_rcs hc hH 1 (pc' := 44) (lv' := [(3, .int (nI k)), (2, .int (nB bb)), (0, .ref 50), (1, .int (nI s))]) (st' := [.int 0]) (μ' := μ) (by rfl) ?_
            exact zJ hJ2 rfl (by first | rfl | simp only [h3, h4, lb_f, Int64.or_zero, Int32.add_zero, nB_t, nB_f, Bool.not_true, Bool.not_false, Bool.and_true, Bool.true_and, Bool.false_and, Bool.and_false, Bool.or_true, Bool.true_or, Bool.false_or, Bool.or_false, cond_true, cond_false]) rfl
          · have h4 : (decide ((μ.1 60 (34 * s + k)) ≤ 0)) = false := decide_eq_false (cn_le.mp h4)
            refine z_rcs hc hH 2 (pc' := 25) (lv' := [(3, .int (nI k)), (2, .int (nB bb)), (0, .ref 50), (1, .int (nI s))]) (st' := [.ref 50, .int (nI k)]) (μ' := μ) (by rfl) ?_
            refine zq_gfi hc hH (by rfl) (ci := 6) (f := 50) (by rfl) (by decide +kernel) (by rfl) ?_
            refine zq_ic hc hH (by rfl) (tg := 43) (by rfl) (fun h5 => ?_) (fun h5 => ?_)
            · have h5 : (decide ((nI k) = (μ.1 50 50))) = true := decide_eq_true (cm_eq9.mp h5)
              refine z_rcs hc hH 1 (pc' := 44) (lv' := [(3, .int (nI k)), (2, .int (nB bb)), (0, .ref 50), (1, .int (nI s))]) (st' := [.int 0]) (μ' := μ) (by rfl) ?_
              exact zJ hJ2 rfl (by first | rfl | simp only [h3, h4, h5, lb_f, Int64.or_zero, Int32.add_zero, nB_t, nB_f, Bool.not_true, Bool.not_false, Bool.and_true, Bool.true_and, Bool.false_and, Bool.and_false, Bool.or_true, Bool.true_or, Bool.false_or, Bool.or_false, cond_true, cond_false]) rfl
            · have h5 : (decide ((nI k) = (μ.1 50 50))) = false := decide_eq_false (cn_eq.mp h5)
              refine z_rcs hc hH 2 (pc' := 33) (lv' := [(3, .int (nI k)), (2, .int (nB bb)), (0, .ref 50), (1, .int (nI s))]) (st' := [.ref 50, .int (nI k)]) (μ' := μ) (by rfl) ?_
              refine zq_gfi hc hH (by rfl) (ci := 6) (f := 51) (by rfl) (by decide +kernel) (by rfl) ?_
              refine zq_ic hc hH (by rfl) (tg := 43) (by rfl) (fun h6 => ?_) (fun h6 => ?_)
              · have h6 : (decide ((nI k) = (μ.1 50 51))) = true := decide_eq_true (cm_eq9.mp h6)
                refine z_rcs hc hH 1 (pc' := 44) (lv' := [(3, .int (nI k)), (2, .int (nB bb)), (0, .ref 50), (1, .int (nI s))]) (st' := [.int 0]) (μ' := μ) (by rfl) ?_
                exact zJ hJ2 rfl (by first | rfl | simp only [h3, h4, h5, h6, lb_f, Int64.or_zero, Int32.add_zero, nB_t, nB_f, Bool.not_true, Bool.not_false, Bool.and_true, Bool.true_and, Bool.false_and, Bool.and_false, Bool.or_true, Bool.true_or, Bool.false_or, Bool.or_false, cond_true, cond_false]) rfl
              · have h6 : (decide ((nI k) = (μ.1 50 51))) = false := decide_eq_false (cn_eq.mp h6)
                refine z_rcs hc hH 2 (pc' := 44) (lv' := [(3, .int (nI k)), (2, .int (nB bb)), (0, .ref 50), (1, .int (nI s))]) (st' := [.int 1]) (μ' := μ) (by rfl) ?_
                exact zJ hJ2 rfl (by first | rfl | simp only [h3, h4, h5, h6, lb_f, Int64.or_zero, Int32.add_zero, nB_t, nB_f, Bool.not_true, Bool.not_false, Bool.and_true, Bool.true_and, Bool.false_and, Bool.and_false, Bool.or_true, Bool.true_or, Bool.false_or, Bool.or_false, cond_true, cond_false]) rfl
  exact z_rcs hc hH 4 (pc' := 4) (lv' := [(3, .int (nI 0)), (2, .int (nB (kA (cdF μ s) 0))), (0, .ref 50), (1, .int (nI s))]) (st' := []) (μ' := μ) (by rfl) (hL 34 0 (by omega))

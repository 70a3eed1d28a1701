/-! the game: nine, isOpen, add of the reference -/
set_option maxRecDepth 8000
def ioF (μ : zM) (s i : Nat) : Bool := !decide (μ.1 62 (4 * s + i) = 3)
theorem gm_isOpenS (d : Nat) (hd : 1 ≤ d) (μ : zM) (s q : Nat) (hs4 : s < 4) (hq : q ≤ 4) (e64 : μ.1 64 s = nI q) : z_C d mi_X7_isOpen_ [.ref 50, .int (nI s)] μ (zR μ (.int (nB (kA (ioF μ s) q)))) := by
  refine z_C_in (by decide) (by omega) (fun d' Z ed hc hr => ?_)
  have hH : zH mi_X7_isOpen_ zc_X7_isOpen_ 79 7 4 := ⟨by rfl, by rfl, by rfl, by rfl⟩
  have hL : ∀ n i, i + n = q → Z 0 4 [(3, .int (nI i)), (2, .int (nB (kA (ioF μ s) i))), (0, .ref 50), (1, .int (nI s))] [] μ := by
    intro n
    induction n with
    | zero =>
      intro i hi
      have hi : i = q := by omega
      obtain ⟨bb, hbb⟩ : ∃ b, kA (ioF μ s) i = b := ⟨_, rfl⟩
      rw [hbb]
      refine z_rcs hc hH 2 (pc' := 6) (lv' := [(3, .int (nI i)), (2, .int (nB bb)), (0, .ref 50), (1, .int (nI s))]) (st' := [.ref 50, .int (nI i)]) (μ' := μ) (by rfl) ?_
      refine zq_gfr hc hH (by rfl) (ci := 6) (f := 32) (q := 64) (by rfl) (by decide +kernel) (by rfl) (by decide +kernel) ?_
      refine z_rcs hc hH 1 (pc' := 10) (lv' := [(3, .int (nI i)), (2, .int (nB bb)), (0, .ref 50), (1, .int (nI s))]) (st' := [.int (nI s), .ref 64, .int (nI i)]) (μ' := μ) (by rfl) ?_
      refine zq_iald hc hH (by rfl) 4 (oka_i (by decide +kernel)) (vp_in_nI (by omega) (by decide)) ?_
      rw [nI_clamp (by omega)]
      rw [e64]
      refine zq_ic hc hH (by rfl) (tg := 44) (by rfl) (fun h1 => ?_) (fun h1 => ?_)
      · have h1 : (decide ((nI q) ≤ (nI i))) = true := decide_eq_true (cm_ge.mp h1)
        refine z_rcs hc hH 1 (pc' := 45) (lv' := [(3, .int (nI i)), (2, .int (nB bb)), (0, .ref 50), (1, .int (nI s))]) (st' := [.int (nB bb)]) (μ' := μ) (by rfl) ?_
        exact hr 0 45 _ _ _ (some (.int (nB bb))) (by decide +kernel) ((fun b : Bool => (by cases b <;> rfl : z_rn mi_X7_isOpen_ 45 [.int (nB b)] = some (some (.int (nB b))))) bb) (⟨rfl, by rw [← hbb, hi]⟩)
      · have h1 : (decide ((nI q) ≤ (nI i))) = false := decide_eq_false (cn_ge.mp h1)
        exact absurd (Eq.trans (Eq.symm (kn_nle (by omega) (by omega) (by omega))) h1) (by decide)
    | succ n ih =>
      intro i hi
      obtain ⟨bb, hbb⟩ : ∃ b, kA (ioF μ s) i = b := ⟨_, rfl⟩
      rw [hbb]
      refine z_rcs hc hH 2 (pc' := 6) (lv' := [(3, .int (nI i)), (2, .int (nB bb)), (0, .ref 50), (1, .int (nI s))]) (st' := [.ref 50, .int (nI i)]) (μ' := μ) (by rfl) ?_
      refine zq_gfr hc hH (by rfl) (ci := 6) (f := 32) (q := 64) (by rfl) (by decide +kernel) (by rfl) (by decide +kernel) ?_
      refine z_rcs hc hH 1 (pc' := 10) (lv' := [(3, .int (nI i)), (2, .int (nB bb)), (0, .ref 50), (1, .int (nI s))]) (st' := [.int (nI s), .ref 64, .int (nI i)]) (μ' := μ) (by rfl) ?_
      refine zq_iald hc hH (by rfl) 4 (oka_i (by decide +kernel)) (vp_in_nI (by omega) (by decide)) ?_
      rw [nI_clamp (by omega)]
      rw [e64]
      refine zq_ic hc hH (by rfl) (tg := 44) (by rfl) (fun h1 => ?_) (fun h1 => ?_)
      · have h1 : (decide ((nI q) ≤ (nI i))) = true := decide_eq_true (cm_ge.mp h1)
        exact absurd (Eq.trans (Eq.symm (kn_nlf (by omega) (by omega) (by omega))) h1) (by decide)
      · have h1 : (decide ((nI q) ≤ (nI i))) = false := decide_eq_false (cn_ge.mp h1)
        refine z_rcs hc hH 1 (pc' := 15) (lv' := [(3, .int (nI i)), (2, .int (nB bb)), (0, .ref 50), (1, .int (nI s))]) (st' := [.int (nB bb)]) (μ' := μ) (by rfl) ?_
        have hJ2 : Z 0 37 [(3, .int (nI i)), (2, .int (nB bb)), (0, .ref 50), (1, .int (nI s))] [.int (nB (bb || (!(decide ((μ.1 62 (4 * s + i)) = 3)))))] μ := by
          refine z_rcs hc hH 3 (pc' := 4) (lv' := [(3, .int ((nI i) + 1)), (2, .int (nB (bb || (!(decide ((μ.1 62 (4 * s + i)) = 3)))))), (0, .ref 50), (1, .int (nI s))]) (st' := []) (μ' := μ) (by rfl) ?_
          have e9 := ih (i + 1) (by omega)
          rw [nI_s1]
          refine zJ e9 ?_ rfl rfl
          have e8 : kA (ioF μ s) (i + 1) = (bb || (!(decide ((μ.1 62 (4 * s + i)) = 3)))) := by
            show (kA _ i || ioF μ s i) = _
            rw [hbb]; unfold ioF; cases bb <;> first | rfl | (simp only [Bool.false_or, Bool.true_or])
          rw [e8]
        refine zq_if hc hH (by rfl) (tg := 32) (by rfl) (fun h3 => ?_) (fun h3 => ?_)
        · have h3 : (bb) = true := nB_n.mp (cm_ne.mp h3)
          refine z_rcs hc hH 2 (pc' := 37) (lv' := [(3, .int (nI i)), (2, .int (nB bb)), (0, .ref 50), (1, .int (nI s))]) (st' := [.int 1]) (μ' := μ) (by rfl) ?_
          exact zJ hJ2 rfl (by first | rfl | simp only [h3, lb_f, Int64.or_zero, Int32.add_zero, nB_t, nB_f, Bool.not_true, Bool.not_false, Bool.and_true, Bool.true_and, Bool.false_and, Bool.and_false, Bool.or_true, Bool.true_or, Bool.false_or, Bool.or_false, cond_true, cond_false]) rfl
        · have h3 : (bb) = false := nB_z.mp (cn_ne.mp h3)
          refine z_rcs hc hH 1 (pc' := 19) (lv' := [(3, .int (nI i)), (2, .int (nB bb)), (0, .ref 50), (1, .int (nI s))]) (st' := [.ref 50]) (μ' := μ) (by rfl) ?_
          refine zq_gfr hc hH (by rfl) (ci := 6) (f := 30) (q := 62) (by rfl) (by decide +kernel) (by rfl) (by decide +kernel) ?_
          refine z_rcs hc hH 5 (pc' := 27) (lv' := [(3, .int (nI i)), (2, .int (nB bb)), (0, .ref 50), (1, .int (nI s))]) (st' := [.int ((4 * (nI s)) + (nI i)), .ref 62]) (μ' := μ) (by rfl) ?_
          rw [nI_k4]
          refine zq_iald hc hH (by rfl) 16 (oka_i (by decide +kernel)) (vp_in_nI (by omega) (by decide)) ?_
          rw [nI_clamp (by omega)]
          refine z_rcs hc hH 1 (pc' := 29) (lv' := [(3, .int (nI i)), (2, .int (nB bb)), (0, .ref 50), (1, .int (nI s))]) (st' := [.int 3, .int (μ.1 62 (4 * s + i))]) (μ' := μ) (by rfl) ?_
          refine zq_ic hc hH (by rfl) (tg := 36) (by rfl) (fun h4 => ?_) (fun h4 => ?_)
          · have h4 : (decide ((μ.1 62 (4 * s + i)) = 3)) = true := decide_eq_true (cm_eq9.mp h4)
            refine z_rcs hc hH 1 (pc' := 37) (lv' := [(3, .int (nI i)), (2, .int (nB bb)), (0, .ref 50), (1, .int (nI s))]) (st' := [.int 0]) (μ' := μ) (by rfl) ?_
            exact zJ hJ2 rfl (by first | rfl | simp only [h3, h4, lb_f, Int64.or_zero, Int32.add_zero, nB_t, nB_f, Bool.not_true, Bool.not_false, Bool.and_true, Bool.true_and, Bool.false_and, Bool.and_false, Bool.or_true, Bool.true_or, Bool.false_or, Bool.or_false, cond_true, cond_false]) rfl
          · have h4 : (decide ((μ.1 62 (4 * s + i)) = 3)) = false := decide_eq_false (cn_eq.mp h4)
            refine z_rcs hc hH 2 (pc' := 37) (lv' := [(3, .int (nI i)), (2, .int (nB bb)), (0, .ref 50), (1, .int (nI s))]) (st' := [.int 1]) (μ' := μ) (by rfl) ?_
            exact zJ hJ2 rfl (by first | rfl | simp only [h3, h4, lb_f, Int64.or_zero, Int32.add_zero, nB_t, nB_f, Bool.not_true, Bool.not_false, Bool.and_true, Bool.true_and, Bool.false_and, Bool.and_false, Bool.or_true, Bool.true_or, Bool.false_or, Bool.or_false, cond_true, cond_false]) rfl
  exact z_rcs hc hH 4 (pc' := 4) (lv' := [(3, .int (nI 0)), (2, .int (nB (kA (ioF μ s) 0))), (0, .ref 50), (1, .int (nI s))]) (st' := []) (μ' := μ) (by rfl) (hL q 0 (by omega))
def niF (μ : zM) (t k : Nat) : Bool := eN k && !decide (μ.1 60 (34 * t + k) ≤ 0)
theorem cn_le9 {f : Nat → Bool} : ∀ n, cn f n ≤ n
  | 0 => Nat.le_refl _
  | n + 1 => by
    have := cn_le9 (f := f) n
    show cn f n + (if f n then 1 else 0) ≤ n + 1
    split <;> omega
theorem ni_isEnd (d : Nat) (hd : 2 ≤ d) (μ : zM) (k : Nat) (hk : k < 34) : z_C d mi_X7_isEnd [.int (nI k)] μ (zR μ (.int (nB (eN k)))) := by
  refine z_C_mono (fc_X7_isEnd d hd μ k hk) (fun r μ' z => ⟨z.1, ?_⟩)
  rcases z.2 with ⟨h, h2⟩ | ⟨h2, h⟩
  · rw [h2]; exact h
  · cases e : eN k
    · exact h2
    · exact absurd e h
theorem cn_s9 {f : Nat → Bool} {n : Nat} : nI (cn f (n + 1)) = nI (cn f n) + nB (f n) := by
  show nI (cn f n + (if f n then 1 else 0)) = _
  cases f n
  · exact (Int32.add_zero _).symm
  · exact (nI_s1 _).symm
theorem ni_c9 {n : Nat} {b : Bool} (hn : n ≤ 34) (h : decide (9 ≤ nI n) = b) : decide (9 ≤ n) = b := by
  rw [← h]
  have : (9 : Int32) ≤ nI n ↔ 9 ≤ n := by rw [Int32.le_iff_toInt_le, nI_toInt (by omega), show (9 : Int32).toInt = 9 from rfl]; omega
  simp only [this]
abbrev niC (μ : zM) (t : Nat) : Bool := bif decide (μ.1 50 44 = 1) then (bif decide (μ.1 50 57 = 0) then (bif decide (μ.1 50 56 = 0) then false else (bif decide (μ.1 66 t ≤ 0) then decide (9 ≤ cn (niF μ t) 34) else false)) else false) else false
theorem gm_nine (d : Nat) (hd : 3 ≤ d) (μ : zM) (t : Nat) (ht4 : t < 4) (ht : μ.1 50 45 = nI t) (dl e : Nat) (hdl : μ.1 50 40 = nI dl) (hdl4 : dl < 4) (he : (dl + 1) % 4 = e) : z_C d mi_X7_nine [.ref 50] μ (fun r μ' => (niC μ t = true ∧ r = some (.int 1) ∧ μ' = eMB (z_ui μ 50 0 0) true true dl e) ∨ (niC μ t = false ∧ r = some (.int 0) ∧ μ' = z_ui μ 50 0 0)) := by
  refine z_C_in (by decide) (by omega) (fun d' Z ed hc hr => ?_)
  have hH : zH mi_X7_nine zc_X7_nine 79 7 3 := ⟨by rfl, by rfl, by rfl, by rfl⟩
  refine z_rcs hc hH 2 (pc' := 2) (lv' := [(0, .ref 50)]) (st' := [.int 0, .ref 50]) (μ' := μ) (by rfl) ?_
  refine zq_pfi hc hH (by rfl) (ci := 6) (f := 0) (by rfl) (by decide +kernel) (by rfl) ?_
  show Z 0 5 [(0, .ref 50)] [] (z_ui μ 50 0 0)
  refine z_rcs hc hH 1 (pc' := 6) (lv' := [(0, .ref 50)]) (st' := [.ref 50]) (μ' := z_ui μ 50 0 0) (by rfl) ?_
  refine zq_gfi hc hH (by rfl) (ci := 6) (f := 44) (by rfl) (by decide +kernel) (by rfl) ?_
  rw [ui_k (by omega)]
  refine z_rcs hc hH 1 (pc' := 10) (lv' := [(0, .ref 50)]) (st' := [.int 1, .int (μ.1 50 44)]) (μ' := z_ui μ 50 0 0) (by rfl) ?_
  refine zq_ic hc hH (by rfl) (tg := 39) (by rfl) (fun h1 => ?_) (fun h1 => ?_)
  · have h1 : (decide ((μ.1 50 44) = 1)) = false := decide_eq_false (cm_ne.mp h1)
    refine z_rcs hc hH 1 (pc' := 40) (lv' := [(0, .ref 50)]) (st' := [.int 0]) (μ' := z_ui μ 50 0 0) (by rfl) ?_
    exact hr 0 40 _ _ _ (some (.int 0)) (by decide +kernel) (by rfl) (Or.inr ⟨by simp only [niC, h1, Bool.true_or, Bool.true_and, Bool.and_true, Bool.false_and, Bool.and_false, Bool.not_true, Bool.not_false, Bool.or_true, Bool.or_false, Bool.false_or, cond_true, cond_false], rfl, rfl⟩)
  · have h1 : (decide ((μ.1 50 44) = 1)) = true := decide_eq_true (cn_ne.mp h1)
    refine z_rcs hc hH 1 (pc' := 14) (lv' := [(0, .ref 50)]) (st' := [.ref 50]) (μ' := z_ui μ 50 0 0) (by rfl) ?_
    refine zq_gfi hc hH (by rfl) (ci := 6) (f := 57) (by rfl) (by decide +kernel) (by rfl) ?_
    rw [ui_k (by omega)]
    refine zq_if hc hH (by rfl) (tg := 39) (by rfl) (fun h2 => ?_) (fun h2 => ?_)
    · have h2 : (decide ((μ.1 50 57) = 0)) = false := decide_eq_false (cm_ne.mp h2)
      refine z_rcs hc hH 1 (pc' := 40) (lv' := [(0, .ref 50)]) (st' := [.int 0]) (μ' := z_ui μ 50 0 0) (by rfl) ?_
      exact hr 0 40 _ _ _ (some (.int 0)) (by decide +kernel) (by rfl) (Or.inr ⟨by simp only [niC, h1, h2, Bool.true_or, Bool.true_and, Bool.and_true, Bool.false_and, Bool.and_false, Bool.not_true, Bool.not_false, Bool.or_true, Bool.or_false, Bool.false_or, cond_true, cond_false], rfl, rfl⟩)
    · have h2 : (decide ((μ.1 50 57) = 0)) = true := decide_eq_true (cn_ne.mp h2)
      refine z_rcs hc hH 1 (pc' := 21) (lv' := [(0, .ref 50)]) (st' := [.ref 50]) (μ' := z_ui μ 50 0 0) (by rfl) ?_
      refine zq_gfi hc hH (by rfl) (ci := 6) (f := 56) (by rfl) (by decide +kernel) (by rfl) ?_
      rw [ui_k (by omega)]
      refine zq_if hc hH (by rfl) (tg := 39) (by rfl) (fun h3 => ?_) (fun h3 => ?_)
      · have h3 : (decide ((μ.1 50 56) = 0)) = true := decide_eq_true (cm_eq9.mp h3)
        refine z_rcs hc hH 1 (pc' := 40) (lv' := [(0, .ref 50)]) (st' := [.int 0]) (μ' := z_ui μ 50 0 0) (by rfl) ?_
        exact hr 0 40 _ _ _ (some (.int 0)) (by decide +kernel) (by rfl) (Or.inr ⟨by simp only [niC, h1, h2, h3, Bool.true_or, Bool.true_and, Bool.and_true, Bool.false_and, Bool.and_false, Bool.not_true, Bool.not_false, Bool.or_true, Bool.or_false, Bool.false_or, cond_true, cond_false], rfl, rfl⟩)
      · have h3 : (decide ((μ.1 50 56) = 0)) = false := decide_eq_false (cn_eq.mp h3)
        refine z_rcs hc hH 1 (pc' := 28) (lv' := [(0, .ref 50)]) (st' := [.ref 50]) (μ' := z_ui μ 50 0 0) (by rfl) ?_
        refine zq_gfr hc hH (by rfl) (ci := 6) (f := 34) (q := 66) (by rfl) (by decide +kernel) (by rfl) (by decide +kernel) ?_
        refine z_rcs hc hH 1 (pc' := 32) (lv' := [(0, .ref 50)]) (st' := [.ref 50, .ref 66]) (μ' := z_ui μ 50 0 0) (by rfl) ?_
        refine zq_gfi hc hH (by rfl) (ci := 6) (f := 45) (by rfl) (by decide +kernel) (by rfl) ?_
        rw [ui_k (by omega)]
        rw [ht]
        refine zq_iald hc hH (by rfl) 4 (oka_i (by decide +kernel)) (vp_in_nI (by omega) (by decide)) ?_
        rw [nI_clamp (by omega)]
        rw [ui_o (by omega)]
        refine zq_if hc hH (by rfl) (tg := 41) (by rfl) (fun h4 => ?_) (fun h4 => ?_)
        · have h4 : (decide ((μ.1 66 t) ≤ 0)) = true := decide_eq_true (cm_le.mp h4)
          refine z_rcs hc hH 4 (pc' := 45) (lv' := [(2, .int 0), (1, .int 0), (0, .ref 50)]) (st' := []) (μ' := z_ui μ 50 0 0) (by rfl) ?_
          have hL : ∀ n k, k + n = 34 → Z 0 45 [(2, .int (nI k)), (1, .int (nI (cn (niF μ t) k))), (0, .ref 50)] [] (z_ui μ 50 0 0) := by
            intro n
            induction n with
            | zero =>
              intro k hk
              have hk : k = 34 := by omega
              subst hk
              refine z_rcs hc hH 2 (pc' := 48) (lv' := [(2, .int (nI 34)), (1, .int (nI (cn (niF μ t) 34))), (0, .ref 50)]) (st' := [.int 34, .int (nI 34)]) (μ' := z_ui μ 50 0 0) (by rfl) ?_
              refine zq_ic hc hH (by rfl) (tg := 84) (by rfl) (fun h5 => ?_) (fun h5 => ?_)
              · have h5 : (decide (34 ≤ (nI 34))) = true := decide_eq_true (cm_ge.mp h5)
                refine z_rcs hc hH 2 (pc' := 87) (lv' := [(2, .int (nI 34)), (1, .int (nI (cn (niF μ t) 34))), (0, .ref 50)]) (st' := [.int 9, .int (nI (cn (niF μ t) 34))]) (μ' := z_ui μ 50 0 0) (by rfl) ?_
                refine zq_ic hc hH (by rfl) (tg := 92) (by rfl) (fun h6 => ?_) (fun h6 => ?_)
                · have h6 : (decide (9 ≤ (nI (cn (niF μ t) 34)))) = true := decide_eq_true (cm_ge.mp h6)
                  refine z_rcs hc hH 3 (pc' := 95) (lv' := [(2, .int (nI 34)), (1, .int (nI (cn (niF μ t) 34))), (0, .ref 50)]) (st' := [.int 1, .int 1, .ref 50]) (μ' := z_ui μ 50 0 0) (by rfl) ?_
                  refine zq_call hc (by rfl) (gm_endsB d' (by omega) (z_ui μ 50 0 0) true true dl e (by rw [ui_k (by omega)]; exact hdl) hdl4 he) (by decide +kernel) (fun r9 μ9 hq => ?_)
                  obtain ⟨rfl, rfl⟩ := hq
                  show Z 0 98 [(2, .int (nI 34)), (1, .int (nI (cn (niF μ t) 34))), (0, .ref 50)] [] (eMB (z_ui μ 50 0 0) true true dl e)
                  refine z_rcs hc hH 1 (pc' := 99) (lv' := [(2, .int (nI 34)), (1, .int (nI (cn (niF μ t) 34))), (0, .ref 50)]) (st' := [.int 1]) (μ' := eMB (z_ui μ 50 0 0) true true dl e) (by rfl) ?_
                  exact hr 0 99 _ _ _ (some (.int 1)) (by decide +kernel) (by rfl) (Or.inl ⟨by simp only [niC, h1, h2, h3, h4, (show decide (9 ≤ cn (niF μ t) 34) = true from ni_c9 (cn_le9 34) h6), Bool.true_or, Bool.true_and, Bool.and_true, Bool.false_and, Bool.and_false, Bool.not_true, Bool.not_false, Bool.or_true, Bool.or_false, Bool.false_or, cond_true, cond_false], rfl, rfl⟩)
                · have h6 : (decide (9 ≤ (nI (cn (niF μ t) 34)))) = false := decide_eq_false (cn_ge.mp h6)
                  refine z_rcs hc hH 1 (pc' := 91) (lv' := [(2, .int (nI 34)), (1, .int (nI (cn (niF μ t) 34))), (0, .ref 50)]) (st' := [.int 0]) (μ' := z_ui μ 50 0 0) (by rfl) ?_
                  exact hr 0 91 _ _ _ (some (.int 0)) (by decide +kernel) (by rfl) (Or.inr ⟨by simp only [niC, h1, h2, h3, h4, (show decide (9 ≤ cn (niF μ t) 34) = false from ni_c9 (cn_le9 34) h6), Bool.true_or, Bool.true_and, Bool.and_true, Bool.false_and, Bool.and_false, Bool.not_true, Bool.not_false, Bool.or_true, Bool.or_false, Bool.false_or, cond_true, cond_false], rfl, rfl⟩)
              · have h5 : (decide (34 ≤ (nI 34))) = false := decide_eq_false (cn_ge.mp h5)
                exact absurd (Eq.trans (Eq.symm (kn_le2 (m := 34) rfl (by omega) (by omega))) h5) (by decide)
            | succ n ih =>
              intro k hk
              have hc9 := cn_le9 (f := niF μ t) k
              refine z_rcs hc hH 2 (pc' := 48) (lv' := [(2, .int (nI k)), (1, .int (nI (cn (niF μ t) k))), (0, .ref 50)]) (st' := [.int 34, .int (nI k)]) (μ' := z_ui μ 50 0 0) (by rfl) ?_
              refine zq_ic hc hH (by rfl) (tg := 84) (by rfl) (fun h7 => ?_) (fun h7 => ?_)
              · have h7 : (decide (34 ≤ (nI k))) = true := decide_eq_true (cm_ge.mp h7)
                exact absurd (Eq.trans (Eq.symm (kn_le (m := 34) rfl (by omega) (by omega))) h7) (by decide)
              · have h7 : (decide (34 ≤ (nI k))) = false := decide_eq_false (cn_ge.mp h7)
                refine z_rcs hc hH 2 (pc' := 53) (lv' := [(2, .int (nI k)), (1, .int (nI (cn (niF μ t) k))), (0, .ref 50)]) (st' := [.int (nI k), .int (nI (cn (niF μ t) k))]) (μ' := z_ui μ 50 0 0) (by rfl) ?_
                refine zq_call hc (by rfl) (ni_isEnd d' (by omega) (z_ui μ 50 0 0) k (by omega)) (by decide +kernel) (fun r9 μ9 hq => ?_)
                obtain ⟨hμ9, rfl⟩ := hq
                rw [hμ9]
                clear hμ9 μ9
                show Z 0 56 [(2, .int (nI k)), (1, .int (nI (cn (niF μ t) k))), (0, .ref 50)] [.int (nB (eN k)), .int (nI (cn (niF μ t) k))] (z_ui μ 50 0 0)
                have hJ8 : Z 0 76 [(2, .int (nI k)), (1, .int (nI (cn (niF μ t) k))), (0, .ref 50)] [.int (nB ((eN k) && (!(decide ((μ.1 60 (34 * t + k)) ≤ 0))))), .int (nI (cn (niF μ t) k))] (z_ui μ 50 0 0) := by
                  refine z_rcs hc hH 4 (pc' := 45) (lv' := [(2, .int ((nI k) + 1)), (1, .int ((nI (cn (niF μ t) k)) + (nB ((eN k) && (!(decide ((μ.1 60 (34 * t + k)) ≤ 0))))))), (0, .ref 50)]) (st' := []) (μ' := z_ui μ 50 0 0) (by rfl) ?_
                  have e9 := ih (k + 1) (by omega)
                  rw [nI_s1]
                  refine zJ e9 ?_ rfl rfl
                  have e8 : nI (cn (niF μ t) (k + 1)) = (nI (cn (niF μ t) k)) + (nB ((eN k) && (!(decide ((μ.1 60 (34 * t + k)) ≤ 0))))) := by
                    rw [cn_s9]; unfold niF
                    cases eN k <;> cases decide (μ.1 60 (34 * t + k) ≤ 0) <;> rfl
                  rw [e8]
                refine zq_if hc hH (by rfl) (tg := 75) (by rfl) (fun h9 => ?_) (fun h9 => ?_)
                · have h9 : (eN k) = false := nB_z.mp (cm_eq9.mp h9)
                  refine z_rcs hc hH 1 (pc' := 76) (lv' := [(2, .int (nI k)), (1, .int (nI (cn (niF μ t) k))), (0, .ref 50)]) (st' := [.int 0, .int (nI (cn (niF μ t) k))]) (μ' := z_ui μ 50 0 0) (by rfl) ?_
                  exact zJ hJ8 rfl (by first | rfl | simp only [h9, lb_f, Int64.or_zero, Int32.add_zero, nB_t, nB_f, Bool.not_true, Bool.not_false, Bool.and_true, Bool.true_and, Bool.false_and, Bool.and_false, Bool.or_true, Bool.true_or, Bool.false_or, Bool.or_false, cond_true, cond_false]) rfl
                · have h9 : (eN k) = true := nB_n.mp (cn_eq.mp h9)
                  refine z_rcs hc hH 2 (pc' := 61) (lv' := [(2, .int (nI k)), (1, .int (nI (cn (niF μ t) k))), (0, .ref 50)]) (st' := [.ref 50, .ref 50, .int (nI (cn (niF μ t) k))]) (μ' := z_ui μ 50 0 0) (by rfl) ?_
                  refine zq_gfi hc hH (by rfl) (ci := 6) (f := 45) (by rfl) (by decide +kernel) (by rfl) ?_
                  rw [ui_k (by omega)]
                  rw [ht]
                  refine z_rcs hc hH 1 (pc' := 65) (lv' := [(2, .int (nI k)), (1, .int (nI (cn (niF μ t) k))), (0, .ref 50)]) (st' := [.int (nI k), .int (nI t), .ref 50, .int (nI (cn (niF μ t) k))]) (μ' := z_ui μ 50 0 0) (by rfl) ?_
                  refine zq_call hc (by rfl) (fc_X7_has_ d' (by omega) (z_ui μ 50 0 0) t k ht4 (by omega)) (by decide +kernel) (fun r9 μ9 hq => ?_)
                  obtain ⟨hμ9, rfl⟩ := hq
                  rw [hμ9]
                  clear hμ9 μ9
                  rw [ui_o (by omega)]
                  show Z 0 68 [(2, .int (nI k)), (1, .int (nI (cn (niF μ t) k))), (0, .ref 50)] [.int (μ.1 60 (34 * t + k)), .int (nI (cn (niF μ t) k))] (z_ui μ 50 0 0)
                  refine zq_if hc hH (by rfl) (tg := 75) (by rfl) (fun h10 => ?_) (fun h10 => ?_)
                  · have h10 : (decide ((μ.1 60 (34 * t + k)) ≤ 0)) = true := decide_eq_true (cm_le.mp h10)
                    refine z_rcs hc hH 1 (pc' := 76) (lv' := [(2, .int (nI k)), (1, .int (nI (cn (niF μ t) k))), (0, .ref 50)]) (st' := [.int 0, .int (nI (cn (niF μ t) k))]) (μ' := z_ui μ 50 0 0) (by rfl) ?_
                    exact zJ hJ8 rfl (by first | rfl | simp only [h9, h10, lb_f, Int64.or_zero, Int32.add_zero, nB_t, nB_f, Bool.not_true, Bool.not_false, Bool.and_true, Bool.true_and, Bool.false_and, Bool.and_false, Bool.or_true, Bool.true_or, Bool.false_or, Bool.or_false, cond_true, cond_false]) rfl
                  · have h10 : (decide ((μ.1 60 (34 * t + k)) ≤ 0)) = false := decide_eq_false (cn_le.mp h10)
                    refine z_rcs hc hH 2 (pc' := 76) (lv' := [(2, .int (nI k)), (1, .int (nI (cn (niF μ t) k))), (0, .ref 50)]) (st' := [.int 1, .int (nI (cn (niF μ t) k))]) (μ' := z_ui μ 50 0 0) (by rfl) ?_
                    exact zJ hJ8 rfl (by first | rfl | simp only [h9, h10, lb_f, Int64.or_zero, Int32.add_zero, nB_t, nB_f, Bool.not_true, Bool.not_false, Bool.and_true, Bool.true_and, Bool.false_and, Bool.and_false, Bool.or_true, Bool.true_or, Bool.false_or, Bool.or_false, cond_true, cond_false]) rfl
          exact hL 34 0 (by omega)
        · have h4 : (decide ((μ.1 66 t) ≤ 0)) = false := decide_eq_false (cn_le.mp h4)
          refine z_rcs hc hH 1 (pc' := 40) (lv' := [(0, .ref 50)]) (st' := [.int 0]) (μ' := z_ui μ 50 0 0) (by rfl) ?_
          exact hr 0 40 _ _ _ (some (.int 0)) (by decide +kernel) (by rfl) (Or.inr ⟨by simp only [niC, h1, h2, h3, h4, Bool.true_or, Bool.true_and, Bool.and_true, Bool.false_and, Bool.and_false, Bool.not_true, Bool.not_false, Bool.or_true, Bool.or_false, Bool.false_or, cond_true, cond_false], rfl, rfl⟩)

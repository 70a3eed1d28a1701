/-! the game: keepsOther, add, startHand of the class -/
set_option maxRecDepth 8000
def kA (f : Nat → Bool) : Nat → Bool
  | 0 => false
  | n + 1 => kA f n || f n
theorem kA_hit {f : Nat → Bool} {k n : Nat} (hk : k < n) (h : f k = true) : kA f n = true := by
  induction n with
  | zero => omega
  | succ n ih =>
    show (kA f n || f n) = true
    by_cases c : k < n
    · rw [ih c]; rfl
    · have e : k = n := by omega
      rw [← e, h, Bool.or_true]
def koF (μ : zM) (j : Nat) (us bs : Int64) (k : Nat) : Bool := !decide (μ.1 (20 + 8 * j) k - nB (xHd us (nI k)) ≤ 0) && !xHd bs (nI k)
theorem kn_le2 {n m : Nat} {M : Int32} (hM : M.toInt = (m : Int)) (h : n < 2147483648) (hm : m ≤ n) : decide (M ≤ nI n) = true := decide_eq_true (by rw [Int32.le_iff_toInt_le, nI_toInt h, hM]; omega)
theorem gc_keepsOther (d : Nat) (hd : 2 ≤ d) (μ : zM) (j : Nat) (hj : j < 4) (us bs : Int64) : z_C d mi_X6_keepsOther [.ref (19 + 8 * j), .long us, .long bs] μ (zR μ (.int (nB (kA (koF μ j us bs) 34)))) := by
  refine z_C_in (by decide) (by omega) (fun d' Z ed hc hr => ?_)
  have hH : zH mi_X6_keepsOther zc_X6_keepsOther 79 6 7 := ⟨by rfl, by rfl, by rfl, by rfl⟩
  have hL : ∀ n k (kp : Int32), k + n = 34 → kA (koF μ j us bs) k = false → Z 0 3 [(5, .int (nI k)), (6, .int kp), (0, .ref (19 + 8 * j)), (1, .long us), (3, .long bs)] [] μ := by
    intro n
    induction n with
    | zero =>
      intro k kp hk hA
      have hz : kA (koF μ j us bs) 34 = false := by rw [← hk]; exact hA
      refine z_rcs hc hH 2 (pc' := 7) (lv' := [(5, .int (nI k)), (6, .int kp), (0, .ref (19 + 8 * j)), (1, .long us), (3, .long bs)]) (st' := [.int 34, .int (nI k)]) (μ' := μ) (by rfl) ?_
      refine zq_ic hc hH (by rfl) (tg := 56) (by rfl) (fun h1 => ?_) (fun h1 => ?_)
      · have h1 : (decide (34 ≤ (nI k))) = true := decide_eq_true (cm_ge.mp h1)
        refine z_rcs hc hH 1 (pc' := 57) (lv' := [(5, .int (nI k)), (6, .int kp), (0, .ref (19 + 8 * j)), (1, .long us), (3, .long bs)]) (st' := [.int 0]) (μ' := μ) (by rfl) ?_
        exact hr 0 57 _ _ _ (some (.int 0)) (by decide +kernel) (by rfl) (⟨rfl, by rw [hz]; rfl⟩)
      · have h1 : (decide (34 ≤ (nI k))) = false := decide_eq_false (cn_ge.mp h1)
        exact absurd (Eq.trans (Eq.symm (kn_le2 (m := 34) rfl (by omega) (by omega))) h1) (by decide)
    | succ n ih =>
      intro k kp hk hA
      refine z_rcs hc hH 2 (pc' := 7) (lv' := [(5, .int (nI k)), (6, .int kp), (0, .ref (19 + 8 * j)), (1, .long us), (3, .long bs)]) (st' := [.int 34, .int (nI k)]) (μ' := μ) (by rfl) ?_
      refine zq_ic hc hH (by rfl) (tg := 56) (by rfl) (fun h1 => ?_) (fun h1 => ?_)
      · have h1 : (decide (34 ≤ (nI k))) = true := decide_eq_true (cm_ge.mp h1)
        exact absurd (Eq.trans (Eq.symm (kn_le (m := 34) rfl (by omega) (by omega))) h1) (by decide)
      · have h1 : (decide (34 ≤ (nI k))) = false := decide_eq_false (cn_ge.mp h1)
        refine z_rcs hc hH 1 (pc' := 11) (lv' := [(5, .int (nI k)), (6, .int kp), (0, .ref (19 + 8 * j)), (1, .long us), (3, .long bs)]) (st' := [.ref (19 + 8 * j)]) (μ' := μ) (by rfl) ?_
        refine zq_gfr hc hH (by rfl) (ci := 2) (f := 0) (q := 20 + 8 * j) (by rfl) (sj (P := fun i => okf 79 2 0 (19 + 8 * i)) hj (by decide +kernel)) (by rfl) (sj (P := fun i => Nat.beq (z_gr (19 + 8 * i) 0) (20 + 8 * i)) hj (by decide +kernel)) ?_
        refine z_rcs hc hH 1 (pc' := 16) (lv' := [(5, .int (nI k)), (6, .int kp), (0, .ref (19 + 8 * j)), (1, .long us), (3, .long bs)]) (st' := [.int (nI k), .ref (20 + 8 * j)]) (μ' := μ) (by rfl) ?_
        refine zq_iald hc hH (by rfl) 34 (oka_i (sj (P := fun i => oka 79 1 34 (20 + 8 * i)) hj (by decide +kernel))) (vp_in_nI (by omega) (by decide)) ?_
        rw [nI_clamp (by omega)]
        refine z_rcs hc hH 2 (pc' := 20) (lv' := [(5, .int (nI k)), (6, .int kp), (0, .ref (19 + 8 * j)), (1, .long us), (3, .long bs)]) (st' := [.int (nI k), .long us, .int (μ.1 (20 + 8 * j) k)]) (μ' := μ) (by rfl) ?_
        refine zq_call hc (by rfl) (fb_X6_holds d' (by omega) μ us (nI k)) (by decide +kernel) (fun r9 μ9 hq => ?_)
        obtain ⟨hμ9, rfl⟩ := hq
        rw [hμ9]
        clear hμ9 μ9
        show Z 0 23 [(5, .int (nI k)), (6, .int kp), (0, .ref (19 + 8 * j)), (1, .long us), (3, .long bs)] [.int (nB (xHd us (nI k))), .int (μ.1 (20 + 8 * j) k)] μ
        have hJ2 : Z 0 31 [(5, .int (nI k)), (6, .int kp), (0, .ref (19 + 8 * j)), (1, .long us), (3, .long bs)] [.int (nB (xHd us (nI k))), .int (μ.1 (20 + 8 * j) k)] μ := by
          refine z_rcs hc hH 3 (pc' := 36) (lv' := [(6, .int ((μ.1 (20 + 8 * j) k) - (nB (xHd us (nI k))))), (5, .int (nI k)), (0, .ref (19 + 8 * j)), (1, .long us), (3, .long bs)]) (st' := [.int ((μ.1 (20 + 8 * j) k) - (nB (xHd us (nI k))))]) (μ' := μ) (by rfl) ?_
          refine zq_if hc hH (by rfl) (tg := 50) (by rfl) (fun h3 => ?_) (fun h3 => ?_)
          · have h3 : (decide (((μ.1 (20 + 8 * j) k) - (nB (xHd us (nI k)))) ≤ 0)) = true := decide_eq_true (cm_le.mp h3)
            refine z_rcs hc hH 2 (pc' := 3) (lv' := [(5, .int ((nI k) + 1)), (6, .int ((μ.1 (20 + 8 * j) k) - (nB (xHd us (nI k))))), (0, .ref (19 + 8 * j)), (1, .long us), (3, .long bs)]) (st' := []) (μ' := μ) (by rfl) ?_
            rw [nI_s1]
            exact ih (k + 1) _ (by omega) (by show (kA _ k || koF μ j us bs k) = false; rw [hA]; unfold koF; simp only [h3, Bool.not_true, Bool.not_false, Bool.and_true, Bool.true_and, Bool.false_and, Bool.and_false, Bool.or_false, Bool.or_true])
          · have h3 : (decide (((μ.1 (20 + 8 * j) k) - (nB (xHd us (nI k)))) ≤ 0)) = false := decide_eq_false (cn_le.mp h3)
            refine z_rcs hc hH 2 (pc' := 42) (lv' := [(6, .int ((μ.1 (20 + 8 * j) k) - (nB (xHd us (nI k))))), (5, .int (nI k)), (0, .ref (19 + 8 * j)), (1, .long us), (3, .long bs)]) (st' := [.int (nI k), .long bs]) (μ' := μ) (by rfl) ?_
            refine zq_call hc (by rfl) (fb_X6_holds d' (by omega) μ bs (nI k)) (by decide +kernel) (fun r9 μ9 hq => ?_)
            obtain ⟨hμ9, rfl⟩ := hq
            rw [hμ9]
            clear hμ9 μ9
            show Z 0 45 [(6, .int ((μ.1 (20 + 8 * j) k) - (nB (xHd us (nI k))))), (5, .int (nI k)), (0, .ref (19 + 8 * j)), (1, .long us), (3, .long bs)] [.int (nB (xHd bs (nI k)))] μ
            refine zq_if hc hH (by rfl) (tg := 50) (by rfl) (fun h4 => ?_) (fun h4 => ?_)
            · have h4 : (xHd bs (nI k)) = true := nB_n.mp (cm_ne.mp h4)
              refine z_rcs hc hH 2 (pc' := 3) (lv' := [(5, .int ((nI k) + 1)), (6, .int ((μ.1 (20 + 8 * j) k) - (nB (xHd us (nI k))))), (0, .ref (19 + 8 * j)), (1, .long us), (3, .long bs)]) (st' := []) (μ' := μ) (by rfl) ?_
              rw [nI_s1]
              exact ih (k + 1) _ (by omega) (by show (kA _ k || koF μ j us bs k) = false; rw [hA]; unfold koF; simp only [h3, h4, Bool.not_true, Bool.not_false, Bool.and_true, Bool.true_and, Bool.false_and, Bool.and_false, Bool.or_false, Bool.or_true])
            · have h4 : (xHd bs (nI k)) = false := nB_z.mp (cn_ne.mp h4)
              refine z_rcs hc hH 1 (pc' := 49) (lv' := [(6, .int ((μ.1 (20 + 8 * j) k) - (nB (xHd us (nI k))))), (5, .int (nI k)), (0, .ref (19 + 8 * j)), (1, .long us), (3, .long bs)]) (st' := [.int 1]) (μ' := μ) (by rfl) ?_
              exact hr 0 49 _ _ _ (some (.int 1)) (by decide +kernel) (by rfl) (⟨rfl, by rw [kA_hit (k := k) (by omega) (show koF μ j us bs k = true from by unfold koF; simp only [h3, h4, Bool.not_true, Bool.not_false, Bool.and_true, Bool.true_and, Bool.false_and, Bool.and_false, Bool.or_false, Bool.or_true])]; rfl⟩)
        refine zq_if hc hH (by rfl) (tg := 30) (by rfl) (fun h5 => ?_) (fun h5 => ?_)
        · have h5 : (xHd us (nI k)) = false := nB_z.mp (cm_eq9.mp h5)
          refine z_rcs hc hH 1 (pc' := 31) (lv' := [(5, .int (nI k)), (6, .int kp), (0, .ref (19 + 8 * j)), (1, .long us), (3, .long bs)]) (st' := [.int 0, .int (μ.1 (20 + 8 * j) k)]) (μ' := μ) (by rfl) ?_
          exact zJ hJ2 rfl (by first | rfl | simp only [h5, lb_f, Int64.or_zero, Int32.add_zero, nB_t, nB_f, Bool.not_true, Bool.not_false, Bool.and_true, Bool.true_and, Bool.false_and, Bool.and_false, Bool.or_true, Bool.true_or, Bool.false_or, Bool.or_false, cond_true, cond_false]) rfl
        · have h5 : (xHd us (nI k)) = true := nB_n.mp (cn_eq.mp h5)
          refine z_rcs hc hH 2 (pc' := 31) (lv' := [(5, .int (nI k)), (6, .int kp), (0, .ref (19 + 8 * j)), (1, .long us), (3, .long bs)]) (st' := [.int 1, .int (μ.1 (20 + 8 * j) k)]) (μ' := μ) (by rfl) ?_
          exact zJ hJ2 rfl (by first | rfl | simp only [h5, lb_f, Int64.or_zero, Int32.add_zero, nB_t, nB_f, Bool.not_true, Bool.not_false, Bool.and_true, Bool.true_and, Bool.false_and, Bool.and_false, Bool.or_true, Bool.true_or, Bool.false_or, Bool.or_false, cond_true, cond_false]) rfl
  refine z_rcs hc hH 2 (pc' := 3) (lv' := [(5, .int (nI 0)), (0, .ref (19 + 8 * j)), (1, .long us), (3, .long bs)]) (st' := []) (μ' := μ) (by rfl) ?_
  refine z_rcs hc hH 2 (pc' := 7) (lv' := [(5, .int (nI 0)), (0, .ref (19 + 8 * j)), (1, .long us), (3, .long bs)]) (st' := [.int 34, .int (nI 0)]) (μ' := μ) (by rfl) ?_
  refine zq_ic hc hH (by rfl) (tg := 56) (by rfl) (fun h1 => ?_) (fun h1 => ?_)
  · have h1 : (decide (34 ≤ (nI 0))) = true := decide_eq_true (cm_ge.mp h1)
    exact absurd (Eq.trans (Eq.symm (kn_le (m := 34) rfl (by omega) (by omega))) h1) (by decide)
  · have h1 : (decide (34 ≤ (nI 0))) = false := decide_eq_false (cn_ge.mp h1)
    refine z_rcs hc hH 1 (pc' := 11) (lv' := [(5, .int (nI 0)), (0, .ref (19 + 8 * j)), (1, .long us), (3, .long bs)]) (st' := [.ref (19 + 8 * j)]) (μ' := μ) (by rfl) ?_
    refine zq_gfr hc hH (by rfl) (ci := 2) (f := 0) (q := 20 + 8 * j) (by rfl) (sj (P := fun i => okf 79 2 0 (19 + 8 * i)) hj (by decide +kernel)) (by rfl) (sj (P := fun i => Nat.beq (z_gr (19 + 8 * i) 0) (20 + 8 * i)) hj (by decide +kernel)) ?_
    refine z_rcs hc hH 1 (pc' := 16) (lv' := [(5, .int (nI 0)), (0, .ref (19 + 8 * j)), (1, .long us), (3, .long bs)]) (st' := [.int (nI 0), .ref (20 + 8 * j)]) (μ' := μ) (by rfl) ?_
    refine zq_iald hc hH (by rfl) 34 (oka_i (sj (P := fun i => oka 79 1 34 (20 + 8 * i)) hj (by decide +kernel))) (vp_in_nI (by omega) (by decide)) ?_
    rw [nI_clamp (by omega)]
    refine z_rcs hc hH 2 (pc' := 20) (lv' := [(5, .int (nI 0)), (0, .ref (19 + 8 * j)), (1, .long us), (3, .long bs)]) (st' := [.int (nI 0), .long us, .int (μ.1 (20 + 8 * j) 0)]) (μ' := μ) (by rfl) ?_
    refine zq_call hc (by rfl) (fb_X6_holds d' (by omega) μ us (nI 0)) (by decide +kernel) (fun r9 μ9 hq => ?_)
    obtain ⟨hμ9, rfl⟩ := hq
    rw [hμ9]
    clear hμ9 μ9
    show Z 0 23 [(5, .int (nI 0)), (0, .ref (19 + 8 * j)), (1, .long us), (3, .long bs)] [.int (nB (xHd us (nI 0))), .int (μ.1 (20 + 8 * j) 0)] μ
    have hJ2 : Z 0 31 [(5, .int (nI 0)), (0, .ref (19 + 8 * j)), (1, .long us), (3, .long bs)] [.int (nB (xHd us (nI 0))), .int (μ.1 (20 + 8 * j) 0)] μ := by
      refine z_rcs hc hH 3 (pc' := 36) (lv' := [(6, .int ((μ.1 (20 + 8 * j) 0) - (nB (xHd us (nI 0))))), (5, .int (nI 0)), (0, .ref (19 + 8 * j)), (1, .long us), (3, .long bs)]) (st' := [.int ((μ.1 (20 + 8 * j) 0) - (nB (xHd us (nI 0))))]) (μ' := μ) (by rfl) ?_
      refine zq_if hc hH (by rfl) (tg := 50) (by rfl) (fun h3 => ?_) (fun h3 => ?_)
      · have h3 : (decide (((μ.1 (20 + 8 * j) 0) - (nB (xHd us (nI 0)))) ≤ 0)) = true := decide_eq_true (cm_le.mp h3)
        refine z_rcs hc hH 2 (pc' := 3) (lv' := [(5, .int ((nI 0) + 1)), (6, .int ((μ.1 (20 + 8 * j) 0) - (nB (xHd us (nI 0))))), (0, .ref (19 + 8 * j)), (1, .long us), (3, .long bs)]) (st' := []) (μ' := μ) (by rfl) ?_
        rw [nI_s1]
        exact hL 33 1 _ (by omega) (by show (kA _ 0 || koF μ j us bs 0) = false; show (false || koF μ j us bs 0) = false; unfold koF; simp only [h3, Bool.not_true, Bool.not_false, Bool.and_true, Bool.true_and, Bool.false_and, Bool.and_false, Bool.or_false, Bool.or_true, Bool.false_or])
      · have h3 : (decide (((μ.1 (20 + 8 * j) 0) - (nB (xHd us (nI 0)))) ≤ 0)) = false := decide_eq_false (cn_le.mp h3)
        refine z_rcs hc hH 2 (pc' := 42) (lv' := [(6, .int ((μ.1 (20 + 8 * j) 0) - (nB (xHd us (nI 0))))), (5, .int (nI 0)), (0, .ref (19 + 8 * j)), (1, .long us), (3, .long bs)]) (st' := [.int (nI 0), .long bs]) (μ' := μ) (by rfl) ?_
        refine zq_call hc (by rfl) (fb_X6_holds d' (by omega) μ bs (nI 0)) (by decide +kernel) (fun r9 μ9 hq => ?_)
        obtain ⟨hμ9, rfl⟩ := hq
        rw [hμ9]
        clear hμ9 μ9
        show Z 0 45 [(6, .int ((μ.1 (20 + 8 * j) 0) - (nB (xHd us (nI 0))))), (5, .int (nI 0)), (0, .ref (19 + 8 * j)), (1, .long us), (3, .long bs)] [.int (nB (xHd bs (nI 0)))] μ
        refine zq_if hc hH (by rfl) (tg := 50) (by rfl) (fun h4 => ?_) (fun h4 => ?_)
        · have h4 : (xHd bs (nI 0)) = true := nB_n.mp (cm_ne.mp h4)
          refine z_rcs hc hH 2 (pc' := 3) (lv' := [(5, .int ((nI 0) + 1)), (6, .int ((μ.1 (20 + 8 * j) 0) - (nB (xHd us (nI 0))))), (0, .ref (19 + 8 * j)), (1, .long us), (3, .long bs)]) (st' := []) (μ' := μ) (by rfl) ?_
          rw [nI_s1]
          exact hL 33 1 _ (by omega) (by show (kA _ 0 || koF μ j us bs 0) = false; show (false || koF μ j us bs 0) = false; unfold koF; simp only [h3, h4, Bool.not_true, Bool.not_false, Bool.and_true, Bool.true_and, Bool.false_and, Bool.and_false, Bool.or_false, Bool.or_true, Bool.false_or])
        · have h4 : (xHd bs (nI 0)) = false := nB_z.mp (cn_ne.mp h4)
          refine z_rcs hc hH 1 (pc' := 49) (lv' := [(6, .int ((μ.1 (20 + 8 * j) 0) - (nB (xHd us (nI 0))))), (5, .int (nI 0)), (0, .ref (19 + 8 * j)), (1, .long us), (3, .long bs)]) (st' := [.int 1]) (μ' := μ) (by rfl) ?_
          exact hr 0 49 _ _ _ (some (.int 1)) (by decide +kernel) (by rfl) (⟨rfl, by rw [kA_hit (k := 0) (by omega) (show koF μ j us bs 0 = true from by unfold koF; simp only [h3, h4, Bool.not_true, Bool.not_false, Bool.and_true, Bool.true_and, Bool.false_and, Bool.and_false, Bool.or_false, Bool.or_true])]; rfl⟩)
    refine zq_if hc hH (by rfl) (tg := 30) (by rfl) (fun h5 => ?_) (fun h5 => ?_)
    · have h5 : (xHd us (nI 0)) = false := nB_z.mp (cm_eq9.mp h5)
      refine z_rcs hc hH 1 (pc' := 31) (lv' := [(5, .int (nI 0)), (0, .ref (19 + 8 * j)), (1, .long us), (3, .long bs)]) (st' := [.int 0, .int (μ.1 (20 + 8 * j) 0)]) (μ' := μ) (by rfl) ?_
      exact zJ hJ2 rfl (by first | rfl | simp only [h5, lb_f, Int64.or_zero, Int32.add_zero, nB_t, nB_f, Bool.not_true, Bool.not_false, Bool.and_true, Bool.true_and, Bool.false_and, Bool.and_false, Bool.or_true, Bool.true_or, Bool.false_or, Bool.or_false, cond_true, cond_false]) rfl
    · have h5 : (xHd us (nI 0)) = true := nB_n.mp (cn_eq.mp h5)
      refine z_rcs hc hH 2 (pc' := 31) (lv' := [(5, .int (nI 0)), (0, .ref (19 + 8 * j)), (1, .long us), (3, .long bs)]) (st' := [.int 1, .int (μ.1 (20 + 8 * j) 0)]) (μ' := μ) (by rfl) ?_
      exact zJ hJ2 rfl (by first | rfl | simp only [h5, lb_f, Int64.or_zero, Int32.add_zero, nB_t, nB_f, Bool.not_true, Bool.not_false, Bool.and_true, Bool.true_and, Bool.false_and, Bool.and_false, Bool.or_true, Bool.true_or, Bool.false_or, Bool.or_false, cond_true, cond_false]) rfl
theorem gc_add (d : Nat) (hd : 5 ≤ d) (μ : zM) (t : Nat) (ht4 : t < 4) (ht : μ.1 0 8 = nI t) (k : Nat) (hk : k < 34) (mm : Bool) (hmm : ∀ d, 3 ≤ d → z_C d mi_X6_mayMakeFour [.ref 0] μ (zR μ (.int (nB mm)))) (at3 : Bool) (A3 : zM) (hat : ∀ d, 3 ≤ d → z_C d mi_X3_addToThree [.ref (19 + 8 * t), .int (nI k)] μ (fun r μ' => r = some (.int (nB at3)) ∧ μ' = A3)) : z_C d mi_X6_add [.ref 0, .int (nI k)] μ (fun r μ' => r = some ((bif mm then (bif at3 then .int 1 else .int 0) else .int 0)) ∧ μ' = (bif mm then (bif at3 then z_ui (z_ui A3 0 15 (nI k)) 0 7 3 else A3) else μ)) := by
  refine z_C_in (by decide) (by omega) (fun d' Z ed hc hr => ?_)
  have hH : zH mi_X6_add zc_X6_add 79 6 2 := ⟨by rfl, by rfl, by rfl, by rfl⟩
  refine z_rcs hc hH 1 (pc' := 1) (lv' := [(0, .ref 0), (1, .int (nI k))]) (st' := [.ref 0]) (μ' := μ) (by rfl) ?_
  refine zq_call hc (by rfl) (hmm d' (by omega)) (by decide +kernel) (fun r9 μ9 hq => ?_)
  obtain ⟨hμ9, rfl⟩ := hq
  rw [hμ9]
  clear hμ9 μ9
  show Z 0 4 [(0, .ref 0), (1, .int (nI k))] [.int (nB mm)] μ
  refine zq_if hc hH (by rfl) (tg := 25) (by rfl) (fun h1 => ?_) (fun h1 => ?_)
  · have h1 : (mm) = false := nB_z.mp (cm_eq9.mp h1)
    refine z_rcs hc hH 1 (pc' := 26) (lv' := [(0, .ref 0), (1, .int (nI k))]) (st' := [.int 0]) (μ' := μ) (by rfl) ?_
    exact hr 0 26 _ _ _ (some (.int 0)) (by decide +kernel) (by rfl) (⟨(by first | rfl | simp only [h1, cond_true, cond_false]), (by simp only [h1, cond_true, cond_false])⟩)
  · have h1 : (mm) = true := nB_n.mp (cn_eq.mp h1)
    refine z_rcs hc hH 2 (pc' := 9) (lv' := [(0, .ref 0), (1, .int (nI k))]) (st' := [.ref 0, .ref 0]) (μ' := μ) (by rfl) ?_
    refine zq_gfi hc hH (by rfl) (ci := 5) (f := 8) (by rfl) (by decide +kernel) (by rfl) ?_
    rw [ht]
    refine zq_call hc (by rfl) (gc_at4 d' (by omega) μ t ht4) (by decide +kernel) (fun r9 μ9 hq => ?_)
    obtain ⟨hμ9, rfl⟩ := hq
    rw [hμ9]
    clear hμ9 μ9
    show Z 0 15 [(0, .ref 0), (1, .int (nI k))] [.ref (18 + 8 * t)] μ
    refine zq_gfr hc hH (by rfl) (ci := 1) (f := 0) (q := 19 + 8 * t) (by rfl) (sj (P := fun i => okf 79 1 0 (18 + 8 * i)) ht4 (by decide +kernel)) (by rfl) (sj (P := fun i => Nat.beq (z_gr (18 + 8 * i) 0) (19 + 8 * i)) ht4 (by decide +kernel)) ?_
    refine z_rcs hc hH 1 (pc' := 19) (lv' := [(0, .ref 0), (1, .int (nI k))]) (st' := [.int (nI k), .ref (19 + 8 * t)]) (μ' := μ) (by rfl) ?_
    refine zq_call hc (z_clv (by rfl) (by rfl) (by rfl) (by rfl) (by rfl) (by rfl) (sj (P := fun i => okr 79 2 (19 + 8 * i)) ht4 (by decide +kernel)) (by rfl) (by rfl)) (hat d' (by omega)) (by decide +kernel) (fun r9 μ9 hq => ?_)
    obtain ⟨rfl, hm9⟩ := hq
    rw [hm9]
    clear hm9 μ9
    show Z 0 22 [(0, .ref 0), (1, .int (nI k))] [.int (nB at3)] A3
    refine zq_if hc hH (by rfl) (tg := 27) (by rfl) (fun h2 => ?_) (fun h2 => ?_)
    · have h2 : (at3) = true := nB_n.mp (cm_ne.mp h2)
      refine z_rcs hc hH 2 (pc' := 29) (lv' := [(0, .ref 0), (1, .int (nI k))]) (st' := [.int (nI k), .ref 0]) (μ' := A3) (by rfl) ?_
      refine zq_pfi hc hH (by rfl) (ci := 5) (f := 15) (by rfl) (by decide +kernel) (by rfl) ?_
      show Z 0 32 [(0, .ref 0), (1, .int (nI k))] [] (z_ui A3 0 15 (nI k))
      refine z_rcs hc hH 2 (pc' := 34) (lv' := [(0, .ref 0), (1, .int (nI k))]) (st' := [.int 3, .ref 0]) (μ' := z_ui A3 0 15 (nI k)) (by rfl) ?_
      refine zq_pfi hc hH (by rfl) (ci := 5) (f := 7) (by rfl) (by decide +kernel) (by rfl) ?_
      show Z 0 37 [(0, .ref 0), (1, .int (nI k))] [] (z_ui (z_ui A3 0 15 (nI k)) 0 7 3)
      refine z_rcs hc hH 1 (pc' := 38) (lv' := [(0, .ref 0), (1, .int (nI k))]) (st' := [.int 1]) (μ' := z_ui (z_ui A3 0 15 (nI k)) 0 7 3) (by rfl) ?_
      exact hr 0 38 _ _ _ (some (.int 1)) (by decide +kernel) (by rfl) (⟨(by first | rfl | simp only [h1, h2, cond_true, cond_false]), (by simp only [h1, h2, cond_true, cond_false])⟩)
    · have h2 : (at3) = false := nB_z.mp (cn_ne.mp h2)
      refine z_rcs hc hH 1 (pc' := 26) (lv' := [(0, .ref 0), (1, .int (nI k))]) (st' := [.int 0]) (μ' := A3) (by rfl) ?_
      exact hr 0 26 _ _ _ (some (.int 0)) (by decide +kernel) (by rfl) (⟨(by first | rfl | simp only [h1, h2, cond_true, cond_false]), (by simp only [h1, h2, cond_true, cond_false])⟩)
def sHm (μe : zM) (j : Nat) : zM := z_ui (z_ui (z_ui (z_ui (z_ui (z_uj (z_ui μe (18 + 8 * j) 2 0) (18 + 8 * j) 3 0) (18 + 8 * j) 5 0) (18 + 8 * j) 6 0) (18 + 8 * j) 7 0) (18 + 8 * j) 8 0) (18 + 8 * j) 9 0
def eMt (μ : zM) (j : Nat) (μe : zM) : Prop := ((∀ k, k < 34 → μe.1 (20 + 8 * j) k = 0 ∧ μe.1 (21 + 8 * j) k = 0) ∧ μe.1 (19 + 8 * j) 4 = 0 ∧ μe.1 (19 + 8 * j) 5 = 0 ∧ (∀ r k, r ≠ 20 + 8 * j → r ≠ 21 + 8 * j → ¬ (r = 19 + 8 * j ∧ (k = 4 ∨ k = 5)) → μe.1 r k = μ.1 r k) ∧ μe.2.1 = μ.2.1)
theorem gc_startHand (d : Nat) (hd : 2 ≤ d) (μ : zM) (j : Nat) (hj : j < 4) : z_C d mi_X2_startHand [.ref (18 + 8 * j)] μ (fun r μ' => r = none ∧ ∃ μe, eMt μ j μe ∧ μ' = sHm μe j) := by
  refine z_C_in (by decide) (by omega) (fun d' Z ed hc hr => ?_)
  have hH : zH mi_X2_startHand zc_X2_startHand 79 2 1 := ⟨by rfl, by rfl, by rfl, by rfl⟩
  refine z_rcs hc hH 1 (pc' := 1) (lv' := [(0, .ref (18 + 8 * j))]) (st' := [.ref (18 + 8 * j)]) (μ' := μ) (by rfl) ?_
  refine zq_gfr hc hH (by rfl) (ci := 1) (f := 0) (q := 19 + 8 * j) (by rfl) (sj (P := fun i => okf 79 1 0 (18 + 8 * i)) hj (by decide +kernel)) (by rfl) (sj (P := fun i => Nat.beq (z_gr (18 + 8 * i) 0) (19 + 8 * i)) hj (by decide +kernel)) ?_
  refine zq_call hc (z_clv (by rfl) (by rfl) (by rfl) (by rfl) (by rfl) (by rfl) (sj (P := fun i => okr 79 2 (19 + 8 * i)) hj (by decide +kernel)) (by rfl) (by rfl)) (gc_empty d' (by omega) μ j hj) (by decide +kernel) (fun r9 μe hq => ?_)
  obtain ⟨rfl, hE⟩ := hq
  show Z 0 7 [(0, .ref (18 + 8 * j))] [] μe
  refine z_rcs hc hH 2 (pc' := 9) (lv' := [(0, .ref (18 + 8 * j))]) (st' := [.int 0, .ref (18 + 8 * j)]) (μ' := μe) (by rfl) ?_
  refine zq_pfi hc hH (by rfl) (ci := 1) (f := 2) (by rfl) (sj (P := fun i => okf 79 1 2 (18 + 8 * i)) hj (by decide +kernel)) (by rfl) ?_
  show Z 0 12 [(0, .ref (18 + 8 * j))] [] (z_ui μe (18 + 8 * j) 2 0)
  refine z_rcs hc hH 2 (pc' := 14) (lv' := [(0, .ref (18 + 8 * j))]) (st' := [.long 0, .ref (18 + 8 * j)]) (μ' := z_ui μe (18 + 8 * j) 2 0) (by rfl) ?_
  refine zq_pfl hc hH (by rfl) (ci := 1) (f := 3) (by rfl) (sj (P := fun i => okf 79 1 3 (18 + 8 * i)) hj (by decide +kernel)) (by rfl) ?_
  show Z 0 17 [(0, .ref (18 + 8 * j))] [] (z_uj (z_ui μe (18 + 8 * j) 2 0) (18 + 8 * j) 3 0)
  refine z_rcs hc hH 2 (pc' := 19) (lv' := [(0, .ref (18 + 8 * j))]) (st' := [.int 0, .ref (18 + 8 * j)]) (μ' := z_uj (z_ui μe (18 + 8 * j) 2 0) (18 + 8 * j) 3 0) (by rfl) ?_
  refine zq_pfi hc hH (by rfl) (ci := 1) (f := 5) (by rfl) (sj (P := fun i => okf 79 1 5 (18 + 8 * i)) hj (by decide +kernel)) (by rfl) ?_
  show Z 0 22 [(0, .ref (18 + 8 * j))] [] (z_ui (z_uj (z_ui μe (18 + 8 * j) 2 0) (18 + 8 * j) 3 0) (18 + 8 * j) 5 0)
  refine z_rcs hc hH 2 (pc' := 24) (lv' := [(0, .ref (18 + 8 * j))]) (st' := [.int 0, .ref (18 + 8 * j)]) (μ' := z_ui (z_uj (z_ui μe (18 + 8 * j) 2 0) (18 + 8 * j) 3 0) (18 + 8 * j) 5 0) (by rfl) ?_
  refine zq_pfb hc hH (by rfl) (ci := 1) (f := 6) (by rfl) (sj (P := fun i => okf 79 1 6 (18 + 8 * i)) hj (by decide +kernel)) (by rfl) (by decide) ?_
  show Z 0 27 [(0, .ref (18 + 8 * j))] [] (z_ui (z_ui (z_uj (z_ui μe (18 + 8 * j) 2 0) (18 + 8 * j) 3 0) (18 + 8 * j) 5 0) (18 + 8 * j) 6 0)
  refine z_rcs hc hH 2 (pc' := 29) (lv' := [(0, .ref (18 + 8 * j))]) (st' := [.int 0, .ref (18 + 8 * j)]) (μ' := z_ui (z_ui (z_uj (z_ui μe (18 + 8 * j) 2 0) (18 + 8 * j) 3 0) (18 + 8 * j) 5 0) (18 + 8 * j) 6 0) (by rfl) ?_
  refine zq_pfb hc hH (by rfl) (ci := 1) (f := 7) (by rfl) (sj (P := fun i => okf 79 1 7 (18 + 8 * i)) hj (by decide +kernel)) (by rfl) (by decide) ?_
  show Z 0 32 [(0, .ref (18 + 8 * j))] [] (z_ui (z_ui (z_ui (z_uj (z_ui μe (18 + 8 * j) 2 0) (18 + 8 * j) 3 0) (18 + 8 * j) 5 0) (18 + 8 * j) 6 0) (18 + 8 * j) 7 0)
  refine z_rcs hc hH 2 (pc' := 34) (lv' := [(0, .ref (18 + 8 * j))]) (st' := [.int 0, .ref (18 + 8 * j)]) (μ' := z_ui (z_ui (z_ui (z_uj (z_ui μe (18 + 8 * j) 2 0) (18 + 8 * j) 3 0) (18 + 8 * j) 5 0) (18 + 8 * j) 6 0) (18 + 8 * j) 7 0) (by rfl) ?_
  refine zq_pfb hc hH (by rfl) (ci := 1) (f := 8) (by rfl) (sj (P := fun i => okf 79 1 8 (18 + 8 * i)) hj (by decide +kernel)) (by rfl) (by decide) ?_
  show Z 0 37 [(0, .ref (18 + 8 * j))] [] (z_ui (z_ui (z_ui (z_ui (z_uj (z_ui μe (18 + 8 * j) 2 0) (18 + 8 * j) 3 0) (18 + 8 * j) 5 0) (18 + 8 * j) 6 0) (18 + 8 * j) 7 0) (18 + 8 * j) 8 0)
  refine z_rcs hc hH 2 (pc' := 39) (lv' := [(0, .ref (18 + 8 * j))]) (st' := [.int 0, .ref (18 + 8 * j)]) (μ' := z_ui (z_ui (z_ui (z_ui (z_uj (z_ui μe (18 + 8 * j) 2 0) (18 + 8 * j) 3 0) (18 + 8 * j) 5 0) (18 + 8 * j) 6 0) (18 + 8 * j) 7 0) (18 + 8 * j) 8 0) (by rfl) ?_
  refine zq_pfb hc hH (by rfl) (ci := 1) (f := 9) (by rfl) (sj (P := fun i => okf 79 1 9 (18 + 8 * i)) hj (by decide +kernel)) (by rfl) (by decide) ?_
  show Z 0 42 [(0, .ref (18 + 8 * j))] [] (z_ui (z_ui (z_ui (z_ui (z_ui (z_uj (z_ui μe (18 + 8 * j) 2 0) (18 + 8 * j) 3 0) (18 + 8 * j) 5 0) (18 + 8 * j) 6 0) (18 + 8 * j) 7 0) (18 + 8 * j) 8 0) (18 + 8 * j) 9 0)
  exact hr 0 42 _ _ _ none (by decide +kernel) (by rfl) (⟨rfl, μe, hE, rfl⟩)

/-! the class: OPEN, nine gates; FORMS of all ways -/
set_option maxRecDepth 8000
def xOr (f : Nat → Int32) : Nat → Bool
  | 0 => false
  | i + 1 => xOr f i || !decide (f i = 3)
theorem xOr_iff (f : Nat → Int32) : ∀ q, xOr f q = true ↔ ∃ j, j < q ∧ ¬ f j = 3 := by
  intro q
  induction q with
  | zero => exact ⟨fun h => absurd h Bool.false_ne_true, fun ⟨j, hj, _⟩ => absurd hj (by omega)⟩
  | succ q ih =>
    show (xOr f q || !decide (f q = 3)) = true ↔ _
    rw [Bool.or_eq_true, ih, Bool.not_eq_true', decide_eq_false_iff_not]
    constructor
    · rintro (⟨j, h1, h2⟩ | h)
      · exact ⟨j, by omega, h2⟩
      · exact ⟨q, by omega, h⟩
    · rintro ⟨j, h1, h2⟩
      by_cases e : j = q
      · exact Or.inr (e ▸ h2)
      · exact Or.inl ⟨j, by omega, h2⟩
theorem zh_X3_isOpen : zH mi_X3_isOpen zc_X3_isOpen 79 3 2 := ⟨by rfl, by rfl, by rfl, by rfl⟩
theorem fx_X3_isOpen (d : Nat) (hd : 1 ≤ d) (μ : zM) (q : Nat) (hq : q ≤ 4) (e4 : μ.1 9 4 = nI q) : z_C d mi_X3_isOpen [.ref 9] μ (zR μ (.int (nB (xOr (μ.1 12) q)))) := by
  refine z_C_in (by decide) (by omega) (fun d' Z ed hc hr => ?_)
  have hH := zh_X3_isOpen
  have lp : ∀ (n i : Nat), i + n = q → (∀ j, j < i → μ.1 12 j = 3) → Z 0 2 [(1, .int (nI i)), (0, .ref 9)] [] μ := by
    intro n
    induction n with
    | zero =>
      intro i hi ha
      have hi : q = i := by omega
      subst hi
      have eo : xOr (μ.1 12) q = false := by rw [← Bool.not_eq_true]; exact fun z => ((xOr_iff _ q).mp z).elim (fun j hj => hj.2 (ha j hj.1))
      refine z_rcs hc hH 3 (pc' := 7) (lv' := [(1, .int (nI q)), (0, .ref 9)]) (st' := [.int (μ.1 9 4), .int (nI q)]) (μ' := μ) (by rfl) ?_
      rw [e4]
      show Z 0 7 [(1, .int (nI q)), (0, .ref 9)] [.int (nI q), .int (nI q)] μ
      refine zq_ic hc hH (by rfl) (tg := 33) (by rfl) (fun _ => ?_) (fun h9 => (zb_t (ge_nIt (n := q) (i := q) (by omega) (by omega)) h9).elim)
      refine z_rcs hc hH 1 (pc' := 34) (lv' := [(1, .int (nI q)), (0, .ref 9)]) (st' := [.int 0]) (μ' := μ) (by rfl) ?_
      exact hr 0 34 _ _ _ (some (.int 0)) (by decide +kernel) (by rfl) (⟨rfl, by rw [eo]; rfl⟩)
    | succ n ih =>
      intro i hi ha
      have hin : vp_in (nI i) 4 := vp_in_nI (by omega) (by decide)
      have ei : (nI i).toNatClampNeg = i := nI_clamp (by omega)
      refine z_rcs hc hH 3 (pc' := 7) (lv' := [(1, .int (nI i)), (0, .ref 9)]) (st' := [.int (μ.1 9 4), .int (nI i)]) (μ' := μ) (by rfl) ?_
      rw [e4]
      show Z 0 7 [(1, .int (nI i)), (0, .ref 9)] [.int (nI q), .int (nI i)] μ
      refine zq_ic hc hH (by rfl) (tg := 33) (by rfl) (fun h9 => (zb_t h9 (ge_nI (n := q) (i := i) (by omega) (by omega))).elim) (fun _ => ?_)
      refine z_rcs hc hH 2 (pc' := 12) (lv' := [(1, .int (nI i)), (0, .ref 9)]) (st' := [.int 4, .int (nI i)]) (μ' := μ) (by rfl) ?_
      refine zq_ic hc hH (by rfl) (tg := 33) (by rfl) (fun h9 => (zb_t h9 (ge_nI (n := 4) (i := i) (by omega) (by decide))).elim) (fun _ => ?_)
      refine z_rcs hc hH 3 (pc' := 20) (lv' := [(1, .int (nI i)), (0, .ref 9)]) (st' := [.int (nI i), .ref 12]) (μ' := μ) (by rfl) ?_
      refine zq_iald hc hH (by rfl) 4 (by decide +kernel) (hin) ?_
      rw [ei]
      show Z 0 21 [(1, .int (nI i)), (0, .ref 9)] [.int (μ.1 12 i)] μ
      refine z_rcs hc hH 1 (pc' := 22) (lv' := [(1, .int (nI i)), (0, .ref 9)]) (st' := [.int 3, .int (μ.1 12 i)]) (μ' := μ) (by rfl) ?_
      refine zq_ic hc hH (by rfl) (tg := 27) (by rfl) (fun h1 => ?_) (fun h1 => ?_)
      · have h1 := cm_eq9.mp h1
        refine z_rcs hc hH 2 (pc' := 2) (lv' := [(1, .int ((nI i) + 1)), (0, .ref 9)]) (st' := []) (μ' := μ) (by rfl) ?_
        rw [nI_1]
        exact ih (i + 1) (by omega) (fun j hj => if e : j = i then e ▸ h1 else ha j (by omega))
      · have h1 := cn_eq.mp h1
        refine z_rcs hc hH 1 (pc' := 26) (lv' := [(1, .int (nI i)), (0, .ref 9)]) (st' := [.int 1]) (μ' := μ) (by rfl) ?_
        exact hr 0 26 _ _ _ (some (.int 1)) (by decide +kernel) (by rfl) (⟨rfl, by rw [show xOr (μ.1 12) q = true from (xOr_iff _ q).mpr ⟨i, by omega, h1⟩]; rfl⟩)
  refine z_rcs hc hH 2 (pc' := 2) (lv' := [(1, .int 0), (0, .ref 9)]) (st' := []) (μ' := μ) (by rfl) ?_
  exact lp q 0 (by omega) (fun j hj => absurd hj (by omega))
theorem fx_X3_free (d : Nat) (hd : 2 ≤ d) (μ : zM) (k : Nat) (hk : k < 34) : z_C d mi_X3_free [.ref 9, .int (nI k)] μ (zR μ (.int (μ.1 10 k))) :=
  z_C_mono (fc_X3_free d hd μ (nI k)) (fun r μ' h => ⟨h.1, by rcases h.2 with ⟨_, e⟩ | ⟨z, _⟩; rw [e, nI_clamp (by omega)]; exact absurd (vp_in_nI hk (by decide)) z⟩)
def xNG (μ : zM) (ks : Int64) : Bool := (decide ((μ.1 9 4) ≤ 0)) && (bif decide ((lg_cmp ks (511 <<< ((0 : Int32).toInt64 &&& 63))) = 0) then !(decide ((μ.1 10 0) < 3)) && (!(decide ((μ.1 10 8) < 3))) else bif decide ((lg_cmp ks (511 <<< ((9 : Int32).toInt64 &&& 63))) = 0) then !(decide ((μ.1 10 9) < 3)) && (!(decide ((μ.1 10 17) < 3))) else (decide ((lg_cmp ks (511 <<< ((18 : Int32).toInt64 &&& 63))) = 0)) && (!(decide ((μ.1 10 18) < 3)) && (!(decide ((μ.1 10 26) < 3)))))
theorem fb_X1_isNineGates (d : Nat) (hd : 3 ≤ d) (μ : zM) (ks : Int64) (ht : μ.2.2 14 = 9) : z_C d mi_X1_isNineGates [.ref 14, .long ks] μ (zR μ (.int (nB ((decide ((μ.1 9 4) ≤ 0)) && (bif decide ((lg_cmp ks (511 <<< ((0 : Int32).toInt64 &&& 63))) = 0) then !(decide ((μ.1 10 0) < 3)) && (!(decide ((μ.1 10 8) < 3))) else bif decide ((lg_cmp ks (511 <<< ((9 : Int32).toInt64 &&& 63))) = 0) then !(decide ((μ.1 10 9) < 3)) && (!(decide ((μ.1 10 17) < 3))) else (decide ((lg_cmp ks (511 <<< ((18 : Int32).toInt64 &&& 63))) = 0)) && (!(decide ((μ.1 10 18) < 3)) && (!(decide ((μ.1 10 26) < 3))))))))) := by
  refine z_C_in (by decide) (by omega) (fun d' Z ed hc hr => ?_)
  have hH : zH mi_X1_isNineGates zc_X1_isNineGates 79 1 4 := ⟨by rfl, by rfl, by rfl, by rfl⟩
  refine z_rcs hc hH 1 (pc' := 1) (lv' := [(0, .ref 14), (1, .long ks)]) (st' := [.ref 14]) (μ' := μ) (by rfl) ?_
  refine zq_tget hc hH (by rfl) (ci := 0) (f := 5) (t := 9) (by decide +kernel) ht (by decide) ?_
  refine z_rcs hc hH 1 (pc' := 7) (lv' := [(0, .ref 14), (1, .long ks)]) (st' := [.int (μ.1 9 4)]) (μ' := μ) (by rfl) ?_
  refine zq_if hc hH (by rfl) (tg := 12) (by rfl) (fun h1 => ?_) (fun h1 => ?_)
  · have h1 : (decide ((μ.1 9 4) ≤ 0)) = true := decide_eq_true (cm_le.mp h1)
    refine z_rcs hc hH 10 (pc' := 27) (lv' := [(3, .int 0), (0, .ref 14), (1, .long ks)]) (st' := [.int (lg_cmp ks (511 <<< ((0 : Int32).toInt64 &&& 63)))]) (μ' := μ) (by rfl) ?_
    refine zq_if hc hH (by rfl) (tg := 63) (by rfl) (fun h2 => ?_) (fun h2 => ?_)
    · have h2 : (decide ((lg_cmp ks (511 <<< ((0 : Int32).toInt64 &&& 63))) = 0)) = false := decide_eq_false (cm_ne.mp h2)
      refine z_rcs hc hH 10 (pc' := 27) (lv' := [(3, .int 9), (0, .ref 14), (1, .long ks)]) (st' := [.int (lg_cmp ks (511 <<< ((9 : Int32).toInt64 &&& 63)))]) (μ' := μ) (by rfl) ?_
      refine zq_if hc hH (by rfl) (tg := 63) (by rfl) (fun h3 => ?_) (fun h3 => ?_)
      · have h3 : (decide ((lg_cmp ks (511 <<< ((9 : Int32).toInt64 &&& 63))) = 0)) = false := decide_eq_false (cm_ne.mp h3)
        refine z_rcs hc hH 10 (pc' := 27) (lv' := [(3, .int 18), (0, .ref 14), (1, .long ks)]) (st' := [.int (lg_cmp ks (511 <<< ((18 : Int32).toInt64 &&& 63)))]) (μ' := μ) (by rfl) ?_
        refine zq_if hc hH (by rfl) (tg := 63) (by rfl) (fun h4 => ?_) (fun h4 => ?_)
        · have h4 : (decide ((lg_cmp ks (511 <<< ((18 : Int32).toInt64 &&& 63))) = 0)) = false := decide_eq_false (cm_ne.mp h4)
          refine z_rcs hc hH 6 (pc' := 70) (lv' := [(3, .int 27), (0, .ref 14), (1, .long ks)]) (st' := [.int 0]) (μ' := μ) (by rfl) ?_
          exact hr 0 70 _ _ _ (some (.int 0)) (by decide +kernel) (by rfl) (⟨rfl, (by simp only [h1, h2, h3, h4, lb_f, Int64.or_zero, Int32.add_zero, nB_t, nB_f, Bool.not_true, Bool.not_false, Bool.and_true, Bool.true_and, Bool.false_and, Bool.and_false, Bool.or_true, Bool.true_or, Bool.false_or, Bool.or_false, cond_true, cond_false])⟩)
        · have h4 : (decide ((lg_cmp ks (511 <<< ((18 : Int32).toInt64 &&& 63))) = 0)) = true := decide_eq_true (cn_ne.mp h4)
          refine z_rcs hc hH 1 (pc' := 31) (lv' := [(3, .int 18), (0, .ref 14), (1, .long ks)]) (st' := [.ref 14]) (μ' := μ) (by rfl) ?_
          refine zq_tget hc hH (by rfl) (ci := 0) (f := 5) (t := 9) (by decide +kernel) ht (by decide) ?_
          refine z_rcs hc hH 1 (pc' := 35) (lv' := [(3, .int 18), (0, .ref 14), (1, .long ks)]) (st' := [.int 18, .ref 9]) (μ' := μ) (by rfl) ?_
          refine zq_call hc (by rfl) (fx_X3_free d' (by omega) μ 18 (by decide)) (by decide +kernel) (fun r9 μ9 hq => ?_)
          obtain ⟨hμ9, rfl⟩ := hq
          rw [hμ9]
          clear hμ9 μ9
          show Z 0 38 [(3, .int 18), (0, .ref 14), (1, .long ks)] [.int (μ.1 10 18)] μ
          refine z_rcs hc hH 1 (pc' := 39) (lv' := [(3, .int 18), (0, .ref 14), (1, .long ks)]) (st' := [.int 3, .int (μ.1 10 18)]) (μ' := μ) (by rfl) ?_
          have hJ5 : Z 0 62 [(3, .int 18), (0, .ref 14), (1, .long ks)] [.int (nB (!(decide ((μ.1 10 18) < 3)) && (!(decide ((μ.1 10 26) < 3)))))] μ := by
            exact hr 0 62 _ _ _ (some (.int (nB (!(decide ((μ.1 10 18) < 3)) && (!(decide ((μ.1 10 26) < 3))))))) (by decide +kernel) ((fun b : Bool => (by cases b <;> rfl : z_rn mi_X1_isNineGates 62 [.int (nB b)] = some (some (.int (nB b))))) (!(decide ((μ.1 10 18) < 3)) && (!(decide ((μ.1 10 26) < 3))))) (⟨rfl, (by simp only [h1, h2, h3, h4, lb_f, Int64.or_zero, Int32.add_zero, nB_t, nB_f, Bool.not_true, Bool.not_false, Bool.and_true, Bool.true_and, Bool.false_and, Bool.and_false, Bool.or_true, Bool.true_or, Bool.false_or, Bool.or_false, cond_true, cond_false])⟩)
          refine zq_ic hc hH (by rfl) (tg := 61) (by rfl) (fun h6 => ?_) (fun h6 => ?_)
          · have h6 : (decide ((μ.1 10 18) < 3)) = true := decide_eq_true (cm_lt.mp h6)
            refine z_rcs hc hH 1 (pc' := 62) (lv' := [(3, .int 18), (0, .ref 14), (1, .long ks)]) (st' := [.int 0]) (μ' := μ) (by rfl) ?_
            exact zJ hJ5 rfl (by first | rfl | simp only [h6, lb_f, Int64.or_zero, Int32.add_zero, nB_t, nB_f, Bool.not_true, Bool.not_false, Bool.and_true, Bool.true_and, Bool.false_and, Bool.and_false, Bool.or_true, Bool.true_or, Bool.false_or, Bool.or_false, cond_true, cond_false]) rfl
          · have h6 : (decide ((μ.1 10 18) < 3)) = false := decide_eq_false (cn_lt.mp h6)
            refine z_rcs hc hH 1 (pc' := 43) (lv' := [(3, .int 18), (0, .ref 14), (1, .long ks)]) (st' := [.ref 14]) (μ' := μ) (by rfl) ?_
            refine zq_tget hc hH (by rfl) (ci := 0) (f := 5) (t := 9) (by decide +kernel) ht (by decide) ?_
            refine z_rcs hc hH 3 (pc' := 50) (lv' := [(3, .int 18), (0, .ref 14), (1, .long ks)]) (st' := [.int 26, .ref 9]) (μ' := μ) (by rfl) ?_
            refine zq_call hc (by rfl) (fx_X3_free d' (by omega) μ 26 (by decide)) (by decide +kernel) (fun r9 μ9 hq => ?_)
            obtain ⟨hμ9, rfl⟩ := hq
            rw [hμ9]
            clear hμ9 μ9
            show Z 0 53 [(3, .int 18), (0, .ref 14), (1, .long ks)] [.int (μ.1 10 26)] μ
            refine z_rcs hc hH 1 (pc' := 54) (lv' := [(3, .int 18), (0, .ref 14), (1, .long ks)]) (st' := [.int 3, .int (μ.1 10 26)]) (μ' := μ) (by rfl) ?_
            refine zq_ic hc hH (by rfl) (tg := 61) (by rfl) (fun h7 => ?_) (fun h7 => ?_)
            · have h7 : (decide ((μ.1 10 26) < 3)) = true := decide_eq_true (cm_lt.mp h7)
              refine z_rcs hc hH 1 (pc' := 62) (lv' := [(3, .int 18), (0, .ref 14), (1, .long ks)]) (st' := [.int 0]) (μ' := μ) (by rfl) ?_
              exact zJ hJ5 rfl (by first | rfl | simp only [h6, h7, lb_f, Int64.or_zero, Int32.add_zero, nB_t, nB_f, Bool.not_true, Bool.not_false, Bool.and_true, Bool.true_and, Bool.false_and, Bool.and_false, Bool.or_true, Bool.true_or, Bool.false_or, Bool.or_false, cond_true, cond_false]) rfl
            · have h7 : (decide ((μ.1 10 26) < 3)) = false := decide_eq_false (cn_lt.mp h7)
              refine z_rcs hc hH 2 (pc' := 62) (lv' := [(3, .int 18), (0, .ref 14), (1, .long ks)]) (st' := [.int 1]) (μ' := μ) (by rfl) ?_
              exact zJ hJ5 rfl (by first | rfl | simp only [h6, h7, lb_f, Int64.or_zero, Int32.add_zero, nB_t, nB_f, Bool.not_true, Bool.not_false, Bool.and_true, Bool.true_and, Bool.false_and, Bool.and_false, Bool.or_true, Bool.true_or, Bool.false_or, Bool.or_false, cond_true, cond_false]) rfl
      · have h3 : (decide ((lg_cmp ks (511 <<< ((9 : Int32).toInt64 &&& 63))) = 0)) = true := decide_eq_true (cn_ne.mp h3)
        refine z_rcs hc hH 1 (pc' := 31) (lv' := [(3, .int 9), (0, .ref 14), (1, .long ks)]) (st' := [.ref 14]) (μ' := μ) (by rfl) ?_
        refine zq_tget hc hH (by rfl) (ci := 0) (f := 5) (t := 9) (by decide +kernel) ht (by decide) ?_
        refine z_rcs hc hH 1 (pc' := 35) (lv' := [(3, .int 9), (0, .ref 14), (1, .long ks)]) (st' := [.int 9, .ref 9]) (μ' := μ) (by rfl) ?_
        refine zq_call hc (by rfl) (fx_X3_free d' (by omega) μ 9 (by decide)) (by decide +kernel) (fun r9 μ9 hq => ?_)
        obtain ⟨hμ9, rfl⟩ := hq
        rw [hμ9]
        clear hμ9 μ9
        show Z 0 38 [(3, .int 9), (0, .ref 14), (1, .long ks)] [.int (μ.1 10 9)] μ
        refine z_rcs hc hH 1 (pc' := 39) (lv' := [(3, .int 9), (0, .ref 14), (1, .long ks)]) (st' := [.int 3, .int (μ.1 10 9)]) (μ' := μ) (by rfl) ?_
        have hJ8 : Z 0 62 [(3, .int 9), (0, .ref 14), (1, .long ks)] [.int (nB (!(decide ((μ.1 10 9) < 3)) && (!(decide ((μ.1 10 17) < 3)))))] μ := by
          exact hr 0 62 _ _ _ (some (.int (nB (!(decide ((μ.1 10 9) < 3)) && (!(decide ((μ.1 10 17) < 3))))))) (by decide +kernel) ((fun b : Bool => (by cases b <;> rfl : z_rn mi_X1_isNineGates 62 [.int (nB b)] = some (some (.int (nB b))))) (!(decide ((μ.1 10 9) < 3)) && (!(decide ((μ.1 10 17) < 3))))) (⟨rfl, (by simp only [h1, h2, h3, lb_f, Int64.or_zero, Int32.add_zero, nB_t, nB_f, Bool.not_true, Bool.not_false, Bool.and_true, Bool.true_and, Bool.false_and, Bool.and_false, Bool.or_true, Bool.true_or, Bool.false_or, Bool.or_false, cond_true, cond_false])⟩)
        refine zq_ic hc hH (by rfl) (tg := 61) (by rfl) (fun h9 => ?_) (fun h9 => ?_)
        · have h9 : (decide ((μ.1 10 9) < 3)) = true := decide_eq_true (cm_lt.mp h9)
          refine z_rcs hc hH 1 (pc' := 62) (lv' := [(3, .int 9), (0, .ref 14), (1, .long ks)]) (st' := [.int 0]) (μ' := μ) (by rfl) ?_
          exact zJ hJ8 rfl (by first | rfl | simp only [h9, lb_f, Int64.or_zero, Int32.add_zero, nB_t, nB_f, Bool.not_true, Bool.not_false, Bool.and_true, Bool.true_and, Bool.false_and, Bool.and_false, Bool.or_true, Bool.true_or, Bool.false_or, Bool.or_false, cond_true, cond_false]) rfl
        · have h9 : (decide ((μ.1 10 9) < 3)) = false := decide_eq_false (cn_lt.mp h9)
          refine z_rcs hc hH 1 (pc' := 43) (lv' := [(3, .int 9), (0, .ref 14), (1, .long ks)]) (st' := [.ref 14]) (μ' := μ) (by rfl) ?_
          refine zq_tget hc hH (by rfl) (ci := 0) (f := 5) (t := 9) (by decide +kernel) ht (by decide) ?_
          refine z_rcs hc hH 3 (pc' := 50) (lv' := [(3, .int 9), (0, .ref 14), (1, .long ks)]) (st' := [.int 17, .ref 9]) (μ' := μ) (by rfl) ?_
          refine zq_call hc (by rfl) (fx_X3_free d' (by omega) μ 17 (by decide)) (by decide +kernel) (fun r9 μ9 hq => ?_)
          obtain ⟨hμ9, rfl⟩ := hq
          rw [hμ9]
          clear hμ9 μ9
          show Z 0 53 [(3, .int 9), (0, .ref 14), (1, .long ks)] [.int (μ.1 10 17)] μ
          refine z_rcs hc hH 1 (pc' := 54) (lv' := [(3, .int 9), (0, .ref 14), (1, .long ks)]) (st' := [.int 3, .int (μ.1 10 17)]) (μ' := μ) (by rfl) ?_
          refine zq_ic hc hH (by rfl) (tg := 61) (by rfl) (fun h10 => ?_) (fun h10 => ?_)
          · have h10 : (decide ((μ.1 10 17) < 3)) = true := decide_eq_true (cm_lt.mp h10)
            refine z_rcs hc hH 1 (pc' := 62) (lv' := [(3, .int 9), (0, .ref 14), (1, .long ks)]) (st' := [.int 0]) (μ' := μ) (by rfl) ?_
            exact zJ hJ8 rfl (by first | rfl | simp only [h9, h10, lb_f, Int64.or_zero, Int32.add_zero, nB_t, nB_f, Bool.not_true, Bool.not_false, Bool.and_true, Bool.true_and, Bool.false_and, Bool.and_false, Bool.or_true, Bool.true_or, Bool.false_or, Bool.or_false, cond_true, cond_false]) rfl
          · have h10 : (decide ((μ.1 10 17) < 3)) = false := decide_eq_false (cn_lt.mp h10)
            refine z_rcs hc hH 2 (pc' := 62) (lv' := [(3, .int 9), (0, .ref 14), (1, .long ks)]) (st' := [.int 1]) (μ' := μ) (by rfl) ?_
            exact zJ hJ8 rfl (by first | rfl | simp only [h9, h10, lb_f, Int64.or_zero, Int32.add_zero, nB_t, nB_f, Bool.not_true, Bool.not_false, Bool.and_true, Bool.true_and, Bool.false_and, Bool.and_false, Bool.or_true, Bool.true_or, Bool.false_or, Bool.or_false, cond_true, cond_false]) rfl
    · have h2 : (decide ((lg_cmp ks (511 <<< ((0 : Int32).toInt64 &&& 63))) = 0)) = true := decide_eq_true (cn_ne.mp h2)
      refine z_rcs hc hH 1 (pc' := 31) (lv' := [(3, .int 0), (0, .ref 14), (1, .long ks)]) (st' := [.ref 14]) (μ' := μ) (by rfl) ?_
      refine zq_tget hc hH (by rfl) (ci := 0) (f := 5) (t := 9) (by decide +kernel) ht (by decide) ?_
      refine z_rcs hc hH 1 (pc' := 35) (lv' := [(3, .int 0), (0, .ref 14), (1, .long ks)]) (st' := [.int 0, .ref 9]) (μ' := μ) (by rfl) ?_
      refine zq_call hc (by rfl) (fx_X3_free d' (by omega) μ 0 (by decide)) (by decide +kernel) (fun r9 μ9 hq => ?_)
      obtain ⟨hμ9, rfl⟩ := hq
      rw [hμ9]
      clear hμ9 μ9
      show Z 0 38 [(3, .int 0), (0, .ref 14), (1, .long ks)] [.int (μ.1 10 0)] μ
      refine z_rcs hc hH 1 (pc' := 39) (lv' := [(3, .int 0), (0, .ref 14), (1, .long ks)]) (st' := [.int 3, .int (μ.1 10 0)]) (μ' := μ) (by rfl) ?_
      have hJ11 : Z 0 62 [(3, .int 0), (0, .ref 14), (1, .long ks)] [.int (nB (!(decide ((μ.1 10 0) < 3)) && (!(decide ((μ.1 10 8) < 3)))))] μ := by
        exact hr 0 62 _ _ _ (some (.int (nB (!(decide ((μ.1 10 0) < 3)) && (!(decide ((μ.1 10 8) < 3))))))) (by decide +kernel) ((fun b : Bool => (by cases b <;> rfl : z_rn mi_X1_isNineGates 62 [.int (nB b)] = some (some (.int (nB b))))) (!(decide ((μ.1 10 0) < 3)) && (!(decide ((μ.1 10 8) < 3))))) (⟨rfl, (by simp only [h1, h2, lb_f, Int64.or_zero, Int32.add_zero, nB_t, nB_f, Bool.not_true, Bool.not_false, Bool.and_true, Bool.true_and, Bool.false_and, Bool.and_false, Bool.or_true, Bool.true_or, Bool.false_or, Bool.or_false, cond_true, cond_false])⟩)
      refine zq_ic hc hH (by rfl) (tg := 61) (by rfl) (fun h12 => ?_) (fun h12 => ?_)
      · have h12 : (decide ((μ.1 10 0) < 3)) = true := decide_eq_true (cm_lt.mp h12)
        refine z_rcs hc hH 1 (pc' := 62) (lv' := [(3, .int 0), (0, .ref 14), (1, .long ks)]) (st' := [.int 0]) (μ' := μ) (by rfl) ?_
        exact zJ hJ11 rfl (by first | rfl | simp only [h12, lb_f, Int64.or_zero, Int32.add_zero, nB_t, nB_f, Bool.not_true, Bool.not_false, Bool.and_true, Bool.true_and, Bool.false_and, Bool.and_false, Bool.or_true, Bool.true_or, Bool.false_or, Bool.or_false, cond_true, cond_false]) rfl
      · have h12 : (decide ((μ.1 10 0) < 3)) = false := decide_eq_false (cn_lt.mp h12)
        refine z_rcs hc hH 1 (pc' := 43) (lv' := [(3, .int 0), (0, .ref 14), (1, .long ks)]) (st' := [.ref 14]) (μ' := μ) (by rfl) ?_
        refine zq_tget hc hH (by rfl) (ci := 0) (f := 5) (t := 9) (by decide +kernel) ht (by decide) ?_
        refine z_rcs hc hH 3 (pc' := 50) (lv' := [(3, .int 0), (0, .ref 14), (1, .long ks)]) (st' := [.int 8, .ref 9]) (μ' := μ) (by rfl) ?_
        refine zq_call hc (by rfl) (fx_X3_free d' (by omega) μ 8 (by decide)) (by decide +kernel) (fun r9 μ9 hq => ?_)
        obtain ⟨hμ9, rfl⟩ := hq
        rw [hμ9]
        clear hμ9 μ9
        show Z 0 53 [(3, .int 0), (0, .ref 14), (1, .long ks)] [.int (μ.1 10 8)] μ
        refine z_rcs hc hH 1 (pc' := 54) (lv' := [(3, .int 0), (0, .ref 14), (1, .long ks)]) (st' := [.int 3, .int (μ.1 10 8)]) (μ' := μ) (by rfl) ?_
        refine zq_ic hc hH (by rfl) (tg := 61) (by rfl) (fun h13 => ?_) (fun h13 => ?_)
        · have h13 : (decide ((μ.1 10 8) < 3)) = true := decide_eq_true (cm_lt.mp h13)
          refine z_rcs hc hH 1 (pc' := 62) (lv' := [(3, .int 0), (0, .ref 14), (1, .long ks)]) (st' := [.int 0]) (μ' := μ) (by rfl) ?_
          exact zJ hJ11 rfl (by first | rfl | simp only [h12, h13, lb_f, Int64.or_zero, Int32.add_zero, nB_t, nB_f, Bool.not_true, Bool.not_false, Bool.and_true, Bool.true_and, Bool.false_and, Bool.and_false, Bool.or_true, Bool.true_or, Bool.false_or, Bool.or_false, cond_true, cond_false]) rfl
        · have h13 : (decide ((μ.1 10 8) < 3)) = false := decide_eq_false (cn_lt.mp h13)
          refine z_rcs hc hH 2 (pc' := 62) (lv' := [(3, .int 0), (0, .ref 14), (1, .long ks)]) (st' := [.int 1]) (μ' := μ) (by rfl) ?_
          exact zJ hJ11 rfl (by first | rfl | simp only [h12, h13, lb_f, Int64.or_zero, Int32.add_zero, nB_t, nB_f, Bool.not_true, Bool.not_false, Bool.and_true, Bool.true_and, Bool.false_and, Bool.and_false, Bool.or_true, Bool.true_or, Bool.false_or, Bool.or_false, cond_true, cond_false]) rfl
  · have h1 : (decide ((μ.1 9 4) ≤ 0)) = false := decide_eq_false (cn_le.mp h1)
    refine z_rcs hc hH 1 (pc' := 11) (lv' := [(0, .ref 14), (1, .long ks)]) (st' := [.int 0]) (μ' := μ) (by rfl) ?_
    exact hr 0 11 _ _ _ (some (.int 0)) (by decide +kernel) (by rfl) (⟨rfl, (by simp only [h1, lb_f, Int64.or_zero, Int32.add_zero, nB_t, nB_f, Bool.not_true, Bool.not_false, Bool.and_true, Bool.true_and, Bool.false_and, Bool.and_false, Bool.or_true, Bool.true_or, Bool.false_or, Bool.or_false, cond_true, cond_false])⟩)
def xTF (ks : Int64) (ng : Bool) : Int64 := ((((((((lb (decide ((lg_cmp (ks &&& 17113154305) 0) = 0)) 8) ||| (lb (decide ((lg_cmp (ks &&& (-17113154306)) 0) = 0)) 24)) ||| (lb ((decide ((((0 + (nB (!(decide ((lg_cmp (ks &&& (511 <<< ((0 : Int32).toInt64 &&& 63))) 0) = 0))))) + (nB (!(decide ((lg_cmp (ks &&& (511 <<< ((9 : Int32).toInt64 &&& 63))) 0) = 0))))) + (nB (!(decide ((lg_cmp (ks &&& (511 <<< ((18 : Int32).toInt64 &&& 63))) 0) = 0))))) = 1)) && (!(decide ((lg_cmp (ks &&& 17045651456) 0) = 0)))) 26)) ||| (lb ((decide ((((0 + (nB (!(decide ((lg_cmp (ks &&& (511 <<< ((0 : Int32).toInt64 &&& 63))) 0) = 0))))) + (nB (!(decide ((lg_cmp (ks &&& (511 <<< ((9 : Int32).toInt64 &&& 63))) 0) = 0))))) + (nB (!(decide ((lg_cmp (ks &&& (511 <<< ((18 : Int32).toInt64 &&& 63))) 0) = 0))))) = 1)) && (!(!(decide ((lg_cmp (ks &&& 17045651456) 0) = 0))))) 29)) ||| (lb (decide ((lg_cmp (ks &&& (-17045651457)) 0) = 0)) 37)) ||| (lb (decide ((lg_cmp (ks &&& (-67502850)) 0) = 0)) 38)) ||| (lb (decide ((lg_cmp (ks &&& (-4340580353)) 0) = 0)) 39)) ||| (lb ng 40))
def xTO (μ : zM) (to : Int64) : Int64 := (bif decide ((μ.1 14 7) = 0) then bif decide ((lg_cmp ((((to &&& 13194139533559).toUInt64 >>> ((1 : Int32).toInt64.toUInt64 &&& Int64.toUInt64 63)).toInt64) &&& 1) 0) = 0) then to &&& 13194139533559 else (to &&& 13194139533559) &&& (-2) else (bif decide ((lg_cmp ((((to &&& 13194139533559).toUInt64 >>> ((1 : Int32).toInt64.toUInt64 &&& Int64.toUInt64 63)).toInt64) &&& 1) 0) = 0) then to &&& 13194139533559 else (to &&& 13194139533559) &&& (-2)) ||| 8)

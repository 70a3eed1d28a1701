/-! the class: a way is weighed -/
set_option maxRecDepth 8000
noncomputable def CW (μ : zM) (s l : Nat → Nat) : Prop := ∀ j, j < 4 → (μ.1 15 j = nI (s j) ∧ s j ≤ 3) ∧ μ.1 16 j = nI (l j) ∧ l j < 34
noncomputable def mcB (wn : Int32) (q : Nat) (s l : Nat → Nat) (i : Nat) : Bool := xHas (nI (s i)) (nI (l i)) wn && dfs s l i (i - q) q
theorem zh_X1_mayHaveCompleted : zH mi_X1_mayHaveCompleted zt_X1_mayHaveCompleted 79 1 4 := hh_X1_mayHaveCompleted
theorem mh58 (d' : Nat) (Z : zK) (μ : zM) (s l : Nat → Nat) (hW : CW μ s l) (q i : Nat) (hi : i < 4) (hqi : q ≤ i) (ht : μ.2.2 14 = 9) (e4 : μ.1 9 4 = nI q) (B : Bool) (hc : z_clo z_x0 mi_X1_mayHaveCompleted (z_C d') Z) (hr : z_ret mi_X1_mayHaveCompleted (zR μ (.int (nB B))) Z) (x2 : Int32) : ∀ n j, j + n = i → dfs s l i n j = B → Z 0 58 [(3, .int (nI j)), (2, .int x2), (0, .ref 14), (1, .int (nI i))] [] μ := by
  have hH := zh_X1_mayHaveCompleted
  intro n
  induction n with
  | zero =>
    intro j hj hb
    have hj : j = i := by omega
    subst hj
    have hb : true = B := hb
    subst hb
    refine z_rcs hc hH 2 (pc' := 60) (lv' := [(3, .int (nI j)), (2, .int x2), (0, .ref 14), (1, .int (nI j))]) (st' := [.int (nI j), .int (nI j)]) (μ' := μ) (by rfl) ?_
    refine zq_ic hc hH (by rfl) (tg := 101) (by rfl) (fun _ => ?_) (fun h9 => (zb_t (ge_nIt (n := j) (i := j) (by omega) (by omega)) h9).elim)
    refine z_rcs hc hH 1 (pc' := 102) (lv' := [(3, .int (nI j)), (2, .int x2), (0, .ref 14), (1, .int (nI j))]) (st' := [.int 1]) (μ' := μ) (by rfl) ?_
    exact hr 0 102 _ _ _ (some (.int 1)) (by decide +kernel) (z_rx_ok hH (by rfl)) (⟨rfl, rfl⟩)
  | succ n ih =>
    intro j hj hb
    rw [show dfs s l i (n + 1) j = (df1 s l j i && dfs s l i n (j + 1)) from rfl] at hb
    have hin : vp_in (nI i) 4 := vp_in_nI (by omega) (by decide)
    have hjn : vp_in (nI j) 4 := vp_in_nI (by omega) (by decide)
    have ei : (nI i).toNatClampNeg = i := nI_clamp (by omega)
    have ej : (nI j).toNatClampNeg = j := nI_clamp (by omega)
    have bi := hW i hi
    have bj := hW j (by omega)
    refine z_rcs hc hH 2 (pc' := 60) (lv' := [(3, .int (nI j)), (2, .int x2), (0, .ref 14), (1, .int (nI i))]) (st' := [.int (nI i), .int (nI j)]) (μ' := μ) (by rfl) ?_
    refine zq_ic hc hH (by rfl) (tg := 101) (by rfl) (fun h9 => (zb_t h9 (ge_nI (n := i) (i := j) (by omega) (by omega))).elim) (fun _ => ?_)
    refine z_rcs hc hH 3 (pc' := 68) (lv' := [(3, .int (nI j)), (2, .int x2), (0, .ref 14), (1, .int (nI i))]) (st' := [.int (nI j), .ref 15]) (μ' := μ) (by rfl) ?_
    refine zq_iald hc hH (by rfl) 4 (by decide +kernel) (hjn) ?_
    rw [ej, bj.1.1]
    show Z 0 69 [(3, .int (nI j)), (2, .int x2), (0, .ref 14), (1, .int (nI i))] [.int (nI (s j))] μ
    refine z_rcs hc hH 3 (pc' := 74) (lv' := [(3, .int (nI j)), (2, .int x2), (0, .ref 14), (1, .int (nI i))]) (st' := [.int (nI i), .ref 15, .int (nI (s j))]) (μ' := μ) (by rfl) ?_
    refine zq_iald hc hH (by rfl) 4 (by decide +kernel) (hin) ?_
    rw [ei, bi.1.1]
    show Z 0 75 [(3, .int (nI j)), (2, .int x2), (0, .ref 14), (1, .int (nI i))] [.int (nI (s i)), .int (nI (s j))] μ
    refine zq_ic hc hH (by rfl) (tg := 95) (by rfl) (fun h1 => ?_) (fun h1 => ?_)
    · have h1 := cm_ne.mp h1
      refine z_rcs hc hH 2 (pc' := 58) (lv' := [(3, .int ((nI j) + 1)), (2, .int x2), (0, .ref 14), (1, .int (nI i))]) (st' := []) (μ' := μ) (by rfl) ?_
      rw [nI_1]
      have d1 : df1 s l j i = true := by unfold df1; rw [show decide (s j = s i) = false from decide_eq_false (fun z => h1 (by rw [z]))]; rfl
      rw [d1, Bool.true_and] at hb
      exact ih (j + 1) (by omega) hb
    · have h1 := cn_ne.mp h1
      refine z_rcs hc hH 3 (pc' := 83) (lv' := [(3, .int (nI j)), (2, .int x2), (0, .ref 14), (1, .int (nI i))]) (st' := [.int (nI j), .ref 16]) (μ' := μ) (by rfl) ?_
      refine zq_iald hc hH (by rfl) 4 (by decide +kernel) (hjn) ?_
      rw [ej, bj.2.1]
      show Z 0 84 [(3, .int (nI j)), (2, .int x2), (0, .ref 14), (1, .int (nI i))] [.int (nI (l j))] μ
      refine z_rcs hc hH 3 (pc' := 89) (lv' := [(3, .int (nI j)), (2, .int x2), (0, .ref 14), (1, .int (nI i))]) (st' := [.int (nI i), .ref 16, .int (nI (l j))]) (μ' := μ) (by rfl) ?_
      refine zq_iald hc hH (by rfl) 4 (by decide +kernel) (hin) ?_
      rw [ei, bi.2.1]
      show Z 0 90 [(3, .int (nI j)), (2, .int x2), (0, .ref 14), (1, .int (nI i))] [.int (nI (l i)), .int (nI (l j))] μ
      refine zq_ic hc hH (by rfl) (tg := 95) (by rfl) (fun h2 => ?_) (fun h2 => ?_)
      · have h2 := cm_ne.mp h2
        refine z_rcs hc hH 2 (pc' := 58) (lv' := [(3, .int ((nI j) + 1)), (2, .int x2), (0, .ref 14), (1, .int (nI i))]) (st' := []) (μ' := μ) (by rfl) ?_
        rw [nI_1]
        have d1 : df1 s l j i = true := by unfold df1; rw [show decide (l j = l i) = false from decide_eq_false (fun z => h2 (by rw [z])), Bool.and_false]; rfl
        rw [d1, Bool.true_and] at hb
        exact ih (j + 1) (by omega) hb
      · have h2 := cn_ne.mp h2
        refine z_rcs hc hH 1 (pc' := 94) (lv' := [(3, .int (nI j)), (2, .int x2), (0, .ref 14), (1, .int (nI i))]) (st' := [.int 0]) (μ' := μ) (by rfl) ?_
        have d1 : df1 s l j i = false := by
          unfold df1
          rw [decide_eq_true ((nI_eq (show s j < 2 ^ 31 by omega) (show s i < 2 ^ 31 by omega)).mp h1), decide_eq_true ((nI_eq (show l j < 2 ^ 31 by omega) (show l i < 2 ^ 31 by omega)).mp h2)]; rfl
        rw [d1, Bool.false_and] at hb
        subst hb
        exact hr 0 94 _ _ _ (some (.int 0)) (by decide +kernel) (z_rx_ok hH (by rfl)) (⟨rfl, rfl⟩)
theorem fb_X1_mayHaveCompleted (d : Nat) (hd : 1 ≤ d) (μ : zM) (s l : Nat → Nat) (hW : CW μ s l) (q i : Nat) (hi : i < 4) (hqi : q ≤ i) (ht : μ.2.2 14 = 9) (e4 : μ.1 9 4 = nI q) : z_C d mi_X1_mayHaveCompleted [.ref 14, .int (nI i)] μ (zR μ (.int (nB (mcB (μ.1 14 6) q s l i)))) := by
  refine z_C_in (by decide) (by omega) (fun d' Z ed hc hr => ?_)
  have hH := zh_X1_mayHaveCompleted
  have hin : vp_in (nI i) 4 := vp_in_nI (by omega) (by decide)
  have ei : (nI i).toNatClampNeg = i := nI_clamp (by omega)
  have bi := hW i hi
  refine z_rcs hc hH 3 (pc' := 5) (lv' := [(0, .ref 14), (1, .int (nI i))]) (st' := [.int (nI i), .ref 15]) (μ' := μ) (by rfl) ?_
  refine zq_iald hc hH (by rfl) 4 (by decide +kernel) (hin) ?_
  rw [ei, bi.1.1]
  show Z 0 6 [(0, .ref 14), (1, .int (nI i))] [.int (nI (s i))] μ
  refine zq_if hc hH (by rfl) (tg := 20) (by rfl) (fun h1 => ?_) (fun h1 => ?_)
  · have h1 := cm_ne.mp h1
    refine z_rcs hc hH 3 (pc' := 25) (lv' := [(0, .ref 14), (1, .int (nI i))]) (st' := [.int (nI i), .ref 16]) (μ' := μ) (by rfl) ?_
    refine zq_iald hc hH (by rfl) 4 (by decide +kernel) (hin) ?_
    rw [ei, bi.2.1]
    show Z 0 26 [(0, .ref 14), (1, .int (nI i))] [.int (nI (l i))] μ
    refine z_rcs hc hH 6 (pc' := 36) (lv' := [(2, .int (nI (l i))), (0, .ref 14), (1, .int (nI i))]) (st' := [.int (nI i), .ref 16, .int (μ.1 14 6)]) (μ' := μ) (by rfl) ?_
    refine zq_iald hc hH (by rfl) 4 (by decide +kernel) (hin) ?_
    rw [ei, bi.2.1]
    show Z 0 37 [(2, .int (nI (l i))), (0, .ref 14), (1, .int (nI i))] [.int (nI (l i)), .int (μ.1 14 6)] μ
    refine zq_ic hc hH (by rfl) (tg := 48) (by rfl) (fun h2 => ?_) (fun h2 => ?_)
    · have h2 := cm_lt.mp h2
      refine z_rcs hc hH 1 (pc' := 49) (lv' := [(2, .int (nI (l i))), (0, .ref 14), (1, .int (nI i))]) (st' := [.int 0]) (μ' := μ) (by rfl) ?_
      have eh : xHas (nI (s i)) (nI (l i)) (μ.1 14 6) = false := (by unfold xHas; rw [show decide (nI (s i) = 0) = false from decide_eq_false h1, cond_false]; exact decide_eq_false (fun z => Int32.lt_irrefl (z ▸ h2)))
      have eb : mcB (μ.1 14 6) q s l i = false := by unfold mcB; rw [eh]; rfl
      exact hr 0 49 _ _ _ (some (.int 0)) (by decide +kernel) (z_rx_ok hH (by rfl)) (⟨rfl, by rw [eb]; rfl⟩)
    · have h2 := cn_lt.mp h2
      refine z_rcs hc hH 3 (pc' := 45) (lv' := [(2, .int (nI (l i))), (0, .ref 14), (1, .int (nI i))]) (st' := [.int (nI (l i)), .int (μ.1 14 6)]) (μ' := μ) (by rfl) ?_
      refine zq_ic hc hH (by rfl) (tg := 50) (by rfl) (fun h3 => ?_) (fun h3 => ?_)
      · have h3 := cm_le.mp h3
        refine z_rcs hc hH 1 (pc' := 51) (lv' := [(2, .int (nI (l i))), (0, .ref 14), (1, .int (nI i))]) (st' := [.ref 14]) (μ' := μ) (by rfl) ?_
        refine zq_tget hc hH (by rfl) (ci := 0) (f := 5) (t := 9) (by decide +kernel) ht (by decide) ?_
        show Z 0 54 [(2, .int (nI (l i))), (0, .ref 14), (1, .int (nI i))] [.ref 9] μ
        refine z_rcs hc hH 1 (pc' := 57) (lv' := [(2, .int (nI (l i))), (0, .ref 14), (1, .int (nI i))]) (st' := [.int (μ.1 9 4)]) (μ' := μ) (by rfl) ?_
        rw [e4]
        show Z 0 57 [(2, .int (nI (l i))), (0, .ref 14), (1, .int (nI i))] [.int (nI q)] μ
        refine z_rcs hc hH 1 (pc' := 58) (lv' := [(3, .int (nI q)), (2, .int (nI (l i))), (0, .ref 14), (1, .int (nI i))]) (st' := []) (μ' := μ) (by rfl) ?_
        have eh : xHas (nI (s i)) (nI (l i)) (μ.1 14 6) = true := (by unfold xHas; rw [show decide (nI (s i) = 0) = false from decide_eq_false h1, cond_false]; exact decide_eq_true (Int32.le_antisymm h3 (Int32.not_lt.mp h2)))
        have eb : mcB (μ.1 14 6) q s l i = dfs s l i (i - q) q := by unfold mcB; rw [eh, Bool.true_and]
        exact mh58 d' Z μ s l hW q i hi hqi ht e4 _ hc hr _ (i - q) q (by omega) eb.symm
      · have h3 := cn_le.mp h3
        refine z_rcs hc hH 1 (pc' := 49) (lv' := [(2, .int (nI (l i))), (0, .ref 14), (1, .int (nI i))]) (st' := [.int 0]) (μ' := μ) (by rfl) ?_
        have eh : xHas (nI (s i)) (nI (l i)) (μ.1 14 6) = false := (by unfold xHas; rw [show decide (nI (s i) = 0) = false from decide_eq_false h1, cond_false]; exact decide_eq_false (fun z => h3 (z ▸ Int32.le_refl _)))
        have eb : mcB (μ.1 14 6) q s l i = false := by unfold mcB; rw [eh]; rfl
        exact hr 0 49 _ _ _ (some (.int 0)) (by decide +kernel) (z_rx_ok hH (by rfl)) (⟨rfl, by rw [eb]; rfl⟩)
  · have h1 := cn_ne.mp h1
    refine z_rcs hc hH 3 (pc' := 14) (lv' := [(0, .ref 14), (1, .int (nI i))]) (st' := [.int (nI i), .ref 16]) (μ' := μ) (by rfl) ?_
    refine zq_iald hc hH (by rfl) 4 (by decide +kernel) (hin) ?_
    rw [ei, bi.2.1]
    show Z 0 15 [(0, .ref 14), (1, .int (nI i))] [.int (nI (l i))] μ
    refine z_rcs hc hH 3 (pc' := 26) (lv' := [(0, .ref 14), (1, .int (nI i))]) (st' := [.int ((nI (l i)) + 2)]) (μ' := μ) (by rfl) ?_
    refine z_rcs hc hH 6 (pc' := 36) (lv' := [(2, .int ((nI (l i)) + 2)), (0, .ref 14), (1, .int (nI i))]) (st' := [.int (nI i), .ref 16, .int (μ.1 14 6)]) (μ' := μ) (by rfl) ?_
    refine zq_iald hc hH (by rfl) 4 (by decide +kernel) (hin) ?_
    rw [ei, bi.2.1]
    show Z 0 37 [(2, .int ((nI (l i)) + 2)), (0, .ref 14), (1, .int (nI i))] [.int (nI (l i)), .int (μ.1 14 6)] μ
    refine zq_ic hc hH (by rfl) (tg := 48) (by rfl) (fun h4 => ?_) (fun h4 => ?_)
    · have h4 := cm_lt.mp h4
      refine z_rcs hc hH 1 (pc' := 49) (lv' := [(2, .int ((nI (l i)) + 2)), (0, .ref 14), (1, .int (nI i))]) (st' := [.int 0]) (μ' := μ) (by rfl) ?_
      have eh : xHas (nI (s i)) (nI (l i)) (μ.1 14 6) = false := (by unfold xHas; rw [show decide (nI (s i) = 0) = true from decide_eq_true h1, cond_true]; rw [show decide (μ.1 14 6 < nI (l i)) = true from decide_eq_true h4]; rfl)
      have eb : mcB (μ.1 14 6) q s l i = false := by unfold mcB; rw [eh]; rfl
      exact hr 0 49 _ _ _ (some (.int 0)) (by decide +kernel) (z_rx_ok hH (by rfl)) (⟨rfl, by rw [eb]; rfl⟩)
    · have h4 := cn_lt.mp h4
      refine z_rcs hc hH 3 (pc' := 45) (lv' := [(2, .int ((nI (l i)) + 2)), (0, .ref 14), (1, .int (nI i))]) (st' := [.int ((nI (l i)) + 2), .int (μ.1 14 6)]) (μ' := μ) (by rfl) ?_
      refine zq_ic hc hH (by rfl) (tg := 50) (by rfl) (fun h5 => ?_) (fun h5 => ?_)
      · have h5 := cm_le.mp h5
        refine z_rcs hc hH 1 (pc' := 51) (lv' := [(2, .int ((nI (l i)) + 2)), (0, .ref 14), (1, .int (nI i))]) (st' := [.ref 14]) (μ' := μ) (by rfl) ?_
        refine zq_tget hc hH (by rfl) (ci := 0) (f := 5) (t := 9) (by decide +kernel) ht (by decide) ?_
        show Z 0 54 [(2, .int ((nI (l i)) + 2)), (0, .ref 14), (1, .int (nI i))] [.ref 9] μ
        refine z_rcs hc hH 1 (pc' := 57) (lv' := [(2, .int ((nI (l i)) + 2)), (0, .ref 14), (1, .int (nI i))]) (st' := [.int (μ.1 9 4)]) (μ' := μ) (by rfl) ?_
        rw [e4]
        show Z 0 57 [(2, .int ((nI (l i)) + 2)), (0, .ref 14), (1, .int (nI i))] [.int (nI q)] μ
        refine z_rcs hc hH 1 (pc' := 58) (lv' := [(3, .int (nI q)), (2, .int ((nI (l i)) + 2)), (0, .ref 14), (1, .int (nI i))]) (st' := []) (μ' := μ) (by rfl) ?_
        have eh : xHas (nI (s i)) (nI (l i)) (μ.1 14 6) = true := (by unfold xHas; rw [show decide (nI (s i) = 0) = true from decide_eq_true h1, cond_true]; rw [show decide (μ.1 14 6 < nI (l i)) = false from decide_eq_false h4]; rw [show decide (nI (l i) + 2 < μ.1 14 6) = false from decide_eq_false (Int32.not_lt.mpr h5)]; rfl)
        have eb : mcB (μ.1 14 6) q s l i = dfs s l i (i - q) q := by unfold mcB; rw [eh, Bool.true_and]
        exact mh58 d' Z μ s l hW q i hi hqi ht e4 _ hc hr _ (i - q) q (by omega) eb.symm
      · have h5 := cn_le.mp h5
        refine z_rcs hc hH 1 (pc' := 49) (lv' := [(2, .int ((nI (l i)) + 2)), (0, .ref 14), (1, .int (nI i))]) (st' := [.int 0]) (μ' := μ) (by rfl) ?_
        have eh : xHas (nI (s i)) (nI (l i)) (μ.1 14 6) = false := (by unfold xHas; rw [show decide (nI (s i) = 0) = true from decide_eq_true h1, cond_true]; rw [show decide (μ.1 14 6 < nI (l i)) = false from decide_eq_false h4]; rw [show decide (nI (l i) + 2 < μ.1 14 6) = true from decide_eq_true (Int32.not_le.mp h5)]; rfl)
        have eb : mcB (μ.1 14 6) q s l i = false := by unfold mcB; rw [eh]; rfl
        exact hr 0 49 _ _ _ (some (.int 0)) (by decide +kernel) (z_rx_ok hH (by rfl)) (⟨rfl, by rw [eb]; rfl⟩)
noncomputable def rB (s l : Nat → Nat) : Nat → Int64
  | 0 => 0
  | i + 1 => if s i = 0 then rB s l i ||| ((1 : Int64) <<< ((nI (l i)).toInt64 &&& 63)) else rB s l i
noncomputable def tB (s l : Nat → Nat) : Nat → Int64
  | 0 => 0
  | i + 1 => if s i = 0 then tB s l i else tB s l i ||| ((1 : Int64) <<< ((nI (l i)).toInt64 &&& 63))
noncomputable def xWf (μ : zM) (c : Nat) : Int32 := match c with | 0 => xWf0 μ | 1 => xWf1 μ | 2 => xWf2 μ | 3 => xWf3 μ | _ => xWf4 μ
theorem fb_waitFu (μ : zM) (c : Nat) (hc : c < 5) : ∀ d, 1 ≤ d → z_C d mi_X1_waitFu [.ref 14, .int (nI c)] μ (zR μ (.int (xWf μ c))) := by
  intro d hd
  rcases c with _ | _ | _ | _ | _ | c
  · exact fb_X1_waitFu_0 d hd μ
  · exact fb_X1_waitFu_1 d hd μ
  · exact fb_X1_waitFu_2 d hd μ
  · exact fb_X1_waitFu_3 d hd μ
  · exact fb_X1_waitFu_4 d hd μ
  · omega
noncomputable def xHc0 (μ : zM) (c : Nat) : Bool := match c with | 0 => xHi_0_0 μ | 1 => xHi_0_1 μ | 2 => xHi_0_2 μ | 3 => xHi_0_3 μ | _ => xHi_0_4 μ
theorem fb_hid0 (μ : zM) (ht : μ.2.2 14 = 9) (c : Nat) (hc : c < 5) : ∀ d, 1 ≤ d → z_C d mi_X1_isHidden [.ref 14, .int 0, .int (nI c)] μ (zR μ (.int (nB (xHc0 μ c)))) := by
  intro d hd
  rcases c with _ | _ | _ | _ | _ | c
  · exact fb_X1_isHidden_0_0 d hd μ ht
  · exact fb_X1_isHidden_0_1 d hd μ ht
  · exact fb_X1_isHidden_0_2 d hd μ ht
  · exact fb_X1_isHidden_0_3 d hd μ ht
  · exact fb_X1_isHidden_0_4 d hd μ ht
  · omega
noncomputable def xHc1 (μ : zM) (c : Nat) : Bool := match c with | 0 => xHi_1_0 μ | 1 => xHi_1_1 μ | 2 => xHi_1_2 μ | 3 => xHi_1_3 μ | _ => xHi_1_4 μ
theorem fb_hid1 (μ : zM) (ht : μ.2.2 14 = 9) (c : Nat) (hc : c < 5) : ∀ d, 1 ≤ d → z_C d mi_X1_isHidden [.ref 14, .int 1, .int (nI c)] μ (zR μ (.int (nB (xHc1 μ c)))) := by
  intro d hd
  rcases c with _ | _ | _ | _ | _ | c
  · exact fb_X1_isHidden_1_0 d hd μ ht
  · exact fb_X1_isHidden_1_1 d hd μ ht
  · exact fb_X1_isHidden_1_2 d hd μ ht
  · exact fb_X1_isHidden_1_3 d hd μ ht
  · exact fb_X1_isHidden_1_4 d hd μ ht
  · omega
noncomputable def xHc2 (μ : zM) (c : Nat) : Bool := match c with | 0 => xHi_2_0 μ | 1 => xHi_2_1 μ | 2 => xHi_2_2 μ | 3 => xHi_2_3 μ | _ => xHi_2_4 μ
theorem fb_hid2 (μ : zM) (ht : μ.2.2 14 = 9) (c : Nat) (hc : c < 5) : ∀ d, 1 ≤ d → z_C d mi_X1_isHidden [.ref 14, .int 2, .int (nI c)] μ (zR μ (.int (nB (xHc2 μ c)))) := by
  intro d hd
  rcases c with _ | _ | _ | _ | _ | c
  · exact fb_X1_isHidden_2_0 d hd μ ht
  · exact fb_X1_isHidden_2_1 d hd μ ht
  · exact fb_X1_isHidden_2_2 d hd μ ht
  · exact fb_X1_isHidden_2_3 d hd μ ht
  · exact fb_X1_isHidden_2_4 d hd μ ht
  · omega
noncomputable def xHc3 (μ : zM) (c : Nat) : Bool := match c with | 0 => xHi_3_0 μ | 1 => xHi_3_1 μ | 2 => xHi_3_2 μ | 3 => xHi_3_3 μ | _ => xHi_3_4 μ
theorem fb_hid3 (μ : zM) (ht : μ.2.2 14 = 9) (c : Nat) (hc : c < 5) : ∀ d, 1 ≤ d → z_C d mi_X1_isHidden [.ref 14, .int 3, .int (nI c)] μ (zR μ (.int (nB (xHc3 μ c)))) := by
  intro d hd
  rcases c with _ | _ | _ | _ | _ | c
  · exact fb_X1_isHidden_3_0 d hd μ ht
  · exact fb_X1_isHidden_3_1 d hd μ ht
  · exact fb_X1_isHidden_3_2 d hd μ ht
  · exact fb_X1_isHidden_3_3 d hd μ ht
  · exact fb_X1_isHidden_3_4 d hd μ ht
  · omega
noncomputable def xSF (μ : zM) : Int64 := (((((((((((((((((μ.2.1 14 17) &&& 15032385536).toUInt64 >>> ((31 : Int32).toInt64.toUInt64 &&& Int64.toUInt64 63)).toInt64) <<< ((11 : Int32).toInt64 &&& 63)) ||| (lb (xHd (μ.2.1 14 17) (μ.1 14 9)) 14)) ||| (lb (xHd (μ.2.1 14 17) (μ.1 14 10)) 15)) ||| (lb (!(decide ((lg_cmp ((((μ.2.1 14 16) &&& (((μ.2.1 14 16).toUInt64 >>> ((9 : Int32).toInt64.toUInt64 &&& Int64.toUInt64 63)).toInt64)) &&& (((μ.2.1 14 16).toUInt64 >>> ((18 : Int32).toInt64.toUInt64 &&& Int64.toUInt64 63)).toInt64)) &&& 511) 0) = 0))) 17)) ||| (lb (((decide ((lg_cmp ((((μ.2.1 14 16).toUInt64 >>> ((0 : Int32).toInt64.toUInt64 &&& Int64.toUInt64 63)).toInt64) &&& 73) 73) = 0)) || (decide ((lg_cmp ((((μ.2.1 14 16).toUInt64 >>> ((9 : Int32).toInt64.toUInt64 &&& Int64.toUInt64 63)).toInt64) &&& 73) 73) = 0))) || (decide ((lg_cmp ((((μ.2.1 14 16).toUInt64 >>> ((18 : Int32).toInt64.toUInt64 &&& Int64.toUInt64 63)).toInt64) &&& 73) 73) = 0))) 18)) ||| (lb (decide ((lg_cmp (μ.2.1 14 16) 0) = 0)) 19)) ||| (lb (decide (((((0 + (nB ((decide ((μ.1 15 0) = 2)) || (decide ((μ.1 15 0) = 3))))) + (nB ((decide ((μ.1 15 1) = 2)) || (decide ((μ.1 15 1) = 3))))) + (nB ((decide ((μ.1 15 2) = 2)) || (decide ((μ.1 15 2) = 3))))) + (nB ((decide ((μ.1 15 3) = 2)) || (decide ((μ.1 15 3) = 3))))) = 3)) 21)) ||| (lb (!(decide ((lg_cmp ((((μ.2.1 14 17) &&& (((μ.2.1 14 17).toUInt64 >>> ((9 : Int32).toInt64.toUInt64 &&& Int64.toUInt64 63)).toInt64)) &&& (((μ.2.1 14 17).toUInt64 >>> ((18 : Int32).toInt64.toUInt64 &&& Int64.toUInt64 63)).toInt64)) &&& 511) 0) = 0))) 22)) ||| (lb ((decide ((xBc ((μ.2.1 14 17) &&& 15032385536)) = 2)) && (xHd 15032385536 (μ.1 14 15))) 25)) ||| (lb (decide ((xBc ((μ.2.1 14 17) &&& 15032385536)) = 3)) 34)) ||| (lb ((decide ((xBc ((μ.2.1 14 17) &&& 2013265920)) = 3)) && (xHd 2013265920 (μ.1 14 15))) 35)) ||| (lb (decide ((xBc ((μ.2.1 14 17) &&& 2013265920)) = 4)) 36)) ||| (lb (decide (((((0 + (nB ((decide ((μ.1 15 0) = 2)) || (decide ((μ.1 15 0) = 3))))) + (nB ((decide ((μ.1 15 1) = 2)) || (decide ((μ.1 15 1) = 3))))) + (nB ((decide ((μ.1 15 2) = 2)) || (decide ((μ.1 15 2) = 3))))) + (nB ((decide ((μ.1 15 3) = 2)) || (decide ((μ.1 15 3) = 3))))) = 4)) 41))
noncomputable def xLR (μ : zM) : Int64 := ((lb (decide ((((0 + ((0 + (nB ((decide ((μ.1 15 1) = 0)) && ((decide ((μ.1 15 0) = 0)) && (decide ((μ.1 16 1) = (μ.1 16 0))))))) - (0 + (nB ((decide ((μ.1 15 1) = 0)) && ((decide ((μ.1 15 0) = 0)) && (decide ((μ.1 16 1) = (μ.1 16 0))))))) / 2 * 2)) + (((0 + (nB ((decide ((μ.1 15 2) = 0)) && ((decide ((μ.1 15 0) = 0)) && (decide ((μ.1 16 2) = (μ.1 16 0))))))) + (nB ((decide ((μ.1 15 2) = 0)) && ((decide ((μ.1 15 1) = 0)) && (decide ((μ.1 16 2) = (μ.1 16 1))))))) - ((0 + (nB ((decide ((μ.1 15 2) = 0)) && ((decide ((μ.1 15 0) = 0)) && (decide ((μ.1 16 2) = (μ.1 16 0))))))) + (nB ((decide ((μ.1 15 2) = 0)) && ((decide ((μ.1 15 1) = 0)) && (decide ((μ.1 16 2) = (μ.1 16 1))))))) / 2 * 2)) + ((((0 + (nB ((decide ((μ.1 15 3) = 0)) && ((decide ((μ.1 15 0) = 0)) && (decide ((μ.1 16 3) = (μ.1 16 0))))))) + (nB ((decide ((μ.1 15 3) = 0)) && ((decide ((μ.1 15 1) = 0)) && (decide ((μ.1 16 3) = (μ.1 16 1))))))) + (nB ((decide ((μ.1 15 3) = 0)) && ((decide ((μ.1 15 2) = 0)) && (decide ((μ.1 16 3) = (μ.1 16 2))))))) - (((0 + (nB ((decide ((μ.1 15 3) = 0)) && ((decide ((μ.1 15 0) = 0)) && (decide ((μ.1 16 3) = (μ.1 16 0))))))) + (nB ((decide ((μ.1 15 3) = 0)) && ((decide ((μ.1 15 1) = 0)) && (decide ((μ.1 16 3) = (μ.1 16 1))))))) + (nB ((decide ((μ.1 15 3) = 0)) && ((decide ((μ.1 15 2) = 0)) && (decide ((μ.1 16 3) = (μ.1 16 2))))))) / 2 * 2)) = 1)) 10) ||| (lb (decide ((((0 + ((0 + (nB ((decide ((μ.1 15 1) = 0)) && ((decide ((μ.1 15 0) = 0)) && (decide ((μ.1 16 1) = (μ.1 16 0))))))) - (0 + (nB ((decide ((μ.1 15 1) = 0)) && ((decide ((μ.1 15 0) = 0)) && (decide ((μ.1 16 1) = (μ.1 16 0))))))) / 2 * 2)) + (((0 + (nB ((decide ((μ.1 15 2) = 0)) && ((decide ((μ.1 15 0) = 0)) && (decide ((μ.1 16 2) = (μ.1 16 0))))))) + (nB ((decide ((μ.1 15 2) = 0)) && ((decide ((μ.1 15 1) = 0)) && (decide ((μ.1 16 2) = (μ.1 16 1))))))) - ((0 + (nB ((decide ((μ.1 15 2) = 0)) && ((decide ((μ.1 15 0) = 0)) && (decide ((μ.1 16 2) = (μ.1 16 0))))))) + (nB ((decide ((μ.1 15 2) = 0)) && ((decide ((μ.1 15 1) = 0)) && (decide ((μ.1 16 2) = (μ.1 16 1))))))) / 2 * 2)) + ((((0 + (nB ((decide ((μ.1 15 3) = 0)) && ((decide ((μ.1 15 0) = 0)) && (decide ((μ.1 16 3) = (μ.1 16 0))))))) + (nB ((decide ((μ.1 15 3) = 0)) && ((decide ((μ.1 15 1) = 0)) && (decide ((μ.1 16 3) = (μ.1 16 1))))))) + (nB ((decide ((μ.1 15 3) = 0)) && ((decide ((μ.1 15 2) = 0)) && (decide ((μ.1 16 3) = (μ.1 16 2))))))) - (((0 + (nB ((decide ((μ.1 15 3) = 0)) && ((decide ((μ.1 15 0) = 0)) && (decide ((μ.1 16 3) = (μ.1 16 0))))))) + (nB ((decide ((μ.1 15 3) = 0)) && ((decide ((μ.1 15 1) = 0)) && (decide ((μ.1 16 3) = (μ.1 16 1))))))) + (nB ((decide ((μ.1 15 3) = 0)) && ((decide ((μ.1 15 2) = 0)) && (decide ((μ.1 16 3) = (μ.1 16 2))))))) / 2 * 2)) = 2)) 28))
noncomputable def xEF (μ : zM) : Int64 := ((lb ((((((xHd 17113154305 (μ.1 14 15)) && (!(decide ((lg_cmp (((bif decide ((μ.1 15 0) = 0) then (7 : Int64) else 1) <<< ((μ.1 16 0).toInt64 &&& 63)) &&& 17113154305) 0) = 0)))) && (!(decide ((lg_cmp (((bif decide ((μ.1 15 1) = 0) then (7 : Int64) else 1) <<< ((μ.1 16 1).toInt64 &&& 63)) &&& 17113154305) 0) = 0)))) && (!(decide ((lg_cmp (((bif decide ((μ.1 15 2) = 0) then (7 : Int64) else 1) <<< ((μ.1 16 2).toInt64 &&& 63)) &&& 17113154305) 0) = 0)))) && (!(decide ((lg_cmp (((bif decide ((μ.1 15 3) = 0) then (7 : Int64) else 1) <<< ((μ.1 16 3).toInt64 &&& 63)) &&& 17113154305) 0) = 0)))) && (((xHd 17045651456 (μ.1 14 15)) || (!(decide ((lg_cmp ((μ.2.1 14 17) &&& 17045651456) 0) = 0)))) && (!(decide ((lg_cmp (μ.2.1 14 16) 0) = 0))))) 23) ||| (lb ((((((xHd 67502849 (μ.1 14 15)) && (!(decide ((lg_cmp (((bif decide ((μ.1 15 0) = 0) then (7 : Int64) else 1) <<< ((μ.1 16 0).toInt64 &&& 63)) &&& 67502849) 0) = 0)))) && (!(decide ((lg_cmp (((bif decide ((μ.1 15 1) = 0) then (7 : Int64) else 1) <<< ((μ.1 16 1).toInt64 &&& 63)) &&& 67502849) 0) = 0)))) && (!(decide ((lg_cmp (((bif decide ((μ.1 15 2) = 0) then (7 : Int64) else 1) <<< ((μ.1 16 2).toInt64 &&& 63)) &&& 67502849) 0) = 0)))) && (!(decide ((lg_cmp (((bif decide ((μ.1 15 3) = 0) then (7 : Int64) else 1) <<< ((μ.1 16 3).toInt64 &&& 63)) &&& 67502849) 0) = 0)))) && (!(decide ((lg_cmp (μ.2.1 14 16) 0) = 0)))) 27))
/-- the value of a way with its completed SET, as the class has it -/
noncomputable def vC (μ : zM) (c : Nat) : Q4 := vW μ (((μ.2.1 14 12 ||| xLR μ) ||| xSF μ) ||| xEF μ) (nI c) (xWf μ c) (xHc0 μ c) (xHc1 μ c) (xHc2 μ c) (xHc3 μ c)
noncomputable def CI (S : Q4 → Prop) (N : Nat) (μ : zM) : Prop := ∃ n, n ≤ N ∧ μ.1 14 4 = nI n ∧ ((n = 0 ∧ bqC μ = (0, 0, 0, 0) ∧ ∀ x, ¬ S x) ∨ (0 < n ∧ ∃ f, S f ∧ BS S f (bqC μ)))
theorem CI.iff {S T : Q4 → Prop} {N : Nat} {μ : zM} (h : CI S N μ) (e : ∀ x, S x ↔ T x) : CI T N μ := by
  obtain ⟨n, h1, h2, h3⟩ := h
  exact ⟨n, h1, h2, h3.imp (fun z => ⟨z.1, z.2.1, fun x hx => z.2.2 x ((e x).mpr hx)⟩) (fun ⟨z, f, hf, hb⟩ => ⟨z, f, (e f).mp hf, hb.iff e⟩)⟩
theorem CI.up {S : Q4 → Prop} {N M : Nat} {μ : zM} (h : CI S N μ) (e : N ≤ M) : CI S M μ := by
  obtain ⟨n, h1, h2, h3⟩ := h
  exact ⟨n, by omega, h2, h3⟩
theorem CI.add {S : Q4 → Prop} {N : Nat} {μ μ' : zM} {x : Q4} (h : CI S N μ) (hN : N < 100000) (ho : OQ μ μ' x) : CI (fun y => S y ∨ y = x) (N + 1) μ' := by
  obtain ⟨n, h1, h2, h3⟩ := h
  refine ⟨n + 1, by omega, by rw [ho.2.2.1, h2, nI_1], Or.inr ⟨by omega, ?_⟩⟩
  have e1 : μ.1 14 4 + 1 = 1 ↔ n = 0 := by
    rw [h2, nI_1]
    exact ⟨fun z => by have := (nI_eq (show n + 1 < 2 ^ 31 by omega) (show 1 < 2 ^ 31 by decide)).mp z; omega, fun z => by rw [z]; rfl⟩
  rcases h3 with ⟨z, _, hn⟩ | ⟨z, f, hf, hb⟩
  · rcases ho.2.2.2 with ⟨_, e⟩ | ⟨c, _⟩
    · refine ⟨x, Or.inr rfl, ?_⟩
      rw [e]
      exact ⟨Or.inl rfl, g4_irr x, fun y hy => by rcases hy with hy | hy; exact absurd hy (hn y); rw [hy]; exact g4_irr x⟩
    · exact absurd (e1.mpr z) c
  · rcases ho.2.2.2 with ⟨c, _⟩ | ⟨_, hb2⟩
    · exact absurd (e1.mp c) (by omega)
    · exact ⟨f, Or.inl hf, hb.tr hb2⟩

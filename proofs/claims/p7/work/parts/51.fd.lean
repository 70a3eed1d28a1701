/-! exact contracts: small methods, the desk -/
def zB (μ : zM) (P : Prop) : zQ := fun r μ' => μ' = μ ∧ ((r = some (.int 1) ∧ P) ∨ (r = some (.int 0) ∧ ¬ P))
theorem zh_X6_isKind : zH mi_X6_isKind zt_X6_isKind 79 6 1 := hh_X6_isKind
theorem fc_X6_isKind (d : Nat) (hd : 1 ≤ d) (μ : zM) (k : Int32) : z_C d mi_X6_isKind [.int k] μ (zB μ (vp_in k 34)) := by
  refine z_C_in (by decide) (by omega) (fun d' Z ed hc hr => ?_)
  have hH := zh_X6_isKind
  refine z_rcs hc hH 1 (pc' := 1) (lv' := [(0, .int k)]) (st' := [.int k]) (μ' := μ) (by rfl) ?_
  refine zq_if hc hH (by rfl) (tg := 14) (by rfl) (fun h1 => ?_) (fun h1 => ?_)
  · have h1 := cm_lt.mp h1
    refine z_rcs hc hH 1 (pc' := 15) (lv' := [(0, .int k)]) (st' := [.int 0]) (μ' := μ) (by rfl) ?_
    exact hr 0 15 _ _ _ (some (.int 0)) (by decide +kernel) (z_rx_ok hH (by rfl)) (⟨rfl, Or.inr ⟨rfl, nin_lt h1⟩⟩)
  · have h1 := cn_lt.mp h1
    refine z_rcs hc hH 2 (pc' := 7) (lv' := [(0, .int k)]) (st' := [.int 34, .int k]) (μ' := μ) (by rfl) ?_
    refine zq_ic hc hH (by rfl) (tg := 14) (by rfl) (fun h2 => ?_) (fun h2 => ?_)
    · have h2 := cm_ge.mp h2
      refine z_rcs hc hH 1 (pc' := 15) (lv' := [(0, .int k)]) (st' := [.int 0]) (μ' := μ) (by rfl) ?_
      exact hr 0 15 _ _ _ (some (.int 0)) (by decide +kernel) (z_rx_ok hH (by rfl)) (⟨rfl, Or.inr ⟨rfl, nin_ge (M := 34) rfl h2⟩⟩)
    · have h2 := cn_ge.mp h2
      refine z_rcs hc hH 2 (pc' := 15) (lv' := [(0, .int k)]) (st' := [.int 1]) (μ' := μ) (by rfl) ?_
      exact hr 0 15 _ _ _ (some (.int 1)) (by decide +kernel) (z_rx_ok hH (by rfl)) (⟨rfl, Or.inl ⟨rfl, in_of (M := 34) rfl h1 h2⟩⟩)
theorem zh_X7_isKind : zH mi_X7_isKind zt_X7_isKind 79 7 1 := hh_X7_isKind
theorem fc_X7_isKind (d : Nat) (hd : 1 ≤ d) (μ : zM) (k : Int32) : z_C d mi_X7_isKind [.int k] μ (zB μ (vp_in k 34)) := by
  refine z_C_in (by decide) (by omega) (fun d' Z ed hc hr => ?_)
  have hH := zh_X7_isKind
  refine z_rcs hc hH 1 (pc' := 1) (lv' := [(0, .int k)]) (st' := [.int k]) (μ' := μ) (by rfl) ?_
  refine zq_if hc hH (by rfl) (tg := 14) (by rfl) (fun h1 => ?_) (fun h1 => ?_)
  · have h1 := cm_lt.mp h1
    refine z_rcs hc hH 1 (pc' := 15) (lv' := [(0, .int k)]) (st' := [.int 0]) (μ' := μ) (by rfl) ?_
    exact hr 0 15 _ _ _ (some (.int 0)) (by decide +kernel) (z_rx_ok hH (by rfl)) (⟨rfl, Or.inr ⟨rfl, nin_lt h1⟩⟩)
  · have h1 := cn_lt.mp h1
    refine z_rcs hc hH 2 (pc' := 7) (lv' := [(0, .int k)]) (st' := [.int 34, .int k]) (μ' := μ) (by rfl) ?_
    refine zq_ic hc hH (by rfl) (tg := 14) (by rfl) (fun h2 => ?_) (fun h2 => ?_)
    · have h2 := cm_ge.mp h2
      refine z_rcs hc hH 1 (pc' := 15) (lv' := [(0, .int k)]) (st' := [.int 0]) (μ' := μ) (by rfl) ?_
      exact hr 0 15 _ _ _ (some (.int 0)) (by decide +kernel) (z_rx_ok hH (by rfl)) (⟨rfl, Or.inr ⟨rfl, nin_ge (M := 34) rfl h2⟩⟩)
    · have h2 := cn_ge.mp h2
      refine z_rcs hc hH 2 (pc' := 15) (lv' := [(0, .int k)]) (st' := [.int 1]) (μ' := μ) (by rfl) ?_
      exact hr 0 15 _ _ _ (some (.int 1)) (by decide +kernel) (z_rx_ok hH (by rfl)) (⟨rfl, Or.inl ⟨rfl, in_of (M := 34) rfl h1 h2⟩⟩)
theorem zh_X3_all : zH mi_X3_all zt_X3_all 79 3 2 := hh_X3_all
theorem fc_X3_all (d : Nat) (hd : 2 ≤ d) (μ : zM) (k : Int32) : z_C d mi_X3_all [.ref 9, .int k] μ (fun r μ' => μ' = μ ∧ ((vp_in k 34 ∧ r = some (.int (μ.1 11 k.toNatClampNeg))) ∨ (¬ vp_in k 34 ∧ r = some (.int 0)))) := by
  refine z_C_in (by decide) (by omega) (fun d' Z ed hc hr => ?_)
  have hH := zh_X3_all
  refine z_rcs hc hH 1 (pc' := 1) (lv' := [(0, .ref 9), (1, .int k)]) (st' := [.int k]) (μ' := μ) (by rfl) ?_
  refine zq_call hc (z_cx_ok hH (by rfl)) (fc_X6_isKind d' (by omega) μ k) (by decide +kernel) (fun r9 μ9 hq => ?_)
  obtain ⟨hμ9, hq⟩ := hq
  rw [hμ9]
  clear hμ9 μ9
  obtain ⟨rfl, hk⟩ | ⟨rfl, hk⟩ := hq
  · show Z 0 4 [(0, .ref 9), (1, .int k)] [.int 1] μ
    refine z_rcs hc hH 4 (pc' := 12) (lv' := [(0, .ref 9), (1, .int k)]) (st' := [.int k, .ref 11]) (μ' := μ) (by rfl) ?_
    refine zq_iald hc hH (by rfl) 34 (by decide +kernel) (hk) ?_
    refine z_rcs hc hH 1 (pc' := 17) (lv' := [(0, .ref 9), (1, .int k)]) (st' := [.int (μ.1 11 k.toNatClampNeg)]) (μ' := μ) (by rfl) ?_
    exact hr 0 17 _ _ _ (some (.int (μ.1 11 k.toNatClampNeg))) (by decide +kernel) (z_rx_ok hH (by rfl)) (⟨rfl, Or.inl ⟨hk, rfl⟩⟩)
  · show Z 0 4 [(0, .ref 9), (1, .int k)] [.int 0] μ
    refine z_rcs hc hH 2 (pc' := 17) (lv' := [(0, .ref 9), (1, .int k)]) (st' := [.int 0]) (μ' := μ) (by rfl) ?_
    exact hr 0 17 _ _ _ (some (.int 0)) (by decide +kernel) (z_rx_ok hH (by rfl)) (⟨rfl, Or.inr ⟨hk, rfl⟩⟩)
theorem zh_X3_free : zH mi_X3_free zt_X3_free 79 3 2 := hh_X3_free
theorem fc_X3_free (d : Nat) (hd : 2 ≤ d) (μ : zM) (k : Int32) : z_C d mi_X3_free [.ref 9, .int k] μ (fun r μ' => μ' = μ ∧ ((vp_in k 34 ∧ r = some (.int (μ.1 10 k.toNatClampNeg))) ∨ (¬ vp_in k 34 ∧ r = some (.int 0)))) := by
  refine z_C_in (by decide) (by omega) (fun d' Z ed hc hr => ?_)
  have hH := zh_X3_free
  refine z_rcs hc hH 1 (pc' := 1) (lv' := [(0, .ref 9), (1, .int k)]) (st' := [.int k]) (μ' := μ) (by rfl) ?_
  refine zq_call hc (z_cx_ok hH (by rfl)) (fc_X6_isKind d' (by omega) μ k) (by decide +kernel) (fun r9 μ9 hq => ?_)
  obtain ⟨hμ9, hq⟩ := hq
  rw [hμ9]
  clear hμ9 μ9
  obtain ⟨rfl, hk⟩ | ⟨rfl, hk⟩ := hq
  · show Z 0 4 [(0, .ref 9), (1, .int k)] [.int 1] μ
    refine z_rcs hc hH 4 (pc' := 12) (lv' := [(0, .ref 9), (1, .int k)]) (st' := [.int k, .ref 10]) (μ' := μ) (by rfl) ?_
    refine zq_iald hc hH (by rfl) 34 (by decide +kernel) (hk) ?_
    refine z_rcs hc hH 1 (pc' := 17) (lv' := [(0, .ref 9), (1, .int k)]) (st' := [.int (μ.1 10 k.toNatClampNeg)]) (μ' := μ) (by rfl) ?_
    exact hr 0 17 _ _ _ (some (.int (μ.1 10 k.toNatClampNeg))) (by decide +kernel) (z_rx_ok hH (by rfl)) (⟨rfl, Or.inl ⟨hk, rfl⟩⟩)
  · show Z 0 4 [(0, .ref 9), (1, .int k)] [.int 0] μ
    refine z_rcs hc hH 2 (pc' := 17) (lv' := [(0, .ref 9), (1, .int k)]) (st' := [.int 0]) (μ' := μ) (by rfl) ?_
    exact hr 0 17 _ _ _ (some (.int 0)) (by decide +kernel) (z_rx_ok hH (by rfl)) (⟨rfl, Or.inr ⟨hk, rfl⟩⟩)
theorem zh_X3_size : zH mi_X3_size zt_X3_size 79 3 1 := hh_X3_size
theorem fc_X3_size (d : Nat) (hd : 1 ≤ d) (μ : zM) : z_C d mi_X3_size [.ref 9] μ (zR μ (.int (μ.1 9 5 + 3 * μ.1 9 4))) := by
  refine z_C_in (by decide) (by omega) (fun d' Z ed hc hr => ?_)
  have hH := zh_X3_size
  refine z_rcs hc hH 7 (pc' := 11) (lv' := [(0, .ref 9)]) (st' := [.int ((μ.1 9 5) + (3 * (μ.1 9 4)))]) (μ' := μ) (by rfl) ?_
  exact hr 0 11 _ _ _ (some (.int ((μ.1 9 5) + (3 * (μ.1 9 4))))) (by decide +kernel) (z_rx_ok hH (by rfl)) (⟨rfl, rfl⟩)
def z_put (μ : zM) (k n : Int32) : zM := z_ui (z_ui (z_ui μ 10 k.toNatClampNeg (μ.1 10 k.toNatClampNeg + n)) 11 k.toNatClampNeg (μ.1 11 k.toNatClampNeg + n)) 9 5 (μ.1 9 5 + n)
theorem zh_X3_put : zH mi_X3_put zt_X3_put 79 3 3 := hh_X3_put
theorem fc_X3_put (d : Nat) (hd : 2 ≤ d) (μ : zM) (k n : Int32) : z_C d mi_X3_put [.ref 9, .int k, .int n] μ (fun r μ' => r = none ∧ ((vp_in k 34 ∧ μ' = z_put μ k n) ∨ (¬ vp_in k 34 ∧ μ' = μ))) := by
  refine z_C_in (by decide) (by omega) (fun d' Z ed hc hr => ?_)
  have hH := zh_X3_put
  refine z_rcs hc hH 1 (pc' := 1) (lv' := [(0, .ref 9), (1, .int k), (2, .int n)]) (st' := [.int k]) (μ' := μ) (by rfl) ?_
  refine zq_call hc (z_cx_ok hH (by rfl)) (fc_X6_isKind d' (by omega) μ k) (by decide +kernel) (fun r9 μ9 hq => ?_)
  obtain ⟨hμ9, hq⟩ := hq
  rw [hμ9]
  clear hμ9 μ9
  obtain ⟨rfl, hk⟩ | ⟨rfl, hk⟩ := hq
  · show Z 0 4 [(0, .ref 9), (1, .int k), (2, .int n)] [.int 1] μ
    refine z_rcs hc hH 5 (pc' := 13) (lv' := [(0, .ref 9), (1, .int k), (2, .int n)]) (st' := [.int k, .ref 10, .int k, .ref 10]) (μ' := μ) (by rfl) ?_
    refine zq_iald hc hH (by rfl) 34 (by decide +kernel) (hk) ?_
    refine z_rcs hc hH 2 (pc' := 16) (lv' := [(0, .ref 9), (1, .int k), (2, .int n)]) (st' := [.int ((μ.1 10 k.toNatClampNeg) + n), .int k, .ref 10]) (μ' := μ) (by rfl) ?_
    refine zq_iast hc hH (by rfl) 34 (by decide +kernel) (hk) ?_
    refine z_rcs hc hH 4 (pc' := 23) (lv' := [(0, .ref 9), (1, .int k), (2, .int n)]) (st' := [.int k, .ref 11, .int k, .ref 11]) (μ' := z_ui μ 10 k.toNatClampNeg ((μ.1 10 k.toNatClampNeg) + n)) (by rfl) ?_
    refine zq_iald hc hH (by rfl) 34 (by decide +kernel) (hk) ?_
    refine z_rcs hc hH 2 (pc' := 26) (lv' := [(0, .ref 9), (1, .int k), (2, .int n)]) (st' := [.int (((z_ui μ 10 k.toNatClampNeg ((μ.1 10 k.toNatClampNeg) + n)).1 11 k.toNatClampNeg) + n), .int k, .ref 11]) (μ' := z_ui μ 10 k.toNatClampNeg ((μ.1 10 k.toNatClampNeg) + n)) (by rfl) ?_
    refine zq_iast hc hH (by rfl) 34 (by decide +kernel) (hk) ?_
    refine z_rcs hc hH 6 (pc' := 37) (lv' := [(0, .ref 9), (1, .int k), (2, .int n)]) (st' := []) (μ' := z_ui (z_ui (z_ui μ 10 k.toNatClampNeg ((μ.1 10 k.toNatClampNeg) + n)) 11 k.toNatClampNeg (((z_ui μ 10 k.toNatClampNeg ((μ.1 10 k.toNatClampNeg) + n)).1 11 k.toNatClampNeg) + n)) 9 5 ((μ.1 9 5) + n)) (by rfl) ?_
    exact hr 0 37 _ _ _ none (by decide +kernel) (by rfl) (⟨rfl, Or.inl ⟨hk, rfl⟩⟩)
  · show Z 0 4 [(0, .ref 9), (1, .int k), (2, .int n)] [.int 0] μ
    refine z_rcs hc hH 1 (pc' := 37) (lv' := [(0, .ref 9), (1, .int k), (2, .int n)]) (st' := []) (μ' := μ) (by rfl) ?_
    exact hr 0 37 _ _ _ none (by decide +kernel) (by rfl) (⟨rfl, Or.inr ⟨hk, rfl⟩⟩)
theorem zh_X3_take : zH mi_X3_take zt_X3_take 79 3 3 := hh_X3_take
theorem fc_X3_take (d : Nat) (hd : 3 ≤ d) (μ : zM) (k n : Int32) : z_C d mi_X3_take [.ref 9, .int k, .int n] μ (fun r μ' => r = none ∧ ((vp_in k 34 ∧ μ' = z_put μ k (-n)) ∨ (¬ vp_in k 34 ∧ μ' = μ))) := by
  refine z_C_in (by decide) (by omega) (fun d' Z ed hc hr => ?_)
  have hH := zh_X3_take
  refine z_rcs hc hH 4 (pc' := 4) (lv' := [(0, .ref 9), (1, .int k), (2, .int n)]) (st' := [.int (-n), .int k, .ref 9]) (μ' := μ) (by rfl) ?_
  refine zq_call hc (z_cx_ok hH (by rfl)) (fc_X3_put d' (by omega) μ k (-n)) (by decide +kernel) (fun r9 μ9 hq => ?_)
  obtain ⟨rfl, hq⟩ := hq
  show Z 0 7 [(0, .ref 9), (1, .int k), (2, .int n)] [] μ9
  exact hr 0 7 _ _ _ none (by decide +kernel) (by rfl) (⟨rfl, hq⟩)
theorem zh_X6_lay : zH mi_X6_lay zt_X6_lay 79 6 3 := hh_X6_lay
def z_layok (μ : zM) (k n : Int32) : Prop := vp_in k 34 ∧ ¬ n < 1 ∧ n ≤ 4 ∧ ¬ 4 < μ.1 11 k.toNatClampNeg + n ∧ μ.1 9 5 + 3 * μ.1 9 4 + n ≤ 14
theorem fc_X6_lay (d : Nat) (hd : 4 ≤ d) (μ : zM) (k n : Int32) : z_C d mi_X6_lay [.ref 0, .int k, .int n] μ (fun r μ' => (r = some (.int 1) ∧ z_layok μ k n ∧ μ' = z_put μ k n) ∨ (r = some (.int 0) ∧ ¬ z_layok μ k n ∧ μ' = μ)) := by
  refine z_C_in (by decide) (by omega) (fun d' Z ed hc hr => ?_)
  have hH := zh_X6_lay
  refine z_rcs hc hH 1 (pc' := 1) (lv' := [(0, .ref 0), (1, .int k), (2, .int n)]) (st' := [.int k]) (μ' := μ) (by rfl) ?_
  refine zq_call hc (z_cx_ok hH (by rfl)) (fc_X6_isKind d' (by omega) μ k) (by decide +kernel) (fun r9 μ9 hq => ?_)
  obtain ⟨hμ9, hq⟩ := hq
  rw [hμ9]
  clear hμ9 μ9
  obtain ⟨rfl, hk⟩ | ⟨rfl, hk⟩ := hq
  · show Z 0 4 [(0, .ref 0), (1, .int k), (2, .int n)] [.int 1] μ
    refine z_rcs hc hH 3 (pc' := 9) (lv' := [(0, .ref 0), (1, .int k), (2, .int n)]) (st' := [.int 1, .int n]) (μ' := μ) (by rfl) ?_
    refine zq_ic hc hH (by rfl) (tg := 17) (by rfl) (fun h1 => ?_) (fun h1 => ?_)
    · have h1 := cm_lt.mp h1
      refine z_rcs hc hH 1 (pc' := 18) (lv' := [(0, .ref 0), (1, .int k), (2, .int n)]) (st' := [.int 0]) (μ' := μ) (by rfl) ?_
      exact hr 0 18 _ _ _ (some (.int 0)) (by decide +kernel) (z_rx_ok hH (by rfl)) (Or.inr ⟨rfl, fun q => by first | exact q.2.1 h1 | exact h1 q.2.1, rfl⟩)
    · have h1 := cn_lt.mp h1
      refine z_rcs hc hH 2 (pc' := 14) (lv' := [(0, .ref 0), (1, .int k), (2, .int n)]) (st' := [.int 4, .int n]) (μ' := μ) (by rfl) ?_
      refine zq_ic hc hH (by rfl) (tg := 19) (by rfl) (fun h2 => ?_) (fun h2 => ?_)
      · have h2 := cm_le.mp h2
        refine z_rcs hc hH 3 (pc' := 24) (lv' := [(0, .ref 0), (1, .int k), (2, .int n)]) (st' := [.int k, .ref 9]) (μ' := μ) (by rfl) ?_
        refine zq_call hc (z_cx_ok hH (by rfl)) (fc_X3_all d' (by omega) μ k) (by decide +kernel) (fun r9 μ9 hq => ?_)
        obtain ⟨hμ9, hq⟩ := hq
        rw [hμ9]
        clear hμ9 μ9
        obtain ⟨-, rfl⟩ | ⟨hq, -⟩ := hq
        · show Z 0 27 [(0, .ref 0), (1, .int k), (2, .int n)] [.int (μ.1 11 k.toNatClampNeg)] μ
          refine z_rcs hc hH 3 (pc' := 30) (lv' := [(0, .ref 0), (1, .int k), (2, .int n)]) (st' := [.int 4, .int ((μ.1 11 k.toNatClampNeg) + n)]) (μ' := μ) (by rfl) ?_
          refine zq_ic hc hH (by rfl) (tg := 47) (by rfl) (fun h3 => ?_) (fun h3 => ?_)
          · have h3 := cm_gt.mp h3
            refine z_rcs hc hH 1 (pc' := 48) (lv' := [(0, .ref 0), (1, .int k), (2, .int n)]) (st' := [.int 0]) (μ' := μ) (by rfl) ?_
            exact hr 0 48 _ _ _ (some (.int 0)) (by decide +kernel) (z_rx_ok hH (by rfl)) (Or.inr ⟨rfl, fun q => by first | exact q.2.2.2.1 h3 | exact h3 q.2.2.2.1, rfl⟩)
          · have h3 := cn_gt.mp h3
            refine z_rcs hc hH 2 (pc' := 37) (lv' := [(0, .ref 0), (1, .int k), (2, .int n)]) (st' := [.ref 9]) (μ' := μ) (by rfl) ?_
            refine zq_call hc (z_cx_ok hH (by rfl)) (fc_X3_size d' (by omega) μ) (by decide +kernel) (fun r9 μ9 hq => ?_)
            obtain ⟨hμ9, rfl⟩ := hq
            rw [hμ9]
            clear hμ9 μ9
            show Z 0 40 [(0, .ref 0), (1, .int k), (2, .int n)] [.int (μ.1 9 5 + 3 * μ.1 9 4)] μ
            refine z_rcs hc hH 3 (pc' := 44) (lv' := [(0, .ref 0), (1, .int k), (2, .int n)]) (st' := [.int 14, .int ((μ.1 9 5 + 3 * μ.1 9 4) + n)]) (μ' := μ) (by rfl) ?_
            refine zq_ic hc hH (by rfl) (tg := 49) (by rfl) (fun h4 => ?_) (fun h4 => ?_)
            · have h4 := cm_le.mp h4
              refine z_rcs hc hH 4 (pc' := 55) (lv' := [(0, .ref 0), (1, .int k), (2, .int n)]) (st' := [.int n, .int k, .ref 9]) (μ' := μ) (by rfl) ?_
              refine zq_call hc (z_cx_ok hH (by rfl)) (fc_X3_put d' (by omega) μ k n) (by decide +kernel) (fun r9 μ9 hq => ?_)
              obtain ⟨rfl, ⟨-, rfl⟩ | ⟨hq, -⟩⟩ := hq
              · show Z 0 58 [(0, .ref 0), (1, .int k), (2, .int n)] [] (z_put μ k n)
                refine z_rcs hc hH 1 (pc' := 59) (lv' := [(0, .ref 0), (1, .int k), (2, .int n)]) (st' := [.int 1]) (μ' := z_put μ k n) (by rfl) ?_
                exact hr 0 59 _ _ _ (some (.int 1)) (by decide +kernel) (z_rx_ok hH (by rfl)) (Or.inl ⟨rfl, ⟨hk, h1, h2, h3, h4⟩, rfl⟩)
              · exact absurd hk hq
            · have h4 := cn_le.mp h4
              refine z_rcs hc hH 1 (pc' := 48) (lv' := [(0, .ref 0), (1, .int k), (2, .int n)]) (st' := [.int 0]) (μ' := μ) (by rfl) ?_
              exact hr 0 48 _ _ _ (some (.int 0)) (by decide +kernel) (z_rx_ok hH (by rfl)) (Or.inr ⟨rfl, fun q => by first | exact q.2.2.2.2 h4 | exact h4 q.2.2.2.2, rfl⟩)
        · exact absurd hk hq
      · have h2 := cn_le.mp h2
        refine z_rcs hc hH 1 (pc' := 18) (lv' := [(0, .ref 0), (1, .int k), (2, .int n)]) (st' := [.int 0]) (μ' := μ) (by rfl) ?_
        exact hr 0 18 _ _ _ (some (.int 0)) (by decide +kernel) (z_rx_ok hH (by rfl)) (Or.inr ⟨rfl, fun q => by first | exact q.2.2.1 h2 | exact h2 q.2.2.1, rfl⟩)
  · show Z 0 4 [(0, .ref 0), (1, .int k), (2, .int n)] [.int 0] μ
    refine z_rcs hc hH 2 (pc' := 18) (lv' := [(0, .ref 0), (1, .int k), (2, .int n)]) (st' := [.int 0]) (μ' := μ) (by rfl) ?_
    exact hr 0 18 _ _ _ (some (.int 0)) (by decide +kernel) (z_rx_ok hH (by rfl)) (Or.inr ⟨rfl, fun q => hk q.1, rfl⟩)

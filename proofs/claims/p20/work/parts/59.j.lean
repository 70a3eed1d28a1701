/-! the small methods of the model's game -/
theorem vp_in_bI {x : Int32} {n : Nat} {b : aB} (h : a_bi b x) (hb : 0 ≤ b.1 ∧ b.2 < n) : vp_in x n := vp_in_iff.mpr ⟨by have := h.1; omega, by have := h.2; omega⟩
theorem a_md_row {md : List (Nat × Nat)} {r k : Nat} (h : (md.all (fun q => !Nat.beq q.1 r)) = true) : a_md md r k = false := by
  unfold a_md
  rw [List.any_eq_false]
  intro q hq
  have := List.all_eq_true.mp h q hq
  rw [Bool.not_eq_true'] at this
  rw [this, Bool.false_and]
  decide
theorem bd_nI {n : Nat} {lo hi : Int} (h : n < 2 ^ 31) (h1 : lo ≤ n ∧ n ≤ hi) : bI lo hi (nI n) := bI_w (bI_k (nI_toInt h)) h1
theorem nI_ml (a b : Nat) : nI a * nI b = nI (a * b) := (Int32.ofNat_mul a b).symm
theorem nI_34 (a c : Nat) : (34 : Int32) * nI a + nI c = nI (34 * a + c) := by
  rw [show (34 : Int32) = nI 34 from rfl, nI_ml, nI_add]
theorem nI_4q (a q : Nat) : (4 : Int32) * nI a + nI q = nI (4 * a + q) := by
  rw [show (4 : Int32) = nI 4 from rfl, nI_ml, nI_add]
noncomputable def z_giv (μ : zM) (a c : Nat) (n : Int32) : zM := z_ui μ 60 (34 * a + c) (μ.1 60 (34 * a + c) + n)
theorem zh_X7_gives : zH mi_X7_gives zt_X7_gives 79 7 4 := hh_X7_gives
theorem fc_X7_gives (d : Nat) (hd : 1 ≤ d) (μ : zM) (a c : Nat) (n : Int32) (ha : a < 4) (hc4 : c < 34) : z_C d mi_X7_gives [.ref 50, .int (nI a), .int (nI c), .int n] μ (fun r μ' => r = none ∧ μ' = z_giv μ a c n) := by
  refine z_C_in (by decide) (by omega) (fun d' Z ed hc hr => ?_)
  have hH := zh_X7_gives
  refine z_rcs hc hH 7 (pc' := 10) (lv' := [(0, .ref 50), (1, .int (nI a)), (2, .int (nI c)), (3, .int n)]) (st' := [.int ((34 * (nI a)) + (nI c)), .ref 60]) (μ' := μ) (by rfl) ?_
  rw [nI_34]
  refine z_rcs hc hH 1 (pc' := 11) (lv' := [(0, .ref 50), (1, .int (nI a)), (2, .int (nI c)), (3, .int n)]) (st' := [.int (nI (34 * a + c)), .ref 60, .int (nI (34 * a + c)), .ref 60]) (μ' := μ) (by rfl) ?_
  refine zq_iald hc hH (by rfl) 136 (by decide +kernel) (vp_in_nI (by omega) (by decide)) ?_
  refine z_rcs hc hH 2 (pc' := 14) (lv' := [(0, .ref 50), (1, .int (nI a)), (2, .int (nI c)), (3, .int n)]) (st' := [.int ((μ.1 60 (nI (34 * a + c)).toNatClampNeg) + n), .int (nI (34 * a + c)), .ref 60]) (μ' := μ) (by rfl) ?_
  refine zq_iast hc hH (by rfl) 136 (by decide +kernel) (vp_in_nI (by omega) (by decide)) ?_
  exact hr 0 15 _ _ _ none (by decide +kernel) (by rfl) (⟨rfl, by rw [nI_clamp (by omega)]; rfl⟩)
theorem zh_X7_has_ : zH mi_X7_has_ zt_X7_has_ 79 7 3 := hh_X7_has_
theorem fc_X7_has_ (d : Nat) (hd : 1 ≤ d) (μ : zM) (a c : Nat) (ha : a < 4) (hc4 : c < 34) : z_C d mi_X7_has_ [.ref 50, .int (nI a), .int (nI c)] μ (zR μ (.int (μ.1 60 (34 * a + c)))) := by
  refine z_C_in (by decide) (by omega) (fun d' Z ed hc hr => ?_)
  have hH := zh_X7_has_
  refine z_rcs hc hH 7 (pc' := 10) (lv' := [(0, .ref 50), (1, .int (nI a)), (2, .int (nI c))]) (st' := [.int ((34 * (nI a)) + (nI c)), .ref 60]) (μ' := μ) (by rfl) ?_
  rw [nI_34]
  refine zq_iald hc hH (by rfl) 136 (by decide +kernel) (vp_in_nI (by omega) (by decide)) ?_
  exact hr 0 11 _ _ _ (some (.int (μ.1 60 (nI (34 * a + c)).toNatClampNeg))) (by decide +kernel) (z_rx_ok hH (by rfl)) (⟨rfl, by rw [nI_clamp (by omega)]⟩)
theorem zh_X7_left : zH mi_X7_left zt_X7_left 79 7 1 := hh_X7_left
theorem fc_X7_left (d : Nat) (hd : 1 ≤ d) (μ : zM) : z_C d mi_X7_left [.ref 50] μ (zR μ (.int (122 - μ.1 50 47 - μ.1 50 46))) := by
  refine z_C_in (by decide) (by omega) (fun d' Z ed hc hr => ?_)
  have hH := zh_X7_left
  refine z_rcs hc hH 7 (pc' := 12) (lv' := [(0, .ref 50)]) (st' := [.int ((122 - (μ.1 50 47)) - (μ.1 50 46))]) (μ' := μ) (by rfl) ?_
  exact hr 0 12 _ _ _ (some (.int ((122 - (μ.1 50 47)) - (μ.1 50 46)))) (by decide +kernel) (z_rx_ok hH (by rfl)) (⟨rfl, rfl⟩)
theorem zh_X7_isSeat : zH mi_X7_isSeat zt_X7_isSeat 79 7 1 := hh_X7_isSeat
theorem fc_X7_isSeat (d : Nat) (hd : 1 ≤ d) (μ : zM) (s : Int32) : z_C d mi_X7_isSeat [.int s] μ (zB μ (vp_in s 4)) := by
  refine z_C_in (by decide) (by omega) (fun d' Z ed hc hr => ?_)
  have hH := zh_X7_isSeat
  refine z_rcs hc hH 1 (pc' := 1) (lv' := [(0, .int s)]) (st' := [.int s]) (μ' := μ) (by rfl) ?_
  refine zq_if hc hH (by rfl) (tg := 13) (by rfl) (fun h1 => ?_) (fun h1 => ?_)
  · have h1 := cm_lt.mp h1
    refine z_rcs hc hH 1 (pc' := 14) (lv' := [(0, .int s)]) (st' := [.int 0]) (μ' := μ) (by rfl) ?_
    exact hr 0 14 _ _ _ (some (.int 0)) (by decide +kernel) (z_rx_ok hH (by rfl)) (⟨rfl, Or.inr ⟨rfl, nin_lt h1⟩⟩)
  · have h1 := cn_lt.mp h1
    refine z_rcs hc hH 2 (pc' := 6) (lv' := [(0, .int s)]) (st' := [.int 4, .int s]) (μ' := μ) (by rfl) ?_
    refine zq_ic hc hH (by rfl) (tg := 13) (by rfl) (fun h2 => ?_) (fun h2 => ?_)
    · have h2 := cm_ge.mp h2
      refine z_rcs hc hH 1 (pc' := 14) (lv' := [(0, .int s)]) (st' := [.int 0]) (μ' := μ) (by rfl) ?_
      exact hr 0 14 _ _ _ (some (.int 0)) (by decide +kernel) (z_rx_ok hH (by rfl)) (⟨rfl, Or.inr ⟨rfl, nin_ge (M := 4) rfl h2⟩⟩)
    · have h2 := cn_ge.mp h2
      refine z_rcs hc hH 2 (pc' := 14) (lv' := [(0, .int s)]) (st' := [.int 1]) (μ' := μ) (by rfl) ?_
      exact hr 0 14 _ _ _ (some (.int 1)) (by decide +kernel) (z_rx_ok hH (by rfl)) (⟨rfl, Or.inl ⟨rfl, in_of (M := 4) rfl h1 h2⟩⟩)
theorem zh_X7_mayClaim : zH mi_X7_mayClaim zt_X7_mayClaim 79 7 2 := hh_X7_mayClaim
theorem fc_X7_mayClaim (d : Nat) (hd : 701 ≤ d) (μ : zM) (s : Int32) (ha : a_H μ) : z_C d mi_X7_mayClaim [.ref 50, .int s] μ (fun r μ' => μ' = μ ∧ ((r = some (.int 1) ∧ μ.1 50 44 = 2 ∧ ¬ 122 - μ.1 50 47 - μ.1 50 46 ≤ 0 ∧ vp_in s 4 ∧ ¬ s = μ.1 50 45) ∨ r = some (.int 0))) := by
  refine z_C_in (by decide) (by omega) (fun d' Z ed hc hr => ?_)
  have hH := zh_X7_mayClaim
  refine z_rcs hc hH 3 (pc' := 5) (lv' := [(0, .ref 50), (1, .int s)]) (st' := [.int 2, .int (μ.1 50 44)]) (μ' := μ) (by rfl) ?_
  refine zq_ic hc hH (by rfl) (tg := 50) (by rfl) (fun h1 => ?_) (fun h1 => ?_)
  · have h1 := cm_ne.mp h1
    refine z_rcs hc hH 1 (pc' := 51) (lv' := [(0, .ref 50), (1, .int s)]) (st' := [.int 0]) (μ' := μ) (by rfl) ?_
    exact hr 0 51 _ _ _ (some (.int 0)) (by decide +kernel) (z_rx_ok hH (by rfl)) (⟨rfl, Or.inr rfl⟩)
  · have h1 := cn_ne.mp h1
    refine z_rcs hc hH 1 (pc' := 9) (lv' := [(0, .ref 50), (1, .int s)]) (st' := [.ref 50]) (μ' := μ) (by rfl) ?_
    refine zq_call hc (z_cx_ok hH (by rfl)) (bs_X7_anySays (by omega) [.ref 50] μ (aArg_pre ⟨⟨50, by decide, rfl⟩, trivial⟩ rfl) ha) (by decide +kernel) (fun r9 μ9 hq => ?_)
    obtain ⟨-, hz, hr9⟩ := hq
    obtain ⟨v9, rfl, x9, rfl, -⟩ := hr9
    rw [a_Fz_nil hz]
    clear hz μ9
    show Z 0 12 [(0, .ref 50), (1, .int s)] [.int x9] μ
    refine zq_if hc hH (by rfl) (tg := 50) (by rfl) (fun h2 => ?_) (fun h2 => ?_)
    · have h2 := cm_ne.mp h2
      refine z_rcs hc hH 1 (pc' := 51) (lv' := [(0, .ref 50), (1, .int s)]) (st' := [.int 0]) (μ' := μ) (by rfl) ?_
      exact hr 0 51 _ _ _ (some (.int 0)) (by decide +kernel) (z_rx_ok hH (by rfl)) (⟨rfl, Or.inr rfl⟩)
    · have h2 := cn_ne.mp h2
      refine z_rcs hc hH 1 (pc' := 16) (lv' := [(0, .ref 50), (1, .int s)]) (st' := [.ref 50]) (μ' := μ) (by rfl) ?_
      refine zq_call hc (z_cx_ok hH (by rfl)) (fc_X7_left d' (by omega) μ) (by decide +kernel) (fun r9 μ9 hq => ?_)
      obtain ⟨hμ9, rfl⟩ := hq
      rw [hμ9]
      clear hμ9 μ9
      show Z 0 19 [(0, .ref 50), (1, .int s)] [.int ((122 - μ.1 50 47) - μ.1 50 46)] μ
      refine zq_if hc hH (by rfl) (tg := 50) (by rfl) (fun h3 => ?_) (fun h3 => ?_)
      · have h3 := cm_le.mp h3
        refine z_rcs hc hH 1 (pc' := 51) (lv' := [(0, .ref 50), (1, .int s)]) (st' := [.int 0]) (μ' := μ) (by rfl) ?_
        exact hr 0 51 _ _ _ (some (.int 0)) (by decide +kernel) (z_rx_ok hH (by rfl)) (⟨rfl, Or.inr rfl⟩)
      · have h3 := cn_le.mp h3
        refine z_rcs hc hH 1 (pc' := 23) (lv' := [(0, .ref 50), (1, .int s)]) (st' := [.int s]) (μ' := μ) (by rfl) ?_
        refine zq_call hc (z_cx_ok hH (by rfl)) (fc_X7_isSeat d' (by omega) μ s) (by decide +kernel) (fun r9 μ9 hq => ?_)
        obtain ⟨hμ9, hq⟩ := hq
        rw [hμ9]
        clear hμ9 μ9
        obtain ⟨rfl, hk⟩ | ⟨rfl, hk⟩ := hq
        · show Z 0 26 [(0, .ref 50), (1, .int s)] [.int 1] μ
          refine z_rcs hc hH 4 (pc' := 34) (lv' := [(0, .ref 50), (1, .int s)]) (st' := [.int (μ.1 50 45), .int s]) (μ' := μ) (by rfl) ?_
          refine zq_ic hc hH (by rfl) (tg := 50) (by rfl) (fun h4 => ?_) (fun h4 => ?_)
          · have h4 := cm_eq9.mp h4
            refine z_rcs hc hH 1 (pc' := 51) (lv' := [(0, .ref 50), (1, .int s)]) (st' := [.int 0]) (μ' := μ) (by rfl) ?_
            exact hr 0 51 _ _ _ (some (.int 0)) (by decide +kernel) (z_rx_ok hH (by rfl)) (⟨rfl, Or.inr rfl⟩)
          · have h4 := cn_eq.mp h4
            refine z_rcs hc hH 3 (pc' := 42) (lv' := [(0, .ref 50), (1, .int s)]) (st' := [.int s, .ref 67]) (μ' := μ) (by rfl) ?_
            refine zq_iald hc hH (by rfl) 4 (by decide +kernel) (hk) ?_
            refine zq_if hc hH (by rfl) (tg := 50) (by rfl) (fun h5 => ?_) (fun h5 => ?_)
            · have h5 := cm_ne.mp h5
              refine z_rcs hc hH 1 (pc' := 51) (lv' := [(0, .ref 50), (1, .int s)]) (st' := [.int 0]) (μ' := μ) (by rfl) ?_
              exact hr 0 51 _ _ _ (some (.int 0)) (by decide +kernel) (z_rx_ok hH (by rfl)) (⟨rfl, Or.inr rfl⟩)
            · have h5 := cn_ne.mp h5
              refine z_rcs hc hH 2 (pc' := 51) (lv' := [(0, .ref 50), (1, .int s)]) (st' := [.int 1]) (μ' := μ) (by rfl) ?_
              exact hr 0 51 _ _ _ (some (.int 1)) (by decide +kernel) (z_rx_ok hH (by rfl)) (⟨rfl, Or.inl ⟨rfl, h1, h3, hk, h4⟩⟩)
        · show Z 0 26 [(0, .ref 50), (1, .int s)] [.int 0] μ
          refine z_rcs hc hH 2 (pc' := 51) (lv' := [(0, .ref 50), (1, .int s)]) (st' := [.int 0]) (μ' := μ) (by rfl) ?_
          exact hr 0 51 _ _ _ (some (.int 0)) (by decide +kernel) (z_rx_ok hH (by rfl)) (⟨rfl, Or.inr rfl⟩)
theorem zh_X7_mayMake : zH mi_X7_mayMake zt_X7_mayMake 79 7 1 := hh_X7_mayMake
theorem fc_X7_mayMake (d : Nat) (hd : 2 ≤ d) (μ : zM) (ha : a_H μ) : z_C d mi_X7_mayMake [.ref 50] μ (fun r μ' => μ' = μ ∧ ((r = some (.int 1) ∧ μ.1 50 44 = 1 ∧ μ.1 50 57 = 0 ∧ ¬ 122 - μ.1 50 47 - μ.1 50 46 ≤ 0 ∧ ¬ 4 ≤ μ.1 50 47) ∨ r = some (.int 0))) := by
  refine z_C_in (by decide) (by omega) (fun d' Z ed hc hr => ?_)
  have hH := zh_X7_mayMake
  refine z_rcs hc hH 3 (pc' := 5) (lv' := [(0, .ref 50)]) (st' := [.int 1, .int (μ.1 50 44)]) (μ' := μ) (by rfl) ?_
  refine zq_ic hc hH (by rfl) (tg := 46) (by rfl) (fun h1 => ?_) (fun h1 => ?_)
  · have h1 := cm_ne.mp h1
    refine z_rcs hc hH 1 (pc' := 47) (lv' := [(0, .ref 50)]) (st' := [.int 0]) (μ' := μ) (by rfl) ?_
    exact hr 0 47 _ _ _ (some (.int 0)) (by decide +kernel) (z_rx_ok hH (by rfl)) (⟨rfl, Or.inr rfl⟩)
  · have h1 := cn_ne.mp h1
    refine z_rcs hc hH 2 (pc' := 12) (lv' := [(0, .ref 50)]) (st' := [.int (μ.1 50 57)]) (μ' := μ) (by rfl) ?_
    refine zq_if hc hH (by rfl) (tg := 46) (by rfl) (fun h2 => ?_) (fun h2 => ?_)
    · have h2 := cm_ne.mp h2
      refine z_rcs hc hH 1 (pc' := 47) (lv' := [(0, .ref 50)]) (st' := [.int 0]) (μ' := μ) (by rfl) ?_
      exact hr 0 47 _ _ _ (some (.int 0)) (by decide +kernel) (z_rx_ok hH (by rfl)) (⟨rfl, Or.inr rfl⟩)
    · have h2 := cn_ne.mp h2
      refine z_rcs hc hH 4 (pc' := 23) (lv' := [(0, .ref 50)]) (st' := [.int (μ.1 50 45), .ref 67]) (μ' := μ) (by rfl) ?_
      refine zq_iald hc hH (by rfl) 4 (by decide +kernel) (vp_in_bI (ha 50 45) (by decide)) ?_
      refine zq_if hc hH (by rfl) (tg := 46) (by rfl) (fun h3 => ?_) (fun h3 => ?_)
      · have h3 := cm_ne.mp h3
        refine z_rcs hc hH 1 (pc' := 47) (lv' := [(0, .ref 50)]) (st' := [.int 0]) (μ' := μ) (by rfl) ?_
        exact hr 0 47 _ _ _ (some (.int 0)) (by decide +kernel) (z_rx_ok hH (by rfl)) (⟨rfl, Or.inr rfl⟩)
      · have h3 := cn_ne.mp h3
        refine z_rcs hc hH 1 (pc' := 28) (lv' := [(0, .ref 50)]) (st' := [.ref 50]) (μ' := μ) (by rfl) ?_
        refine zq_call hc (z_cx_ok hH (by rfl)) (fc_X7_left d' (by omega) μ) (by decide +kernel) (fun r9 μ9 hq => ?_)
        obtain ⟨hμ9, rfl⟩ := hq
        rw [hμ9]
        clear hμ9 μ9
        show Z 0 31 [(0, .ref 50)] [.int ((122 - μ.1 50 47) - μ.1 50 46)] μ
        refine zq_if hc hH (by rfl) (tg := 46) (by rfl) (fun h4 => ?_) (fun h4 => ?_)
        · have h4 := cm_le.mp h4
          refine z_rcs hc hH 1 (pc' := 47) (lv' := [(0, .ref 50)]) (st' := [.int 0]) (μ' := μ) (by rfl) ?_
          exact hr 0 47 _ _ _ (some (.int 0)) (by decide +kernel) (z_rx_ok hH (by rfl)) (⟨rfl, Or.inr rfl⟩)
        · have h4 := cn_le.mp h4
          refine z_rcs hc hH 3 (pc' := 39) (lv' := [(0, .ref 50)]) (st' := [.int 4, .int (μ.1 50 47)]) (μ' := μ) (by rfl) ?_
          refine zq_ic hc hH (by rfl) (tg := 46) (by rfl) (fun h5 => ?_) (fun h5 => ?_)
          · have h5 := cm_ge.mp h5
            refine z_rcs hc hH 1 (pc' := 47) (lv' := [(0, .ref 50)]) (st' := [.int 0]) (μ' := μ) (by rfl) ?_
            exact hr 0 47 _ _ _ (some (.int 0)) (by decide +kernel) (z_rx_ok hH (by rfl)) (⟨rfl, Or.inr rfl⟩)
          · have h5 := cn_ge.mp h5
            refine z_rcs hc hH 2 (pc' := 47) (lv' := [(0, .ref 50)]) (st' := [.int 1]) (μ' := μ) (by rfl) ?_
            exact hr 0 47 _ _ _ (some (.int 1)) (by decide +kernel) (z_rx_ok hH (by rfl)) (⟨rfl, Or.inl ⟨rfl, h1, h2, h4, h5⟩⟩)
theorem zh_X7_lays : zH mi_X7_lays zt_X7_lays 79 7 4 := hh_X7_lays
noncomputable def z_lys (μ : zM) (a q : Nat) (so k : Int32) : zM := z_ui (z_ui (z_ui μ 62 (4 * a + q) so) 63 (4 * a + q) k) 64 a (nI (q + 1))
theorem fc_X7_lays (d : Nat) (hd : 1 ≤ d) (μ : zM) (a q : Nat) (so k : Int32) (ha : a < 4) (hq : q < 4) (e : μ.1 64 a = nI q) : z_C d mi_X7_lays [.ref 50, .int (nI a), .int so, .int k] μ (fun r μ' => r = none ∧ μ' = z_lys μ a q so k) := by
  refine z_C_in (by decide) (by omega) (fun d' Z ed hc hr => ?_)
  have hH := zh_X7_lays
  refine z_rcs hc hH 8 (pc' := 12) (lv' := [(0, .ref 50), (1, .int (nI a)), (2, .int so), (3, .int k)]) (st' := [.int (nI a), .ref 64, .int (4 * (nI a)), .ref 62]) (μ' := μ) (by rfl) ?_
  refine zq_iald hc hH (by rfl) 4 (by decide +kernel) (vp_in_nI (by omega) (by decide)) ?_
  rw [nI_clamp (n := a) (by omega)]
  rw [show (μ).1 64 a = nI q from e]
  refine z_rcs hc hH 1 (pc' := 14) (lv' := [(0, .ref 50), (1, .int (nI a)), (2, .int so), (3, .int k)]) (st' := [.int ((4 * (nI a)) + (nI q)), .ref 62]) (μ' := μ) (by rfl) ?_
  rw [nI_4q]
  refine z_rcs hc hH 1 (pc' := 15) (lv' := [(0, .ref 50), (1, .int (nI a)), (2, .int so), (3, .int k)]) (st' := [.int so, .int (nI (4 * a + q)), .ref 62]) (μ' := μ) (by rfl) ?_
  refine zq_iast hc hH (by rfl) 16 (by decide +kernel) (vp_in_nI (by omega) (by decide)) ?_
  refine z_rcs hc hH 8 (pc' := 28) (lv' := [(0, .ref 50), (1, .int (nI a)), (2, .int so), (3, .int k)]) (st' := [.int (nI a), .ref 64, .int (4 * (nI a)), .ref 63]) (μ' := z_ui μ 62 ((nI (4 * a + q)).toNatClampNeg) so) (by rfl) ?_
  refine zq_iald hc hH (by rfl) 4 (by decide +kernel) (vp_in_nI (by omega) (by decide)) ?_
  rw [nI_clamp (n := a) (by omega)]
  rw [show (z_ui μ 62 ((nI (4 * a + q)).toNatClampNeg) so).1 64 a = nI q from e]
  refine z_rcs hc hH 1 (pc' := 30) (lv' := [(0, .ref 50), (1, .int (nI a)), (2, .int so), (3, .int k)]) (st' := [.int ((4 * (nI a)) + (nI q)), .ref 63]) (μ' := z_ui μ 62 ((nI (4 * a + q)).toNatClampNeg) so) (by rfl) ?_
  rw [nI_4q]
  refine z_rcs hc hH 1 (pc' := 31) (lv' := [(0, .ref 50), (1, .int (nI a)), (2, .int so), (3, .int k)]) (st' := [.int k, .int (nI (4 * a + q)), .ref 63]) (μ' := z_ui μ 62 ((nI (4 * a + q)).toNatClampNeg) so) (by rfl) ?_
  refine zq_iast hc hH (by rfl) 16 (by decide +kernel) (vp_in_nI (by omega) (by decide)) ?_
  refine z_rcs hc hH 4 (pc' := 38) (lv' := [(0, .ref 50), (1, .int (nI a)), (2, .int so), (3, .int k)]) (st' := [.int (nI a), .ref 64, .int (nI a), .ref 64]) (μ' := z_ui (z_ui μ 62 ((nI (4 * a + q)).toNatClampNeg) so) 63 ((nI (4 * a + q)).toNatClampNeg) k) (by rfl) ?_
  refine zq_iald hc hH (by rfl) 4 (by decide +kernel) (vp_in_nI (by omega) (by decide)) ?_
  rw [nI_clamp (n := a) (by omega)]
  rw [show (z_ui (z_ui μ 62 ((nI (4 * a + q)).toNatClampNeg) so) 63 ((nI (4 * a + q)).toNatClampNeg) k).1 64 a = nI q from e]
  refine z_rcs hc hH 2 (pc' := 41) (lv' := [(0, .ref 50), (1, .int (nI a)), (2, .int so), (3, .int k)]) (st' := [.int ((nI q) + 1), .int (nI a), .ref 64]) (μ' := z_ui (z_ui μ 62 ((nI (4 * a + q)).toNatClampNeg) so) 63 ((nI (4 * a + q)).toNatClampNeg) k) (by rfl) ?_
  refine zq_iast hc hH (by rfl) 4 (by decide +kernel) (vp_in_nI (by omega) (by decide)) ?_
  exact hr 0 42 _ _ _ none (by decide +kernel) (by rfl) (⟨rfl, by rw [nI_clamp (n := 4 * a + q) (by omega), nI_clamp (n := a) (by omega), nI_1]; rfl⟩)
theorem zh_X7_claims : zH mi_X7_claims zt_X7_claims 79 7 4 := hh_X7_claims
noncomputable abbrev md_claims : List (Nat × Nat) := [(50, 44), (50, 45), (50, 49), (50, 56), (50, 57), (50, 58), (62, 9999), (63, 9999), (64, 9999), (69, 9999)]
theorem fc_X7_claims (d : Nat) (hd : 700 ≤ d) (μ : zM) (a q : Nat) (so k : Int32) (ha : a < 4) (hq4 : q < 4) (e : μ.1 64 a = nI q) (hH0 : a_H μ) : z_C d mi_X7_claims [.ref 50, .int (nI a), .int so, .int k] μ (fun r μ' => r = none ∧ a_H μ' ∧ a_Fz md_claims μ μ' ∧ μ'.1 50 44 = 1 ∧ μ'.1 50 45 = nI a ∧ μ'.1 50 49 = -1 ∧ μ'.1 50 57 = 1 ∧ ∀ i, μ'.1 64 i = if i = a then nI (q + 1) else μ.1 64 i) := by
  refine z_C_in (by decide) (by omega) (fun d' Z ed hc hr => ?_)
  have hH := zh_X7_claims
  refine z_rcs hc hH 4 (pc' := 4) (lv' := [(0, .ref 50), (1, .int (nI a)), (2, .int so), (3, .int k)]) (st' := [.int k, .int so, .int (nI a), .ref 50]) (μ' := μ) (by rfl) ?_
  refine zq_call hc (z_cx_ok hH (by rfl)) (fc_X7_lays d' (by omega) μ a q so k ha hq4 e) (by decide +kernel) (fun r9 μ9 hq => ?_)
  obtain ⟨rfl, rfl⟩ := hq
  have hH1 : a_H (z_lys μ a q so k) := a_H_ui (a_H_ui (a_H_ui hH0 (bI_top _)) (bI_top _)) (show bI 0 4 _ from bd_nI (by omega) ⟨by omega, by omega⟩)
  show Z 0 7 [(0, .ref 50), (1, .int (nI a)), (2, .int so), (3, .int k)] [] (z_lys μ a q so k)
  refine z_rcs hc hH 1 (pc' := 8) (lv' := [(0, .ref 50), (1, .int (nI a)), (2, .int so), (3, .int k)]) (st' := [.ref 50]) (μ' := z_lys μ a q so k) (by rfl) ?_
  refine zq_call hc (z_cx_ok hH (by rfl)) (a_use (i := 123) (K := ak_123) rfl (by omega) [.ref 50] _ (aArg_pre ⟨⟨50, by decide, rfl⟩, trivial⟩ rfl) hH1) (by decide +kernel) (fun r9 μ9 hq => ?_)
  obtain ⟨hH2, hz, rfl⟩ := hq
  show Z 0 11 [(0, .ref 50), (1, .int (nI a)), (2, .int so), (3, .int k)] [] μ9
  refine z_rcs hc hH 15 (pc' := 36) (lv' := [(0, .ref 50), (1, .int (nI a)), (2, .int so), (3, .int k)]) (st' := []) (μ' := z_ui (z_ui (z_ui (z_ui (z_ui μ9 50 45 (nI a)) 50 44 1) 50 49 (-1)) 50 57 1) 50 58 0) (by rfl) ?_
  refine hr 0 36 _ _ _ none (by decide +kernel) (by rfl) (⟨rfl, (a_H_ui (a_H_ui (a_H_ui (a_H_ui (a_H_ui hH2 (show bI 0 3 _ from bd_nI (by omega) ⟨by omega, by omega⟩)) (⟨by decide, by decide⟩)) (⟨by decide, by decide⟩)) (⟨by decide, by decide⟩)) (⟨by decide, by decide⟩)), (a_Fz_ui (a_Fz_ui (a_Fz_ui (a_Fz_ui (a_Fz_ui (a_Fz_tr (m1 := ak_123.2.2.2.1) (by decide +kernel) (a_Fz_ui (a_Fz_ui (a_Fz_ui (a_Fz_rf _ _) (a_mda_md (by decide +kernel) _)) (a_mda_md (by decide +kernel) _)) (a_mda_md (by decide +kernel) _)) hz) (by decide +kernel)) (by decide +kernel)) (by decide +kernel)) (by decide +kernel)) (by decide +kernel)), rfl, rfl, rfl, rfl, fun i => ?_⟩)
  show μ9.1 64 i = _
  rw [a_Fz_at hz 64 i (a_md_row (by decide +kernel))]
  unfold z_lys
  rw [z_ui_rd, z_ui_rd, if_neg (c := 64 = 63 ∧ _) (by omega), z_ui_rd, if_neg (c := 64 = 62 ∧ _) (by omega)]
  by_cases ei : i = a
  · rw [if_pos ⟨rfl, ei⟩, if_pos ei]
  · rw [if_neg (fun z => ei z.2), if_neg ei]
/-! the model draws, writes a win, pays -/
noncomputable def GW (μ : zM) : Prop := ∀ i, i < 4 → bI 0 3 (μ.1 72 (7 * i))
theorem c7 {w j : Nat} (hw : w < 4) (hj : j < 7) : ((7 : Int32) * nI w + nI j).toNatClampNeg = 7 * w + j := by
  rw [show (7 : Int32) = nI 7 from rfl, nI_ml, nI_add, nI_clamp (by omega)]
theorem c70 {w : Nat} (hw : w < 4) : ((7 : Int32) * nI w).toNatClampNeg = 7 * w := by
  rw [show (7 : Int32) = nI 7 from rfl, nI_ml, nI_clamp (by omega)]
theorem in7 {w j : Nat} (hw : w < 4) (hj : j < 7) : vp_in ((7 : Int32) * nI w + nI j) 28 := by
  rw [show (7 : Int32) = nI 7 from rfl, nI_ml, nI_add]
  exact vp_in_nI (by omega) (by decide)
theorem in70 {w : Nat} (hw : w < 4) : vp_in ((7 : Int32) * nI w) 28 := by
  rw [show (7 : Int32) = nI 7 from rfl, nI_ml]
  exact vp_in_nI (by omega) (by decide)
theorem GW_ui {μ : zM} {n : Nat} {x : Int32} (h : GW μ) (hx : n % 7 ≠ 0 ∨ bI 0 3 x) : GW (z_ui μ 72 n x) := by
  intro i hi
  rw [z_ui_rd]
  by_cases e : 7 * i = n
  · rw [if_pos ⟨rfl, e⟩]
    rcases hx with hx | hx
    · omega
    · exact hx
  · rw [if_neg (fun z => e z.2)]
    exact h i hi
theorem GW_ne {μ : zM} {r n : Nat} {x : Int32} (h : GW μ) (hr : r ≠ 72) : GW (z_ui μ r n x) := by
  intro i hi
  rw [z_ui_rd, if_neg (fun z => hr z.1.symm)]
  exact h i hi
theorem GW_keep {md : List (Nat × Nat)} {μ μ' : zM} (h : GW μ) (hz : a_Fz md μ μ') (hm : (md.all (fun q => !Nat.beq q.1 72)) = true) : GW μ' := fun i hi => by rw [a_Fz_at hz 72 _ (a_md_row hm)]; exact h i hi
theorem GW_7 {w j : Nat} (hw : w < 4) (hj : j < 7) (h0 : j ≠ 0) : ((7 : Int32) * nI w + nI j).toNatClampNeg % 7 ≠ 0 := by
  rw [c7 hw hj]
  omega
theorem zq_last {xs : Nat × (Nat → Int32)} {j : Nat} {C : Nat → List Value → zM → zQ → Prop} {Z : zK} {code : zT} {np oc nL : Nat} {b pc : Nat} {lv : zL} {μ : zM} (h : z_clo xs j C Z) (hH : zH j code np oc nL) (hi : z_tk code.2.1 pc = some .lastore) {r : Nat} {i : Int32} {x : Int64} {t : List Value} (n : Nat) (h1 : Nat.blt r np = true ∧ Nat.beq (z_sh r).1 2 = true ∧ (z_sh r).2.2 = n) (hin : vp_in i n) (k : Z b (pc + 1) lv t (z_uj μ r i.toNatClampNeg x)) : Z b pc lv (.long x :: .int i :: .ref r :: t) μ := by
  refine zq_st h hH hi ?_ k
  show (match z_hp xs np oc .lastore (.long x :: .int i :: .ref r :: t) μ with | some (st', μ') => some (pc + 1, lv, st', μ') | none => none) = _
  unfold z_hp
  simp only [h1.1, h1.2.1, h1.2.2, z_in_iff.mpr hin, Bool.and_self, cond_true]
theorem a_H_uj {μ : zM} {r k : Nat} {x : Int64} (h : a_H μ) : a_H (z_uj μ r k x) := h
theorem GW_uj {μ : zM} {r k : Nat} {x : Int64} (h : GW μ) : GW (z_uj μ r k x) := h
noncomputable abbrev md_win : List (Nat × Nat) := [(50, 43), (61, 9999), (72, 9999), (73, 9999)]
theorem zh_X7_writes : zH mi_X7_writes zt_X7_writes 79 7 5 := hh_X7_writes
theorem fc_X7_writes (d : Nat) (hd : 1 ≤ d) (μ : zM) (w a : Nat) (y k : Int32) (hw : w < 4) (ha : a < 4) (hH0 : a_H μ) (hg : GW μ) : z_C d mi_X7_writes [.ref 50, .int (nI w), .int (nI a), .int y, .int k] μ (fun r μ' => r = none ∧ a_H μ' ∧ GW μ' ∧ a_Fz md_win μ μ') := by
  refine z_C_in (by decide) (by omega) (fun d' Z ed hc hr => ?_)
  have hH := zh_X7_writes
  refine z_rcs hc hH 6 (pc' := 9) (lv' := [(0, .ref 50), (1, .int (nI w)), (2, .int (nI a)), (3, .int y), (4, .int k)]) (st' := [.int (nI a), .int (7 * (nI w)), .ref 72]) (μ' := μ) (by rfl) ?_
  refine zq_iast hc hH (by rfl) 28 (by decide +kernel) (in70 hw) ?_
  refine z_rcs hc hH 8 (pc' := 21) (lv' := [(0, .ref 50), (1, .int (nI w)), (2, .int (nI a)), (3, .int y), (4, .int k)]) (st' := [.int y, .int ((7 * (nI w)) + 1), .ref 72]) (μ' := z_ui μ 72 ((7 * (nI w)).toNatClampNeg) (nI a)) (by rfl) ?_
  refine zq_iast hc hH (by rfl) 28 (by decide +kernel) (in7 (j := 1) hw (by decide)) ?_
  refine z_rcs hc hH 9 (pc' := 36) (lv' := [(0, .ref 50), (1, .int (nI w)), (2, .int (nI a)), (3, .int y), (4, .int k)]) (st' := [.int (μ.1 50 13), .int ((7 * (nI w)) + 2), .ref 72]) (μ' := z_ui (z_ui μ 72 ((7 * (nI w)).toNatClampNeg) (nI a)) 72 (((7 * (nI w)) + 1).toNatClampNeg) y) (by rfl) ?_
  refine zq_iast hc hH (by rfl) 28 (by decide +kernel) (in7 (j := 2) hw (by decide)) ?_
  refine z_rcs hc hH 9 (pc' := 51) (lv' := [(0, .ref 50), (1, .int (nI w)), (2, .int (nI a)), (3, .int y), (4, .int k)]) (st' := [.int (μ.1 50 14), .int ((7 * (nI w)) + 3), .ref 72]) (μ' := z_ui (z_ui (z_ui μ 72 ((7 * (nI w)).toNatClampNeg) (nI a)) 72 (((7 * (nI w)) + 1).toNatClampNeg) y) 72 (((7 * (nI w)) + 2).toNatClampNeg) (μ.1 50 13)) (by rfl) ?_
  refine zq_iast hc hH (by rfl) 28 (by decide +kernel) (in7 (j := 3) hw (by decide)) ?_
  refine z_rcs hc hH 9 (pc' := 66) (lv' := [(0, .ref 50), (1, .int (nI w)), (2, .int (nI a)), (3, .int y), (4, .int k)]) (st' := [.int (μ.1 50 15), .int ((7 * (nI w)) + 4), .ref 72]) (μ' := z_ui (z_ui (z_ui (z_ui μ 72 ((7 * (nI w)).toNatClampNeg) (nI a)) 72 (((7 * (nI w)) + 1).toNatClampNeg) y) 72 (((7 * (nI w)) + 2).toNatClampNeg) (μ.1 50 13)) 72 (((7 * (nI w)) + 3).toNatClampNeg) (μ.1 50 14)) (by rfl) ?_
  refine zq_iast hc hH (by rfl) 28 (by decide +kernel) (in7 (j := 4) hw (by decide)) ?_
  refine z_rcs hc hH 8 (pc' := 78) (lv' := [(0, .ref 50), (1, .int (nI w)), (2, .int (nI a)), (3, .int y), (4, .int k)]) (st' := [.int 0, .int ((7 * (nI w)) + 5), .ref 72]) (μ' := z_ui (z_ui (z_ui (z_ui (z_ui μ 72 ((7 * (nI w)).toNatClampNeg) (nI a)) 72 (((7 * (nI w)) + 1).toNatClampNeg) y) 72 (((7 * (nI w)) + 2).toNatClampNeg) (μ.1 50 13)) 72 (((7 * (nI w)) + 3).toNatClampNeg) (μ.1 50 14)) 72 (((7 * (nI w)) + 4).toNatClampNeg) (μ.1 50 15)) (by rfl) ?_
  refine zq_iast hc hH (by rfl) 28 (by decide +kernel) (in7 (j := 5) hw (by decide)) ?_
  refine z_rcs hc hH 8 (pc' := 92) (lv' := [(0, .ref 50), (1, .int (nI w)), (2, .int (nI a)), (3, .int y), (4, .int k)]) (st' := [.int k, .int ((7 * (nI w)) + 6), .ref 72]) (μ' := z_ui (z_ui (z_ui (z_ui (z_ui (z_ui μ 72 ((7 * (nI w)).toNatClampNeg) (nI a)) 72 (((7 * (nI w)) + 1).toNatClampNeg) y) 72 (((7 * (nI w)) + 2).toNatClampNeg) (μ.1 50 13)) 72 (((7 * (nI w)) + 3).toNatClampNeg) (μ.1 50 14)) 72 (((7 * (nI w)) + 4).toNatClampNeg) (μ.1 50 15)) 72 (((7 * (nI w)) + 5).toNatClampNeg) 0) (by rfl) ?_
  refine zq_iast hc hH (by rfl) 28 (by decide +kernel) (in7 (j := 6) hw (by decide)) ?_
  refine z_rcs hc hH 5 (pc' := 102) (lv' := [(0, .ref 50), (1, .int (nI w)), (2, .int (nI a)), (3, .int y), (4, .int k)]) (st' := [.long (μ.2.1 50 17), .int (nI w), .ref 73]) (μ' := z_ui (z_ui (z_ui (z_ui (z_ui (z_ui (z_ui μ 72 ((7 * (nI w)).toNatClampNeg) (nI a)) 72 (((7 * (nI w)) + 1).toNatClampNeg) y) 72 (((7 * (nI w)) + 2).toNatClampNeg) (μ.1 50 13)) 72 (((7 * (nI w)) + 3).toNatClampNeg) (μ.1 50 14)) 72 (((7 * (nI w)) + 4).toNatClampNeg) (μ.1 50 15)) 72 (((7 * (nI w)) + 5).toNatClampNeg) 0) 72 (((7 * (nI w)) + 6).toNatClampNeg) k) (by rfl) ?_
  refine zq_last hc hH (by rfl) 4 (by decide +kernel) (vp_in_nI (by omega) (by decide)) ?_
  exact hr 0 103 _ _ _ none (by decide +kernel) (by rfl) (⟨rfl, (a_H_uj (a_H_ui (a_H_ui (a_H_ui (a_H_ui (a_H_ui (a_H_ui (a_H_ui hH0 (bI_top _)) (bI_top _)) (bI_top _)) (bI_top _)) (bI_top _)) (bI_top _)) (bI_top _))), (GW_uj (GW_ui (GW_ui (GW_ui (GW_ui (GW_ui (GW_ui (GW_ui hg (Or.inr (bd_nI (by omega) ⟨by omega, by omega⟩))) (Or.inl (GW_7 (j := 1) hw (by decide +kernel) (by decide +kernel)))) (Or.inl (GW_7 (j := 2) hw (by decide +kernel) (by decide +kernel)))) (Or.inl (GW_7 (j := 3) hw (by decide +kernel) (by decide +kernel)))) (Or.inl (GW_7 (j := 4) hw (by decide +kernel) (by decide +kernel)))) (Or.inl (GW_7 (j := 5) hw (by decide +kernel) (by decide +kernel)))) (Or.inl (GW_7 (j := 6) hw (by decide +kernel) (by decide +kernel))))), (a_Fz_uj (a_Fz_ui (a_Fz_ui (a_Fz_ui (a_Fz_ui (a_Fz_ui (a_Fz_ui (a_Fz_ui (a_Fz_rf _ _) (a_mda_md (by decide +kernel) _)) (a_mda_md (by decide +kernel) _)) (a_mda_md (by decide +kernel) _)) (a_mda_md (by decide +kernel) _)) (a_mda_md (by decide +kernel) _)) (a_mda_md (by decide +kernel) _)) (a_mda_md (by decide +kernel) _)) (a_mda_md (by decide +kernel) _))⟩)
theorem zh_X7_pays : zH mi_X7_pays zt_X7_pays 79 7 4 := hh_X7_pays
theorem fc_X7_pays (d : Nat) (hd : 1 ≤ d) (μ : zM) (b w : Nat) (n : Int32) (hb : b < 4) (hw : w < 4) (hH0 : a_H μ) (hg : GW μ) : z_C d mi_X7_pays [.ref 50, .int (nI b), .int (nI w), .int n] μ (fun r μ' => r = none ∧ a_H μ' ∧ GW μ' ∧ a_Fz md_win μ μ') := by
  refine z_C_in (by decide) (by omega) (fun d' Z ed hc hr => ?_)
  have hH := zh_X7_pays
  have hwi : vp_in (μ.1 72 ((7 : Int32) * nI w).toNatClampNeg) 4 := by rw [c70 hw]; exact vp_in_bI (b := (0, 3)) (hg w hw) (by decide)
  refine z_rcs hc hH 4 (pc' := 6) (lv' := [(0, .ref 50), (1, .int (nI b)), (2, .int (nI w)), (3, .int n)]) (st' := [.int (nI b), .ref 61, .int (nI b), .ref 61]) (μ' := μ) (by rfl) ?_
  refine zq_iald hc hH (by rfl) 4 (by decide +kernel) (vp_in_nI (by omega) (by decide)) ?_
  refine z_rcs hc hH 2 (pc' := 9) (lv' := [(0, .ref 50), (1, .int (nI b)), (2, .int (nI w)), (3, .int n)]) (st' := [.int ((μ.1 61 (nI b).toNatClampNeg) - n), .int (nI b), .ref 61]) (μ' := μ) (by rfl) ?_
  refine zq_iast hc hH (by rfl) 4 (by decide +kernel) (vp_in_nI (by omega) (by decide)) ?_
  refine z_rcs hc hH 7 (pc' := 22) (lv' := [(0, .ref 50), (1, .int (nI b)), (2, .int (nI w)), (3, .int n)]) (st' := [.int (7 * (nI w)), .ref 72, .ref 61]) (μ' := z_ui μ 61 ((nI b).toNatClampNeg) ((μ.1 61 (nI b).toNatClampNeg) - n)) (by rfl) ?_
  refine zq_iald hc hH (by rfl) 28 (by decide +kernel) (in70 hw) ?_
  refine z_rcs hc hH 1 (pc' := 24) (lv' := [(0, .ref 50), (1, .int (nI b)), (2, .int (nI w)), (3, .int n)]) (st' := [.int ((z_ui μ 61 ((nI b).toNatClampNeg) ((μ.1 61 (nI b).toNatClampNeg) - n)).1 72 (7 * (nI w)).toNatClampNeg), .ref 61, .int ((z_ui μ 61 ((nI b).toNatClampNeg) ((μ.1 61 (nI b).toNatClampNeg) - n)).1 72 (7 * (nI w)).toNatClampNeg), .ref 61]) (μ' := z_ui μ 61 ((nI b).toNatClampNeg) ((μ.1 61 (nI b).toNatClampNeg) - n)) (by rfl) ?_
  refine zq_iald hc hH (by rfl) 4 (by decide +kernel) (hwi) ?_
  refine z_rcs hc hH 2 (pc' := 27) (lv' := [(0, .ref 50), (1, .int (nI b)), (2, .int (nI w)), (3, .int n)]) (st' := [.int (((z_ui μ 61 ((nI b).toNatClampNeg) ((μ.1 61 (nI b).toNatClampNeg) - n)).1 61 ((z_ui μ 61 ((nI b).toNatClampNeg) ((μ.1 61 (nI b).toNatClampNeg) - n)).1 72 (7 * (nI w)).toNatClampNeg).toNatClampNeg) + n), .int ((z_ui μ 61 ((nI b).toNatClampNeg) ((μ.1 61 (nI b).toNatClampNeg) - n)).1 72 (7 * (nI w)).toNatClampNeg), .ref 61]) (μ' := z_ui μ 61 ((nI b).toNatClampNeg) ((μ.1 61 (nI b).toNatClampNeg) - n)) (by rfl) ?_
  refine zq_iast hc hH (by rfl) 4 (by decide +kernel) (hwi) ?_
  refine z_rcs hc hH 8 (pc' := 39) (lv' := [(0, .ref 50), (1, .int (nI b)), (2, .int (nI w)), (3, .int n)]) (st' := [.int ((7 * (nI w)) + 5), .ref 72, .int ((7 * (nI w)) + 5), .ref 72]) (μ' := z_ui (z_ui μ 61 ((nI b).toNatClampNeg) ((μ.1 61 (nI b).toNatClampNeg) - n)) 61 (((z_ui μ 61 ((nI b).toNatClampNeg) ((μ.1 61 (nI b).toNatClampNeg) - n)).1 72 (7 * (nI w)).toNatClampNeg).toNatClampNeg) (((z_ui μ 61 ((nI b).toNatClampNeg) ((μ.1 61 (nI b).toNatClampNeg) - n)).1 61 ((z_ui μ 61 ((nI b).toNatClampNeg) ((μ.1 61 (nI b).toNatClampNeg) - n)).1 72 (7 * (nI w)).toNatClampNeg).toNatClampNeg) + n)) (by rfl) ?_
  refine zq_iald hc hH (by rfl) 28 (by decide +kernel) (in7 (j := 5) hw (by decide)) ?_
  refine z_rcs hc hH 2 (pc' := 42) (lv' := [(0, .ref 50), (1, .int (nI b)), (2, .int (nI w)), (3, .int n)]) (st' := [.int (((z_ui (z_ui μ 61 ((nI b).toNatClampNeg) ((μ.1 61 (nI b).toNatClampNeg) - n)) 61 (((z_ui μ 61 ((nI b).toNatClampNeg) ((μ.1 61 (nI b).toNatClampNeg) - n)).1 72 (7 * (nI w)).toNatClampNeg).toNatClampNeg) (((z_ui μ 61 ((nI b).toNatClampNeg) ((μ.1 61 (nI b).toNatClampNeg) - n)).1 61 ((z_ui μ 61 ((nI b).toNatClampNeg) ((μ.1 61 (nI b).toNatClampNeg) - n)).1 72 (7 * (nI w)).toNatClampNeg).toNatClampNeg) + n)).1 72 ((7 * (nI w)) + 5).toNatClampNeg) + n), .int ((7 * (nI w)) + 5), .ref 72]) (μ' := z_ui (z_ui μ 61 ((nI b).toNatClampNeg) ((μ.1 61 (nI b).toNatClampNeg) - n)) 61 (((z_ui μ 61 ((nI b).toNatClampNeg) ((μ.1 61 (nI b).toNatClampNeg) - n)).1 72 (7 * (nI w)).toNatClampNeg).toNatClampNeg) (((z_ui μ 61 ((nI b).toNatClampNeg) ((μ.1 61 (nI b).toNatClampNeg) - n)).1 61 ((z_ui μ 61 ((nI b).toNatClampNeg) ((μ.1 61 (nI b).toNatClampNeg) - n)).1 72 (7 * (nI w)).toNatClampNeg).toNatClampNeg) + n)) (by rfl) ?_
  refine zq_iast hc hH (by rfl) 28 (by decide +kernel) (in7 (j := 5) hw (by decide)) ?_
  exact hr 0 43 _ _ _ none (by decide +kernel) (by rfl) (⟨rfl, (a_H_ui (a_H_ui (a_H_ui hH0 (bI_top _)) (bI_top _)) (bI_top _)), (GW_ui (GW_ne (GW_ne hg (by decide +kernel)) (by decide +kernel)) (Or.inl (GW_7 (j := 5) hw (by decide +kernel) (by decide +kernel)))), (a_Fz_ui (a_Fz_ui (a_Fz_ui (a_Fz_rf _ _) (a_mda_md (by decide +kernel) _)) (a_mda_md (by decide +kernel) _)) (a_mda_md (by decide +kernel) _))⟩)
theorem zh_X7_takesBets : zH mi_X7_takesBets zt_X7_takesBets 79 7 2 := hh_X7_takesBets
theorem fc_X7_takesBets (d : Nat) (hd : 1 ≤ d) (μ : zM) (hH0 : a_H μ) (hg : GW μ) : z_C d mi_X7_takesBets [.ref 50] μ (fun r μ' => r = none ∧ a_H μ' ∧ GW μ' ∧ a_Fz md_win μ μ') := by
  refine z_C_in (by decide) (by omega) (fun d' Z ed hc hr => ?_)
  have hH := zh_X7_takesBets
  have hwi : vp_in (μ.1 72 ((0 : Int32)).toNatClampNeg) 4 := vp_in_bI (b := (0, 3)) (hg 0 (by decide)) (by decide)
  refine z_rcs hc hH 3 (pc' := 5) (lv' := [(0, .ref 50)]) (st' := [.int 0, .ref 72]) (μ' := μ) (by rfl) ?_
  refine zq_iald hc hH (by rfl) 28 (by decide +kernel) (vp_in_nI (n := 0) (N := 28) (by decide) (by decide)) ?_
  refine z_rcs hc hH 5 (pc' := 13) (lv' := [(1, .int (μ.1 72 (0 : Int32).toNatClampNeg)), (0, .ref 50)]) (st' := [.int (μ.1 72 (0 : Int32).toNatClampNeg), .ref 61, .int (μ.1 72 (0 : Int32).toNatClampNeg), .ref 61]) (μ' := μ) (by rfl) ?_
  refine zq_iald hc hH (by rfl) 4 (by decide +kernel) (hwi) ?_
  refine z_rcs hc hH 5 (pc' := 23) (lv' := [(1, .int (μ.1 72 (0 : Int32).toNatClampNeg)), (0, .ref 50)]) (st' := [.int ((μ.1 61 (μ.1 72 (0 : Int32).toNatClampNeg).toNatClampNeg) + (1000 * (μ.1 50 43))), .int (μ.1 72 (0 : Int32).toNatClampNeg), .ref 61]) (μ' := μ) (by rfl) ?_
  refine zq_iast hc hH (by rfl) 4 (by decide +kernel) (hwi) ?_
  refine z_rcs hc hH 4 (pc' := 30) (lv' := [(1, .int (μ.1 72 (0 : Int32).toNatClampNeg)), (0, .ref 50)]) (st' := [.int 5, .ref 72, .int 5, .ref 72]) (μ' := z_ui μ 61 ((μ.1 72 (0 : Int32).toNatClampNeg).toNatClampNeg) ((μ.1 61 (μ.1 72 (0 : Int32).toNatClampNeg).toNatClampNeg) + (1000 * (μ.1 50 43)))) (by rfl) ?_
  refine zq_iald hc hH (by rfl) 28 (by decide +kernel) (vp_in_nI (n := 5) (N := 28) (by decide) (by decide)) ?_
  refine z_rcs hc hH 5 (pc' := 40) (lv' := [(1, .int (μ.1 72 (0 : Int32).toNatClampNeg)), (0, .ref 50)]) (st' := [.int (((z_ui μ 61 ((μ.1 72 (0 : Int32).toNatClampNeg).toNatClampNeg) ((μ.1 61 (μ.1 72 (0 : Int32).toNatClampNeg).toNatClampNeg) + (1000 * (μ.1 50 43)))).1 72 (5 : Int32).toNatClampNeg) + (1000 * (μ.1 50 43))), .int 5, .ref 72]) (μ' := z_ui μ 61 ((μ.1 72 (0 : Int32).toNatClampNeg).toNatClampNeg) ((μ.1 61 (μ.1 72 (0 : Int32).toNatClampNeg).toNatClampNeg) + (1000 * (μ.1 50 43)))) (by rfl) ?_
  refine zq_iast hc hH (by rfl) 28 (by decide +kernel) (vp_in_nI (n := 5) (N := 28) (by decide) (by decide)) ?_
  refine z_rcs hc hH 3 (pc' := 46) (lv' := [(1, .int (μ.1 72 (0 : Int32).toNatClampNeg)), (0, .ref 50)]) (st' := []) (μ' := z_ui (z_ui (z_ui μ 61 ((μ.1 72 (0 : Int32).toNatClampNeg).toNatClampNeg) ((μ.1 61 (μ.1 72 (0 : Int32).toNatClampNeg).toNatClampNeg) + (1000 * (μ.1 50 43)))) 72 ((5 : Int32).toNatClampNeg) (((z_ui μ 61 ((μ.1 72 (0 : Int32).toNatClampNeg).toNatClampNeg) ((μ.1 61 (μ.1 72 (0 : Int32).toNatClampNeg).toNatClampNeg) + (1000 * (μ.1 50 43)))).1 72 (5 : Int32).toNatClampNeg) + (1000 * (μ.1 50 43)))) 50 43 0) (by rfl) ?_
  exact hr 0 46 _ _ _ none (by decide +kernel) (by rfl) (⟨rfl, (a_H_ui (a_H_ui (a_H_ui hH0 (bI_top _)) (bI_top _)) (bI_top _)), (GW_ne (GW_ui (GW_ne hg (by decide +kernel)) (Or.inl (by decide +kernel))) (by decide +kernel)), (a_Fz_ui (a_Fz_ui (a_Fz_ui (a_Fz_rf _ _) (a_mda_md (by decide +kernel) _)) (a_mda_md (by decide +kernel) _)) (by decide +kernel))⟩)
theorem zh_X7_draws : zH mi_X7_draws zt_X7_draws 79 7 4 := hh_X7_draws
noncomputable abbrev md_draws : List (Nat × Nat) := [(50, 44), (50, 45), (50, 46), (50, 48), (50, 49), (50, 50), (50, 51), (50, 57), (50, 58), (60, 9999), (68, 9999), (70, 9999)]
theorem fc_X7_draws0 (d : Nat) (hd : 3 ≤ d) (μ : zM) (a t : Nat) (ha : a < 4) (ht : t < 122) (et : μ.1 50 46 = nI t) (hH0 : a_H μ) : z_C d mi_X7_draws [.ref 50, .int (nI a), .int 0] μ (fun r μ' => r = none ∧ a_H μ' ∧ a_Fz md_draws μ μ' ∧ μ'.1 50 44 = 1 ∧ μ'.1 50 45 = nI a ∧ μ'.1 50 57 = 0 ∧ μ'.1 50 46 = nI (t + 1) ∧ μ'.1 50 48 = μ.1 50 48 ∧ ∃ c, c < 34 ∧ μ'.1 50 49 = nI c ∧ ∀ j, μ'.1 60 j = (z_giv μ a c 1).1 60 j) := by
  refine z_C_in (by decide) (by omega) (fun d' Z ed hc hr => ?_)
  have hH := zh_X7_draws
  obtain ⟨c, hc34, ec⟩ : ∃ c, c < 34 ∧ μ.1 59 (t) = nI c := by
    obtain ⟨c, h1, h2⟩ := vp_in_of (vp_in_bI (n := 34) (b := (0, 33)) (hH0 59 (t)) (by decide)) (by decide)
    exact ⟨c, h1, h2⟩
  refine z_rcs hc hH 4 (pc' := 18) (lv' := [(0, .ref 50), (1, .int (nI a)), (2, .int 0)]) (st' := [.int (μ.1 50 46)]) (μ' := μ) (by rfl) ?_
  rw [et]
  refine z_rcs hc hH 8 (pc' := 43) (lv' := [(3, .int (nI t)), (0, .ref 50), (1, .int (nI a)), (2, .int 0)]) (st' := [.int ((μ.1 50 46) + 1), .ref 50]) (μ' := μ) (by rfl) ?_
  rw [show ((μ.1 50 46) + 1 : Int32) = nI (t + 1) from by rw [et, nI_1]]
  refine z_rcs hc hH 5 (pc' := 52) (lv' := [(3, .int (nI t)), (0, .ref 50), (1, .int (nI a)), (2, .int 0)]) (st' := [.int (nI t), .ref 59, .ref 50]) (μ' := z_ui μ 50 46 (nI (t + 1))) (by rfl) ?_
  refine zq_iald hc hH (by rfl) 136 (by decide +kernel) (vp_in_nI (by omega) (by decide)) ?_
  rw [nI_clamp (n := t) (by omega), show (z_ui μ 50 46 (nI (t + 1))).1 59 (t) = nI c from ec]
  refine z_rcs hc hH 6 (pc' := 63) (lv' := [(3, .int (nI t)), (0, .ref 50), (1, .int (nI a)), (2, .int 0)]) (st' := [.int 1, .int (nI c), .int (nI a), .ref 50]) (μ' := z_ui (z_ui μ 50 46 (nI (t + 1))) 50 49 (nI c)) (by rfl) ?_
  have hH1 : a_H (z_giv (z_ui (z_ui μ 50 46 (nI (t + 1))) 50 49 (nI c)) a c 1) := a_H_ui (a_H_ui (a_H_ui hH0 (show bI 0 122 _ from bd_nI (by omega) ⟨by omega, by omega⟩)) (show bI (-1) 33 _ from bd_nI (by omega) ⟨by omega, by omega⟩)) (bI_top _)
  have hF1 : a_Fz md_draws μ (z_giv (z_ui (z_ui μ 50 46 (nI (t + 1))) 50 49 (nI c)) a c 1) := a_Fz_ui (a_Fz_ui (a_Fz_ui (a_Fz_rf _ _) (by decide +kernel)) (by decide +kernel)) (a_mda_md (by decide +kernel) _)
  refine zq_call hc (z_cx_ok hH (by rfl)) (fc_X7_gives d' (by omega) _ a c 1 ha hc34) (by decide +kernel) (fun r9 μ9 hq => ?_)
  obtain ⟨rfl, rfl⟩ := hq
  show Z 0 66 [(3, .int (nI t)), (0, .ref 50), (1, .int (nI a)), (2, .int 0)] [] (z_giv (z_ui (z_ui μ 50 46 (nI (t + 1))) 50 49 (nI c)) a c 1)
  refine z_rcs hc hH 4 (pc' := 72) (lv' := [(3, .int (nI t)), (0, .ref 50), (1, .int (nI a)), (2, .int 0)]) (st' := [.int (nI a), .ref 68, .int (nI a), .ref 68]) (μ' := (z_giv (z_ui (z_ui μ 50 46 (nI (t + 1))) 50 49 (nI c)) a c 1)) (by rfl) ?_
  refine zq_iald hc hH (by rfl) 4 (by decide +kernel) (vp_in_nI (by omega) (by decide)) ?_
  refine z_rcs hc hH 2 (pc' := 75) (lv' := [(3, .int (nI t)), (0, .ref 50), (1, .int (nI a)), (2, .int 0)]) (st' := [.int (((z_giv (z_ui (z_ui μ 50 46 (nI (t + 1))) 50 49 (nI c)) a c 1).1 68 (nI a).toNatClampNeg) + 1), .int (nI a), .ref 68]) (μ' := (z_giv (z_ui (z_ui μ 50 46 (nI (t + 1))) 50 49 (nI c)) a c 1)) (by rfl) ?_
  refine zq_iast hc hH (by rfl) 4 (by decide +kernel) (vp_in_nI (by omega) (by decide)) ?_
  refine z_rcs hc hH 3 (pc' := 81) (lv' := [(3, .int (nI t)), (0, .ref 50), (1, .int (nI a)), (2, .int 0)]) (st' := [.int (nI a), .ref 67]) (μ' := z_ui (z_giv (z_ui (z_ui μ 50 46 (nI (t + 1))) 50 49 (nI c)) a c 1) 68 ((nI a).toNatClampNeg) (((z_giv (z_ui (z_ui μ 50 46 (nI (t + 1))) 50 49 (nI c)) a c 1).1 68 (nI a).toNatClampNeg) + 1)) (by rfl) ?_
  refine zq_iald hc hH (by rfl) 4 (by decide +kernel) (vp_in_nI (by omega) (by decide)) ?_
  refine zq_if hc hH (by rfl) (tg := 92) (by rfl) (fun h1 => ?_) (fun h1 => ?_)
  · have h1 := cm_ne.mp h1
    refine z_rcs hc hH 18 (pc' := 122) (lv' := [(3, .int (nI t)), (0, .ref 50), (1, .int (nI a)), (2, .int 0)]) (st' := []) (μ' := z_ui (z_ui (z_ui (z_ui (z_ui (z_ui (z_ui (z_giv (z_ui (z_ui μ 50 46 (nI (t + 1))) 50 49 (nI c)) a c 1) 68 ((nI a).toNatClampNeg) (((z_giv (z_ui (z_ui μ 50 46 (nI (t + 1))) 50 49 (nI c)) a c 1).1 68 (nI a).toNatClampNeg) + 1)) 50 45 (nI a)) 50 44 1) 50 57 0) 50 58 0) 50 50 (-1)) 50 51 (-1)) (by rfl) ?_
    exact hr 0 122 _ _ _ none (by decide +kernel) (by rfl) (⟨rfl, (a_H_ui (a_H_ui (a_H_ui (a_H_ui (a_H_ui (a_H_ui (a_H_ui hH1 (bI_top _)) (show bI 0 3 _ from bd_nI (by omega) ⟨by omega, by omega⟩)) (⟨by decide, by decide⟩)) (⟨by decide, by decide⟩)) (⟨by decide, by decide⟩)) (bI_top _)) (bI_top _)), (a_Fz_ui (a_Fz_ui (a_Fz_ui (a_Fz_ui (a_Fz_ui (a_Fz_ui (a_Fz_ui hF1 (a_mda_md (by decide +kernel) _)) (by decide +kernel)) (by decide +kernel)) (by decide +kernel)) (by decide +kernel)) (by decide +kernel)) (by decide +kernel)), rfl, rfl, rfl, rfl, rfl, c, hc34, rfl, fun j => rfl⟩)
  · have h1 := cn_ne.mp h1
    refine z_rcs hc hH 4 (pc' := 91) (lv' := [(3, .int (nI t)), (0, .ref 50), (1, .int (nI a)), (2, .int 0)]) (st' := [.int 0, .int (nI a), .ref 70]) (μ' := z_ui (z_giv (z_ui (z_ui μ 50 46 (nI (t + 1))) 50 49 (nI c)) a c 1) 68 ((nI a).toNatClampNeg) (((z_giv (z_ui (z_ui μ 50 46 (nI (t + 1))) 50 49 (nI c)) a c 1).1 68 (nI a).toNatClampNeg) + 1)) (by rfl) ?_
    refine zq_bast hc hH (by rfl) 4 (by decide +kernel) (vp_in_nI (by omega) (by decide)) (by decide) ?_
    refine z_rcs hc hH 18 (pc' := 122) (lv' := [(3, .int (nI t)), (0, .ref 50), (1, .int (nI a)), (2, .int 0)]) (st' := []) (μ' := z_ui (z_ui (z_ui (z_ui (z_ui (z_ui (z_ui (z_ui (z_giv (z_ui (z_ui μ 50 46 (nI (t + 1))) 50 49 (nI c)) a c 1) 68 ((nI a).toNatClampNeg) (((z_giv (z_ui (z_ui μ 50 46 (nI (t + 1))) 50 49 (nI c)) a c 1).1 68 (nI a).toNatClampNeg) + 1)) 70 ((nI a).toNatClampNeg) 0) 50 45 (nI a)) 50 44 1) 50 57 0) 50 58 0) 50 50 (-1)) 50 51 (-1)) (by rfl) ?_
    exact hr 0 122 _ _ _ none (by decide +kernel) (by rfl) (⟨rfl, (a_H_ui (a_H_ui (a_H_ui (a_H_ui (a_H_ui (a_H_ui (a_H_ui (a_H_ui hH1 (bI_top _)) (show bI 0 1 0 from ⟨by decide, by decide⟩)) (show bI 0 3 _ from bd_nI (by omega) ⟨by omega, by omega⟩)) (⟨by decide, by decide⟩)) (⟨by decide, by decide⟩)) (⟨by decide, by decide⟩)) (bI_top _)) (bI_top _)), (a_Fz_ui (a_Fz_ui (a_Fz_ui (a_Fz_ui (a_Fz_ui (a_Fz_ui (a_Fz_ui (a_Fz_ui hF1 (a_mda_md (by decide +kernel) _)) (a_mda_md (by decide +kernel) _)) (by decide +kernel)) (by decide +kernel)) (by decide +kernel)) (by decide +kernel)) (by decide +kernel)) (by decide +kernel)), rfl, rfl, rfl, rfl, rfl, c, hc34, rfl, fun j => rfl⟩)
theorem fc_X7_draws1 (d : Nat) (hd : 3 ≤ d) (μ : zM) (a t : Nat) (ha : a < 4) (ht : t < 4) (et : μ.1 50 48 = nI t) (hH0 : a_H μ) : z_C d mi_X7_draws [.ref 50, .int (nI a), .int 1] μ (fun r μ' => r = none ∧ a_H μ' ∧ a_Fz md_draws μ μ' ∧ μ'.1 50 44 = 1 ∧ μ'.1 50 45 = nI a ∧ μ'.1 50 57 = 0 ∧ μ'.1 50 48 = nI (t + 1) ∧ μ'.1 50 46 = μ.1 50 46 ∧ ∃ c, c < 34 ∧ μ'.1 50 49 = nI c ∧ ∀ j, μ'.1 60 j = (z_giv μ a c 1).1 60 j) := by
  refine z_C_in (by decide) (by omega) (fun d' Z ed hc hr => ?_)
  have hH := zh_X7_draws
  obtain ⟨c, hc34, ec⟩ : ∃ c, c < 34 ∧ μ.1 59 (122 + t) = nI c := by
    obtain ⟨c, h1, h2⟩ := vp_in_of (vp_in_bI (n := 34) (b := (0, 33)) (hH0 59 (122 + t)) (by decide)) (by decide)
    exact ⟨c, h1, h2⟩
  refine z_rcs hc hH 7 (pc' := 18) (lv' := [(0, .ref 50), (1, .int (nI a)), (2, .int 1)]) (st' := [.int (122 + (μ.1 50 48))]) (μ' := μ) (by rfl) ?_
  rw [et, show (122 : Int32) + nI t = nI (122 + t) from nI_add 122 t]
  refine z_rcs hc hH 8 (pc' := 30) (lv' := [(3, .int (nI (122 + t))), (0, .ref 50), (1, .int (nI a)), (2, .int 1)]) (st' := [.int ((μ.1 50 48) + 1), .ref 50]) (μ' := μ) (by rfl) ?_
  rw [show ((μ.1 50 48) + 1 : Int32) = nI (t + 1) from by rw [et, nI_1]]
  refine z_rcs hc hH 6 (pc' := 52) (lv' := [(3, .int (nI (122 + t))), (0, .ref 50), (1, .int (nI a)), (2, .int 1)]) (st' := [.int (nI (122 + t)), .ref 59, .ref 50]) (μ' := z_ui μ 50 48 (nI (t + 1))) (by rfl) ?_
  refine zq_iald hc hH (by rfl) 136 (by decide +kernel) (vp_in_nI (by omega) (by decide)) ?_
  rw [nI_clamp (n := 122 + t) (by omega), show (z_ui μ 50 48 (nI (t + 1))).1 59 (122 + t) = nI c from ec]
  refine z_rcs hc hH 6 (pc' := 63) (lv' := [(3, .int (nI (122 + t))), (0, .ref 50), (1, .int (nI a)), (2, .int 1)]) (st' := [.int 1, .int (nI c), .int (nI a), .ref 50]) (μ' := z_ui (z_ui μ 50 48 (nI (t + 1))) 50 49 (nI c)) (by rfl) ?_
  have hH1 : a_H (z_giv (z_ui (z_ui μ 50 48 (nI (t + 1))) 50 49 (nI c)) a c 1) := a_H_ui (a_H_ui (a_H_ui hH0 (show bI 0 4 _ from bd_nI (by omega) ⟨by omega, by omega⟩)) (show bI (-1) 33 _ from bd_nI (by omega) ⟨by omega, by omega⟩)) (bI_top _)
  have hF1 : a_Fz md_draws μ (z_giv (z_ui (z_ui μ 50 48 (nI (t + 1))) 50 49 (nI c)) a c 1) := a_Fz_ui (a_Fz_ui (a_Fz_ui (a_Fz_rf _ _) (by decide +kernel)) (by decide +kernel)) (a_mda_md (by decide +kernel) _)
  refine zq_call hc (z_cx_ok hH (by rfl)) (fc_X7_gives d' (by omega) _ a c 1 ha hc34) (by decide +kernel) (fun r9 μ9 hq => ?_)
  obtain ⟨rfl, rfl⟩ := hq
  show Z 0 66 [(3, .int (nI (122 + t))), (0, .ref 50), (1, .int (nI a)), (2, .int 1)] [] (z_giv (z_ui (z_ui μ 50 48 (nI (t + 1))) 50 49 (nI c)) a c 1)
  refine z_rcs hc hH 4 (pc' := 72) (lv' := [(3, .int (nI (122 + t))), (0, .ref 50), (1, .int (nI a)), (2, .int 1)]) (st' := [.int (nI a), .ref 68, .int (nI a), .ref 68]) (μ' := (z_giv (z_ui (z_ui μ 50 48 (nI (t + 1))) 50 49 (nI c)) a c 1)) (by rfl) ?_
  refine zq_iald hc hH (by rfl) 4 (by decide +kernel) (vp_in_nI (by omega) (by decide)) ?_
  refine z_rcs hc hH 2 (pc' := 75) (lv' := [(3, .int (nI (122 + t))), (0, .ref 50), (1, .int (nI a)), (2, .int 1)]) (st' := [.int (((z_giv (z_ui (z_ui μ 50 48 (nI (t + 1))) 50 49 (nI c)) a c 1).1 68 (nI a).toNatClampNeg) + 1), .int (nI a), .ref 68]) (μ' := (z_giv (z_ui (z_ui μ 50 48 (nI (t + 1))) 50 49 (nI c)) a c 1)) (by rfl) ?_
  refine zq_iast hc hH (by rfl) 4 (by decide +kernel) (vp_in_nI (by omega) (by decide)) ?_
  refine z_rcs hc hH 3 (pc' := 81) (lv' := [(3, .int (nI (122 + t))), (0, .ref 50), (1, .int (nI a)), (2, .int 1)]) (st' := [.int (nI a), .ref 67]) (μ' := z_ui (z_giv (z_ui (z_ui μ 50 48 (nI (t + 1))) 50 49 (nI c)) a c 1) 68 ((nI a).toNatClampNeg) (((z_giv (z_ui (z_ui μ 50 48 (nI (t + 1))) 50 49 (nI c)) a c 1).1 68 (nI a).toNatClampNeg) + 1)) (by rfl) ?_
  refine zq_iald hc hH (by rfl) 4 (by decide +kernel) (vp_in_nI (by omega) (by decide)) ?_
  refine zq_if hc hH (by rfl) (tg := 92) (by rfl) (fun h1 => ?_) (fun h1 => ?_)
  · have h1 := cm_ne.mp h1
    refine z_rcs hc hH 18 (pc' := 122) (lv' := [(3, .int (nI (122 + t))), (0, .ref 50), (1, .int (nI a)), (2, .int 1)]) (st' := []) (μ' := z_ui (z_ui (z_ui (z_ui (z_ui (z_ui (z_ui (z_giv (z_ui (z_ui μ 50 48 (nI (t + 1))) 50 49 (nI c)) a c 1) 68 ((nI a).toNatClampNeg) (((z_giv (z_ui (z_ui μ 50 48 (nI (t + 1))) 50 49 (nI c)) a c 1).1 68 (nI a).toNatClampNeg) + 1)) 50 45 (nI a)) 50 44 1) 50 57 0) 50 58 1) 50 50 (-1)) 50 51 (-1)) (by rfl) ?_
    exact hr 0 122 _ _ _ none (by decide +kernel) (by rfl) (⟨rfl, (a_H_ui (a_H_ui (a_H_ui (a_H_ui (a_H_ui (a_H_ui (a_H_ui hH1 (bI_top _)) (show bI 0 3 _ from bd_nI (by omega) ⟨by omega, by omega⟩)) (⟨by decide, by decide⟩)) (⟨by decide, by decide⟩)) (⟨by decide, by decide⟩)) (bI_top _)) (bI_top _)), (a_Fz_ui (a_Fz_ui (a_Fz_ui (a_Fz_ui (a_Fz_ui (a_Fz_ui (a_Fz_ui hF1 (a_mda_md (by decide +kernel) _)) (by decide +kernel)) (by decide +kernel)) (by decide +kernel)) (by decide +kernel)) (by decide +kernel)) (by decide +kernel)), rfl, rfl, rfl, rfl, rfl, c, hc34, rfl, fun j => rfl⟩)
  · have h1 := cn_ne.mp h1
    refine z_rcs hc hH 4 (pc' := 91) (lv' := [(3, .int (nI (122 + t))), (0, .ref 50), (1, .int (nI a)), (2, .int 1)]) (st' := [.int 0, .int (nI a), .ref 70]) (μ' := z_ui (z_giv (z_ui (z_ui μ 50 48 (nI (t + 1))) 50 49 (nI c)) a c 1) 68 ((nI a).toNatClampNeg) (((z_giv (z_ui (z_ui μ 50 48 (nI (t + 1))) 50 49 (nI c)) a c 1).1 68 (nI a).toNatClampNeg) + 1)) (by rfl) ?_
    refine zq_bast hc hH (by rfl) 4 (by decide +kernel) (vp_in_nI (by omega) (by decide)) (by decide) ?_
    refine z_rcs hc hH 18 (pc' := 122) (lv' := [(3, .int (nI (122 + t))), (0, .ref 50), (1, .int (nI a)), (2, .int 1)]) (st' := []) (μ' := z_ui (z_ui (z_ui (z_ui (z_ui (z_ui (z_ui (z_ui (z_giv (z_ui (z_ui μ 50 48 (nI (t + 1))) 50 49 (nI c)) a c 1) 68 ((nI a).toNatClampNeg) (((z_giv (z_ui (z_ui μ 50 48 (nI (t + 1))) 50 49 (nI c)) a c 1).1 68 (nI a).toNatClampNeg) + 1)) 70 ((nI a).toNatClampNeg) 0) 50 45 (nI a)) 50 44 1) 50 57 0) 50 58 1) 50 50 (-1)) 50 51 (-1)) (by rfl) ?_
    exact hr 0 122 _ _ _ none (by decide +kernel) (by rfl) (⟨rfl, (a_H_ui (a_H_ui (a_H_ui (a_H_ui (a_H_ui (a_H_ui (a_H_ui (a_H_ui hH1 (bI_top _)) (show bI 0 1 0 from ⟨by decide, by decide⟩)) (show bI 0 3 _ from bd_nI (by omega) ⟨by omega, by omega⟩)) (⟨by decide, by decide⟩)) (⟨by decide, by decide⟩)) (⟨by decide, by decide⟩)) (bI_top _)) (bI_top _)), (a_Fz_ui (a_Fz_ui (a_Fz_ui (a_Fz_ui (a_Fz_ui (a_Fz_ui (a_Fz_ui (a_Fz_ui hF1 (a_mda_md (by decide +kernel) _)) (a_mda_md (by decide +kernel) _)) (by decide +kernel)) (by decide +kernel)) (by decide +kernel)) (by decide +kernel)) (by decide +kernel)) (by decide +kernel)), rfl, rfl, rfl, rfl, rfl, c, hc34, rfl, fun j => rfl⟩)
/-! a win by the tile drawn -/
theorem z_ald {xs : Nat × (Nat → Int32)} {np oc nL pc r : Nat} {i : Fin 4} {lv : zL} {st : List Value} {μ : zM} (h : z_lk lv i = some (.ref r)) : z_step xs np oc nL (.aload_n i) (pc, lv, st, μ) = some (pc + 1, lv, .ref r :: st, μ) := by
  have e : z_lv nL (.aload_n i) lv st = some (lv, .ref r :: st) := by
    show (match z_lk lv i with | some (.ref x) => some (lv, Value.ref x :: st) | _ => none) = _
    rw [h]
  show (match z_lv nL (.aload_n i) lv st with | some (lv', st') => some (pc + 1, lv', st', μ) | none => _) = _
  rw [e]
/-- the reckoning; all that the end of a hand may change -/
noncomputable abbrev md_V : List (Nat × Nat) := [(50, 0), (50, 4), (50, 7), (50, 8), (50, 9), (50, 10), (50, 11), (50, 12), (50, 13), (50, 14), (50, 15), (50, 16), (50, 17), (50, 18), (50, 21), (50, 22), (50, 23), (50, 24), (50, 25), (51, 9999), (52, 9999), (53, 9999), (54, 9999), (55, 9999), (56, 9999), (57, 9999), (58, 9999)]
noncomputable abbrev md_E : List (Nat × Nat) := [(50, 0), (50, 4), (50, 7), (50, 8), (50, 9), (50, 10), (50, 11), (50, 12), (50, 13), (50, 14), (50, 15), (50, 16), (50, 17), (50, 18), (50, 21), (50, 22), (50, 23), (50, 24), (50, 25), (51, 9999), (52, 9999), (53, 9999), (54, 9999), (55, 9999), (56, 9999), (57, 9999), (58, 9999), (50, 40), (50, 41), (50, 42), (50, 43), (50, 44), (50, 49), (50, 52), (50, 53), (50, 54), (50, 59), (61, 9999), (70, 9999), (72, 9999), (73, 9999), (79, 9999)]
noncomputable def GST (μ μ1 : zM) : Prop := a_H μ1 ∧ GW μ1 ∧ a_Fz md_E μ μ1
noncomputable def zPE (μ : zM) (r : Option Value) (μ' : zM) : Prop := (∃ x, r = some (.int x)) ∧ GST μ μ' ∧ (μ'.1 50 44 = 0 ∨ a_Fz md_V μ μ')
theorem GST.to {μ μ1 μ2 : zM} {md : List (Nat × Nat)} (h : GST μ μ1) (h1 : a_H μ2) (h2 : GW μ2) (h3 : a_Fz md μ1 μ2) (hm : a_mds md md_E = true) : GST μ μ2 := ⟨h1, h2, a_Fz_tr hm h.2.2 h3⟩
theorem seat_nI {μ : zM} (h : a_H μ) : ∃ a, a < 4 ∧ μ.1 50 45 = nI a := by
  obtain ⟨a, h1, h2⟩ := vp_in_of (vp_in_bI (n := 4) (b := (0, 3)) (h 50 45) (by decide)) (by decide)
  exact ⟨a, h1, h2⟩
theorem zh_X7_win : zH mi_X7_win zt_X7_win 79 7 4 := hh_X7_win
theorem fc_X7_win (d : Nat) (hd : 702 ≤ d) (μ : zM) (ha : a_H μ) (hg : GW μ) (hT : μ.1 50 44 = 1 → μ.1 50 57 = 0 → 0 ≤ (μ.1 50 49).toInt) : z_C d mi_X7_win [.ref 50] μ (zPE μ) := by
  refine z_C_in (by decide) (by omega) (fun d' Z ed hc hr => ?_)
  have hH := zh_X7_win
  have h0 : a_H (z_ui μ 50 0 0) := a_H_ui ha (bI_top _)
  have g0 : GW (z_ui μ 50 0 0) := GW_ne hg (by decide)
  have f0 : ∀ md, a_md md 50 0 = true → a_Fz md μ (z_ui μ 50 0 0) := fun md hm => a_Fz_ui (a_Fz_rf _ _) hm
  have r0 : ∀ x, zPE μ (some (.int x)) (z_ui μ 50 0 0) := fun x => ⟨⟨x, rfl⟩, ⟨h0, g0, f0 _ (by decide)⟩, Or.inr (f0 _ (by decide))⟩
  obtain ⟨a, ha4, ea⟩ := seat_nI ha
  have tl : ∀ (lv : zL) (μ1 : zM), z_lk lv 0 = some (.ref 50) → GST μ μ1 → Z 0 152 lv [] μ1 := by
    intro lv μ1 hl h1
    refine zq_st hc hH (by rfl) (z_ald hl) ?_
    refine zq_call hc (z_cx_ok hH (by rfl)) (fc_X7_takesBets d' (by omega) μ1 h1.1 h1.2.1) (by decide +kernel) (fun r9 μ9 hq => ?_)
    obtain ⟨rfl, q1, q2, q3⟩ := hq
    have h2 := h1.to q1 q2 q3 (by decide)
    clear q1 q2 q3
    have en : ∀ (x y : Int32), bI 0 1 x → bI 0 1 y → Z 0 189 lv [.int y, .int x, .ref 50] μ9 := by
      intro x y hx hy
      refine zq_call hc (z_cx_ok hH (by rfl)) (fc_X7_ends d' (by omega) μ9 x y hx hy h2.1) (by decide +kernel) (fun r8 μ8 hq => ?_)
      obtain ⟨rfl, q0, q1, q3⟩ := hq
      refine z_rcs hc hH 1 (pc' := 193) (lv' := lv) (st' := [.int 1]) (μ' := μ8) (by rfl) ?_
      exact hr 0 193 _ _ _ (some (.int 1)) (by decide +kernel) (by rfl) ⟨⟨1, rfl⟩, h2.to q1 (GW_keep h2.2.1 q3 (by decide)) q3 (by decide), Or.inl q0⟩
    have t0 : bI 0 1 0 := ⟨by decide, by decide⟩
    have t1 : bI 0 1 1 := ⟨by decide, by decide⟩
    show Z 0 156 lv [] μ9
    refine zq_st hc hH (pc := 156) (by rfl) (z_ald hl) ?_
    refine zq_st hc hH (pc := 157) (by rfl) (z_ald hl) ?_
    refine z_rcs hc hH 1 (pc' := 161) (lv' := lv) (st' := [.int (μ9.1 50 45), .ref 50]) (μ' := μ9) (by rfl) ?_
    refine zq_st hc hH (pc := 161) (by rfl) (z_ald hl) ?_
    refine z_rcs hc hH 1 (pc' := 165) (lv' := lv) (st' := [.int (μ9.1 50 40), .int (μ9.1 50 45), .ref 50]) (μ' := μ9) (by rfl) ?_
    refine zq_ic hc hH (by rfl) (tg := 172) (by rfl) (fun _ => ?_) (fun _ => ?_)
    · refine z_rcs hc hH 1 (pc' := 173) (lv' := lv) (st' := [.int 0, .ref 50]) (μ' := μ9) (by rfl) ?_
      refine zq_st hc hH (pc := 173) (by rfl) (z_ald hl) ?_
      refine z_rcs hc hH 1 (pc' := 177) (lv' := lv) (st' := [.int (μ9.1 50 45), .int 0, .ref 50]) (μ' := μ9) (by rfl) ?_
      refine zq_st hc hH (pc := 177) (by rfl) (z_ald hl) ?_
      refine z_rcs hc hH 1 (pc' := 181) (lv' := lv) (st' := [.int (μ9.1 50 40), .int (μ9.1 50 45), .int 0, .ref 50]) (μ' := μ9) (by rfl) ?_
      refine zq_ic hc hH (by rfl) (tg := 188) (by rfl) (fun _ => ?_) (fun _ => ?_)
      · refine z_rcs hc hH 1 (pc' := 189) (lv' := lv) (st' := [.int 0, .int 0, .ref 50]) (μ' := μ9) (by rfl) ?_
        exact en 0 0 t0 t0
      · refine z_rcs hc hH 2 (pc' := 189) (lv' := lv) (st' := [.int 1, .int 0, .ref 50]) (μ' := μ9) (by rfl) ?_
        exact en 0 1 t0 t1
    · refine z_rcs hc hH 2 (pc' := 173) (lv' := lv) (st' := [.int 1, .ref 50]) (μ' := μ9) (by rfl) ?_
      refine zq_st hc hH (pc := 173) (by rfl) (z_ald hl) ?_
      refine z_rcs hc hH 1 (pc' := 177) (lv' := lv) (st' := [.int (μ9.1 50 45), .int 1, .ref 50]) (μ' := μ9) (by rfl) ?_
      refine zq_st hc hH (pc := 177) (by rfl) (z_ald hl) ?_
      refine z_rcs hc hH 1 (pc' := 181) (lv' := lv) (st' := [.int (μ9.1 50 40), .int (μ9.1 50 45), .int 1, .ref 50]) (μ' := μ9) (by rfl) ?_
      refine zq_ic hc hH (by rfl) (tg := 188) (by rfl) (fun _ => ?_) (fun _ => ?_)
      · refine z_rcs hc hH 1 (pc' := 189) (lv' := lv) (st' := [.int 0, .int 1, .ref 50]) (μ' := μ9) (by rfl) ?_
        exact en 1 0 t1 t0
      · refine z_rcs hc hH 2 (pc' := 189) (lv' := lv) (st' := [.int 1, .int 1, .ref 50]) (μ' := μ9) (by rfl) ?_
        exact en 1 1 t1 t1
  have lp3 : ∀ (n i : Nat), i + n = 4 → ∀ (y bs : Int32) (μ1 : zM), GST μ μ1 → Z 0 77 [(2, .int (nI i)), (3, .int y), (1, .int bs), (0, .ref 50)] [] μ1 := by
    intro n
    induction n with
    | zero =>
      intro i hi y bs μ1 hA
      have hi : i = 4 := by omega
      subst hi
      refine z_rcs hc hH 2 (pc' := 79) (lv' := [(2, .int (nI 4)), (3, .int y), (1, .int bs), (0, .ref 50)]) (st' := [.int 4, .int (nI 4)]) (μ' := μ1) (by rfl) ?_
      refine zq_ic hc hH (by rfl) (tg := 152) (by rfl) (fun _ => ?_) (fun h9 => (zb_t (ge_nIt (n := 4) (i := 4) (by decide) (by decide)) h9).elim)
      exact tl _ μ1 rfl hA
    | succ n ih =>
      intro i hi y bs μ1 hA
      refine z_rcs hc hH 2 (pc' := 79) (lv' := [(2, .int (nI i)), (3, .int y), (1, .int bs), (0, .ref 50)]) (st' := [.int 4, .int (nI i)]) (μ' := μ1) (by rfl) ?_
      refine zq_ic hc hH (by rfl) (tg := 152) (by rfl) (fun h9 => (zb_t h9 (ge_nI (n := 4) (i := i) (by omega) (by decide))).elim) (fun _ => ?_)
      refine z_rcs hc hH 3 (pc' := 87) (lv' := [(2, .int (nI i)), (3, .int y), (1, .int bs), (0, .ref 50)]) (st' := [.int (μ1.1 50 45), .int (nI i)]) (μ' := μ1) (by rfl) ?_
      refine zq_ic hc hH (by rfl) (tg := 93) (by rfl) (fun h1 => ?_) (fun h1 => ?_)
      · have h1 := cm_ne.mp h1
        refine z_rcs hc hH 4 (pc' := 101) (lv' := [(2, .int (nI i)), (3, .int y), (1, .int bs), (0, .ref 50)]) (st' := [.int (μ1.1 50 40), .int (μ1.1 50 45)]) (μ' := μ1) (by rfl) ?_
        refine zq_ic hc hH (by rfl) (tg := 112) (by rfl) (fun h2 => ?_) (fun h2 => ?_)
        · have h2 := cm_eq9.mp h2
          refine z_rcs hc hH 12 (pc' := 132) (lv' := [(3, .int 1), (2, .int (nI i)), (1, .int bs), (0, .ref 50)]) (st' := [.int (bs * 2), .int 0, .int (nI i), .ref 50]) (μ' := μ1) (by rfl) ?_
          refine zq_call hc (z_cx_ok hH (by rfl)) (bs_X7_up (by omega) [.int (bs * 2)] _ (aArg_pre ⟨⟨_, rfl, bI_top _⟩, trivial⟩ rfl) hA.1) (by decide +kernel) (fun r9 μ9 hq => ?_)
          obtain ⟨-, hz, hr9⟩ := hq
          obtain ⟨v9, rfl, x9, rfl, -⟩ := hr9
          rw [a_Fz_nil hz]
          clear hz μ9
          show Z 0 135 [(3, .int 1), (2, .int (nI i)), (1, .int bs), (0, .ref 50)] [.int x9, .int 0, .int (nI i), .ref 50] μ1
          refine z_rcs hc hH 5 (pc' := 143) (lv' := [(3, .int 1), (2, .int (nI i)), (1, .int bs), (0, .ref 50)]) (st' := [.int (x9 + (100 * (μ1.1 50 42))), .int 0, .int (nI i), .ref 50]) (μ' := μ1) (by rfl) ?_
          refine zq_call hc (z_cx_ok hH (by rfl)) (fc_X7_pays d' (by omega) μ1 i 0 _ (by omega) (by decide) hA.1 hA.2.1) (by decide +kernel) (fun r9 μ9 hq => ?_)
          obtain ⟨rfl, q1, q2, q3⟩ := hq
          have hB := hA.to q1 q2 q3 (by decide)
          show Z 0 146 [(3, .int 1), (2, .int (nI i)), (1, .int bs), (0, .ref 50)] [] μ9
          refine z_rcs hc hH 2 (pc' := 77) (lv' := [(2, .int ((nI i) + 1)), (3, .int 1), (1, .int bs), (0, .ref 50)]) (st' := []) (μ' := μ9) (by rfl) ?_
          rw [nI_1]
          exact ih (i + 1) (by omega) _ _ _ hB
        · have h2 := cn_eq.mp h2
          refine z_rcs hc hH 3 (pc' := 109) (lv' := [(2, .int (nI i)), (3, .int y), (1, .int bs), (0, .ref 50)]) (st' := [.int (μ1.1 50 40), .int (nI i)]) (μ' := μ1) (by rfl) ?_
          refine zq_ic hc hH (by rfl) (tg := 116) (by rfl) (fun h3 => ?_) (fun h3 => ?_)
          · have h3 := cm_ne.mp h3
            refine z_rcs hc hH 10 (pc' := 132) (lv' := [(3, .int 0), (2, .int (nI i)), (1, .int bs), (0, .ref 50)]) (st' := [.int (bs * 1), .int 0, .int (nI i), .ref 50]) (μ' := μ1) (by rfl) ?_
            refine zq_call hc (z_cx_ok hH (by rfl)) (bs_X7_up (by omega) [.int (bs * 1)] _ (aArg_pre ⟨⟨_, rfl, bI_top _⟩, trivial⟩ rfl) hA.1) (by decide +kernel) (fun r9 μ9 hq => ?_)
            obtain ⟨-, hz, hr9⟩ := hq
            obtain ⟨v9, rfl, x9, rfl, -⟩ := hr9
            rw [a_Fz_nil hz]
            clear hz μ9
            show Z 0 135 [(3, .int 0), (2, .int (nI i)), (1, .int bs), (0, .ref 50)] [.int x9, .int 0, .int (nI i), .ref 50] μ1
            refine z_rcs hc hH 5 (pc' := 143) (lv' := [(3, .int 0), (2, .int (nI i)), (1, .int bs), (0, .ref 50)]) (st' := [.int (x9 + (100 * (μ1.1 50 42))), .int 0, .int (nI i), .ref 50]) (μ' := μ1) (by rfl) ?_
            refine zq_call hc (z_cx_ok hH (by rfl)) (fc_X7_pays d' (by omega) μ1 i 0 _ (by omega) (by decide) hA.1 hA.2.1) (by decide +kernel) (fun r9 μ9 hq => ?_)
            obtain ⟨rfl, q1, q2, q3⟩ := hq
            have hB := hA.to q1 q2 q3 (by decide)
            show Z 0 146 [(3, .int 0), (2, .int (nI i)), (1, .int bs), (0, .ref 50)] [] μ9
            refine z_rcs hc hH 2 (pc' := 77) (lv' := [(2, .int ((nI i) + 1)), (3, .int 0), (1, .int bs), (0, .ref 50)]) (st' := []) (μ' := μ9) (by rfl) ?_
            rw [nI_1]
            exact ih (i + 1) (by omega) _ _ _ hB
          · have h3 := cn_ne.mp h3
            refine z_rcs hc hH 12 (pc' := 132) (lv' := [(3, .int 1), (2, .int (nI i)), (1, .int bs), (0, .ref 50)]) (st' := [.int (bs * 2), .int 0, .int (nI i), .ref 50]) (μ' := μ1) (by rfl) ?_
            refine zq_call hc (z_cx_ok hH (by rfl)) (bs_X7_up (by omega) [.int (bs * 2)] _ (aArg_pre ⟨⟨_, rfl, bI_top _⟩, trivial⟩ rfl) hA.1) (by decide +kernel) (fun r9 μ9 hq => ?_)
            obtain ⟨-, hz, hr9⟩ := hq
            obtain ⟨v9, rfl, x9, rfl, -⟩ := hr9
            rw [a_Fz_nil hz]
            clear hz μ9
            show Z 0 135 [(3, .int 1), (2, .int (nI i)), (1, .int bs), (0, .ref 50)] [.int x9, .int 0, .int (nI i), .ref 50] μ1
            refine z_rcs hc hH 5 (pc' := 143) (lv' := [(3, .int 1), (2, .int (nI i)), (1, .int bs), (0, .ref 50)]) (st' := [.int (x9 + (100 * (μ1.1 50 42))), .int 0, .int (nI i), .ref 50]) (μ' := μ1) (by rfl) ?_
            refine zq_call hc (z_cx_ok hH (by rfl)) (fc_X7_pays d' (by omega) μ1 i 0 _ (by omega) (by decide) hA.1 hA.2.1) (by decide +kernel) (fun r9 μ9 hq => ?_)
            obtain ⟨rfl, q1, q2, q3⟩ := hq
            have hB := hA.to q1 q2 q3 (by decide)
            show Z 0 146 [(3, .int 1), (2, .int (nI i)), (1, .int bs), (0, .ref 50)] [] μ9
            refine z_rcs hc hH 2 (pc' := 77) (lv' := [(2, .int ((nI i) + 1)), (3, .int 1), (1, .int bs), (0, .ref 50)]) (st' := []) (μ' := μ9) (by rfl) ?_
            rw [nI_1]
            exact ih (i + 1) (by omega) _ _ _ hB
      · have h1 := cn_ne.mp h1
        refine z_rcs hc hH 3 (pc' := 77) (lv' := [(2, .int ((nI i) + 1)), (3, .int y), (1, .int bs), (0, .ref 50)]) (st' := []) (μ' := μ1) (by rfl) ?_
        rw [nI_1]
        exact ih (i + 1) (by omega) _ _ _ hA
  have lp0 : ∀ (n i : Nat), i + n = 4 → ∀ (y bs : Int32) (μ1 : zM), GST μ μ1 → Z 0 77 [(2, .int (nI i)), (1, .int bs), (0, .ref 50)] [] μ1 := by
    intro n
    induction n with
    | zero =>
      intro i hi y bs μ1 hA
      have hi : i = 4 := by omega
      subst hi
      refine z_rcs hc hH 2 (pc' := 79) (lv' := [(2, .int (nI 4)), (1, .int bs), (0, .ref 50)]) (st' := [.int 4, .int (nI 4)]) (μ' := μ1) (by rfl) ?_
      refine zq_ic hc hH (by rfl) (tg := 152) (by rfl) (fun _ => ?_) (fun h9 => (zb_t (ge_nIt (n := 4) (i := 4) (by decide) (by decide)) h9).elim)
      exact tl _ μ1 rfl hA
    | succ n ih =>
      intro i hi y bs μ1 hA
      refine z_rcs hc hH 2 (pc' := 79) (lv' := [(2, .int (nI i)), (1, .int bs), (0, .ref 50)]) (st' := [.int 4, .int (nI i)]) (μ' := μ1) (by rfl) ?_
      refine zq_ic hc hH (by rfl) (tg := 152) (by rfl) (fun h9 => (zb_t h9 (ge_nI (n := 4) (i := i) (by omega) (by decide))).elim) (fun _ => ?_)
      refine z_rcs hc hH 3 (pc' := 87) (lv' := [(2, .int (nI i)), (1, .int bs), (0, .ref 50)]) (st' := [.int (μ1.1 50 45), .int (nI i)]) (μ' := μ1) (by rfl) ?_
      refine zq_ic hc hH (by rfl) (tg := 93) (by rfl) (fun h1 => ?_) (fun h1 => ?_)
      · have h1 := cm_ne.mp h1
        refine z_rcs hc hH 4 (pc' := 101) (lv' := [(2, .int (nI i)), (1, .int bs), (0, .ref 50)]) (st' := [.int (μ1.1 50 40), .int (μ1.1 50 45)]) (μ' := μ1) (by rfl) ?_
        refine zq_ic hc hH (by rfl) (tg := 112) (by rfl) (fun h2 => ?_) (fun h2 => ?_)
        · have h2 := cm_eq9.mp h2
          refine z_rcs hc hH 12 (pc' := 132) (lv' := [(3, .int 1), (2, .int (nI i)), (1, .int bs), (0, .ref 50)]) (st' := [.int (bs * 2), .int 0, .int (nI i), .ref 50]) (μ' := μ1) (by rfl) ?_
          refine zq_call hc (z_cx_ok hH (by rfl)) (bs_X7_up (by omega) [.int (bs * 2)] _ (aArg_pre ⟨⟨_, rfl, bI_top _⟩, trivial⟩ rfl) hA.1) (by decide +kernel) (fun r9 μ9 hq => ?_)
          obtain ⟨-, hz, hr9⟩ := hq
          obtain ⟨v9, rfl, x9, rfl, -⟩ := hr9
          rw [a_Fz_nil hz]
          clear hz μ9
          show Z 0 135 [(3, .int 1), (2, .int (nI i)), (1, .int bs), (0, .ref 50)] [.int x9, .int 0, .int (nI i), .ref 50] μ1
          refine z_rcs hc hH 5 (pc' := 143) (lv' := [(3, .int 1), (2, .int (nI i)), (1, .int bs), (0, .ref 50)]) (st' := [.int (x9 + (100 * (μ1.1 50 42))), .int 0, .int (nI i), .ref 50]) (μ' := μ1) (by rfl) ?_
          refine zq_call hc (z_cx_ok hH (by rfl)) (fc_X7_pays d' (by omega) μ1 i 0 _ (by omega) (by decide) hA.1 hA.2.1) (by decide +kernel) (fun r9 μ9 hq => ?_)
          obtain ⟨rfl, q1, q2, q3⟩ := hq
          have hB := hA.to q1 q2 q3 (by decide)
          show Z 0 146 [(3, .int 1), (2, .int (nI i)), (1, .int bs), (0, .ref 50)] [] μ9
          refine z_rcs hc hH 2 (pc' := 77) (lv' := [(2, .int ((nI i) + 1)), (3, .int 1), (1, .int bs), (0, .ref 50)]) (st' := []) (μ' := μ9) (by rfl) ?_
          rw [nI_1]
          exact lp3 n (i + 1) (by omega) _ _ _ hB
        · have h2 := cn_eq.mp h2
          refine z_rcs hc hH 3 (pc' := 109) (lv' := [(2, .int (nI i)), (1, .int bs), (0, .ref 50)]) (st' := [.int (μ1.1 50 40), .int (nI i)]) (μ' := μ1) (by rfl) ?_
          refine zq_ic hc hH (by rfl) (tg := 116) (by rfl) (fun h3 => ?_) (fun h3 => ?_)
          · have h3 := cm_ne.mp h3
            refine z_rcs hc hH 10 (pc' := 132) (lv' := [(3, .int 0), (2, .int (nI i)), (1, .int bs), (0, .ref 50)]) (st' := [.int (bs * 1), .int 0, .int (nI i), .ref 50]) (μ' := μ1) (by rfl) ?_
            refine zq_call hc (z_cx_ok hH (by rfl)) (bs_X7_up (by omega) [.int (bs * 1)] _ (aArg_pre ⟨⟨_, rfl, bI_top _⟩, trivial⟩ rfl) hA.1) (by decide +kernel) (fun r9 μ9 hq => ?_)
            obtain ⟨-, hz, hr9⟩ := hq
            obtain ⟨v9, rfl, x9, rfl, -⟩ := hr9
            rw [a_Fz_nil hz]
            clear hz μ9
            show Z 0 135 [(3, .int 0), (2, .int (nI i)), (1, .int bs), (0, .ref 50)] [.int x9, .int 0, .int (nI i), .ref 50] μ1
            refine z_rcs hc hH 5 (pc' := 143) (lv' := [(3, .int 0), (2, .int (nI i)), (1, .int bs), (0, .ref 50)]) (st' := [.int (x9 + (100 * (μ1.1 50 42))), .int 0, .int (nI i), .ref 50]) (μ' := μ1) (by rfl) ?_
            refine zq_call hc (z_cx_ok hH (by rfl)) (fc_X7_pays d' (by omega) μ1 i 0 _ (by omega) (by decide) hA.1 hA.2.1) (by decide +kernel) (fun r9 μ9 hq => ?_)
            obtain ⟨rfl, q1, q2, q3⟩ := hq
            have hB := hA.to q1 q2 q3 (by decide)
            show Z 0 146 [(3, .int 0), (2, .int (nI i)), (1, .int bs), (0, .ref 50)] [] μ9
            refine z_rcs hc hH 2 (pc' := 77) (lv' := [(2, .int ((nI i) + 1)), (3, .int 0), (1, .int bs), (0, .ref 50)]) (st' := []) (μ' := μ9) (by rfl) ?_
            rw [nI_1]
            exact lp3 n (i + 1) (by omega) _ _ _ hB
          · have h3 := cn_ne.mp h3
            refine z_rcs hc hH 12 (pc' := 132) (lv' := [(3, .int 1), (2, .int (nI i)), (1, .int bs), (0, .ref 50)]) (st' := [.int (bs * 2), .int 0, .int (nI i), .ref 50]) (μ' := μ1) (by rfl) ?_
            refine zq_call hc (z_cx_ok hH (by rfl)) (bs_X7_up (by omega) [.int (bs * 2)] _ (aArg_pre ⟨⟨_, rfl, bI_top _⟩, trivial⟩ rfl) hA.1) (by decide +kernel) (fun r9 μ9 hq => ?_)
            obtain ⟨-, hz, hr9⟩ := hq
            obtain ⟨v9, rfl, x9, rfl, -⟩ := hr9
            rw [a_Fz_nil hz]
            clear hz μ9
            show Z 0 135 [(3, .int 1), (2, .int (nI i)), (1, .int bs), (0, .ref 50)] [.int x9, .int 0, .int (nI i), .ref 50] μ1
            refine z_rcs hc hH 5 (pc' := 143) (lv' := [(3, .int 1), (2, .int (nI i)), (1, .int bs), (0, .ref 50)]) (st' := [.int (x9 + (100 * (μ1.1 50 42))), .int 0, .int (nI i), .ref 50]) (μ' := μ1) (by rfl) ?_
            refine zq_call hc (z_cx_ok hH (by rfl)) (fc_X7_pays d' (by omega) μ1 i 0 _ (by omega) (by decide) hA.1 hA.2.1) (by decide +kernel) (fun r9 μ9 hq => ?_)
            obtain ⟨rfl, q1, q2, q3⟩ := hq
            have hB := hA.to q1 q2 q3 (by decide)
            show Z 0 146 [(3, .int 1), (2, .int (nI i)), (1, .int bs), (0, .ref 50)] [] μ9
            refine z_rcs hc hH 2 (pc' := 77) (lv' := [(2, .int ((nI i) + 1)), (3, .int 1), (1, .int bs), (0, .ref 50)]) (st' := []) (μ' := μ9) (by rfl) ?_
            rw [nI_1]
            exact lp3 n (i + 1) (by omega) _ _ _ hB
      · have h1 := cn_ne.mp h1
        refine z_rcs hc hH 3 (pc' := 77) (lv' := [(2, .int ((nI i) + 1)), (1, .int bs), (0, .ref 50)]) (st' := []) (μ' := μ1) (by rfl) ?_
        rw [nI_1]
        exact ih (i + 1) (by omega) y _ _ hA
  refine z_rcs hc hH 6 (pc' := 10) (lv' := [(0, .ref 50)]) (st' := [.int 1, .int (μ.1 50 44)]) (μ' := z_ui μ 50 0 0) (by rfl) ?_
  refine zq_ic hc hH (by rfl) (tg := 20) (by rfl) (fun h1 => ?_) (fun h1 => ?_)
  · have h1 := cm_ne.mp h1
    refine z_rcs hc hH 1 (pc' := 21) (lv' := [(0, .ref 50)]) (st' := [.int 0]) (μ' := z_ui μ 50 0 0) (by rfl) ?_
    exact hr 0 21 _ _ _ (some (.int 0)) (by decide +kernel) (z_rx_ok hH (by rfl)) (r0 _)
  · have h1 := cn_ne.mp h1
    refine z_rcs hc hH 2 (pc' := 17) (lv' := [(0, .ref 50)]) (st' := [.int (μ.1 50 57)]) (μ' := z_ui μ 50 0 0) (by rfl) ?_
    refine zq_if hc hH (by rfl) (tg := 22) (by rfl) (fun h2 => ?_) (fun h2 => ?_)
    · have h2 := cm_eq9.mp h2
      refine z_rcs hc hH 6 (pc' := 32) (lv' := [(0, .ref 50)]) (st' := [.int 1, .int (μ.1 50 49), .int (μ.1 50 45), .ref 50]) (μ' := z_ui μ 50 0 0) (by rfl) ?_
      obtain ⟨b, hb4, eb⟩ : ∃ b, b < 34 ∧ μ.1 50 49 = nI b := by
        have q := hT h1 h2
        obtain ⟨b, h1, h2⟩ := vp_in_of (n := 34) (vp_in_bI (b := (0, 33)) (x := μ.1 50 49) ⟨q, (ha 50 49).2⟩ (by decide)) (by decide)
        exact ⟨b, h1, h2⟩
      refine zq_call hc (z_cx_ok hH (by rfl)) (a_use (i := 121) (K := ak_121) rfl (by omega) [.ref 50, .int (μ.1 50 45), .int (μ.1 50 49), .int 1] _ (aArg_pre ⟨⟨50, by decide, rfl⟩, ⟨_, rfl, ha 50 45⟩, ⟨_, rfl, ⟨hT h1 h2, (ha 50 49).2⟩⟩, ⟨1, rfl, by decide, by decide⟩, trivial⟩ rfl) h0) (by decide +kernel) (fun r9 μ9 hq => ?_)
      obtain ⟨q1, q3, rfl⟩ := hq
      have q2 : GW μ9 := GW_keep g0 q3 (by decide)
      have fV : a_Fz md_V μ μ9 := a_Fz_tr (by decide +kernel) (f0 _ (by decide +kernel)) q3
      have hS : GST μ μ9 := ⟨q1, q2, a_Fz_tr (by decide +kernel) (f0 _ (by decide +kernel)) q3⟩
      have ea9 : μ9.1 50 45 = nI a := by rw [a_Fz_at fV 50 45 (by decide +kernel), ea]
      show Z 0 35 [(0, .ref 50)] [] μ9
      refine z_rcs hc hH 2 (pc' := 39) (lv' := [(0, .ref 50)]) (st' := [.int (μ9.1 50 18)]) (μ' := μ9) (by rfl) ?_
      refine zq_if hc hH (by rfl) (tg := 49) (by rfl) (fun h3 => ?_) (fun h3 => ?_)
      · have h3 := cm_eq9.mp h3
        refine z_rcs hc hH 1 (pc' := 50) (lv' := [(0, .ref 50)]) (st' := [.int 0]) (μ' := μ9) (by rfl) ?_
        exact hr 0 50 _ _ _ (some (.int 0)) (by decide +kernel) (z_rx_ok hH (by rfl)) (⟨⟨_, rfl⟩, hS, Or.inr fV⟩)
      · have h3 := cn_eq.mp h3
        refine z_rcs hc hH 2 (pc' := 46) (lv' := [(0, .ref 50)]) (st' := [.int (μ9.1 50 13)]) (μ' := μ9) (by rfl) ?_
        refine zq_if hc hH (by rfl) (tg := 51) (by rfl) (fun h4 => ?_) (fun h4 => ?_)
        · have h4 := cm_ne.mp h4
          refine z_rcs hc hH 10 (pc' := 67) (lv' := [(0, .ref 50)]) (st' := [.int (μ9.1 50 49), .int (-1), .int (μ9.1 50 45), .int 0, .ref 50]) (μ' := z_ui μ9 50 53 1) (by rfl) ?_
          have hS2 : GST μ (z_ui μ9 50 53 1) := hS.to (md := [(50, 53)]) (a_H_ui hS.1 ⟨by decide, by decide⟩) (GW_ne hS.2.1 (by decide +kernel)) (a_Fz_ui (a_Fz_rf _ _) (by decide +kernel)) (by decide +kernel)
          rw [show (μ9.1 50 45) = nI a from ea9]
          refine zq_call hc (z_cx_ok hH (by rfl)) (fc_X7_writes d' (by omega) (z_ui μ9 50 53 1) 0 a _ _ (by decide) ha4 hS2.1 hS2.2.1) (by decide +kernel) (fun r8 μ8 hq => ?_)
          obtain ⟨rfl, q4, q5, q6⟩ := hq
          have hS3 := hS2.to q4 q5 q6 (by decide)
          show Z 0 70 [(0, .ref 50)] [] μ8
          refine z_rcs hc hH 5 (pc' := 77) (lv' := [(2, .int 0), (1, .int (μ8.1 50 13)), (0, .ref 50)]) (st' := []) (μ' := μ8) (by rfl) ?_
          exact lp0 4 0 rfl 0 _ _ hS3
        · have h4 := cn_ne.mp h4
          refine z_rcs hc hH 1 (pc' := 50) (lv' := [(0, .ref 50)]) (st' := [.int 0]) (μ' := μ9) (by rfl) ?_
          exact hr 0 50 _ _ _ (some (.int 0)) (by decide +kernel) (z_rx_ok hH (by rfl)) (⟨⟨_, rfl⟩, hS, Or.inr fV⟩)
    · have h2 := cn_eq.mp h2
      refine z_rcs hc hH 1 (pc' := 21) (lv' := [(0, .ref 50)]) (st' := [.int 0]) (μ' := z_ui μ 50 0 0) (by rfl) ?_
      exact hr 0 21 _ _ _ (some (.int 0)) (by decide +kernel) (z_rx_ok hH (by rfl)) (r0 _)
/-! nine ends, and all who say so win -/
noncomputable def bk_nine : aQ := (137, [(2, (0, 0), [50], (0, 0))], [], [(50, 0)], (0, (0, 1), [], (0, 0)))
noncomputable def bc_nine : List aC := [(0, [(0, (2, (0, 0), [50], (0, 0)))], [], [], [(1000, 0, 0), (0, 0, 0), (0, 0, 0), (0, 0, 0), (0, 0, 0), (0, 0, 0), (0, 0, 0)]), (95, [(0, (2, (0, 0), [50], (0, 0)))], [(0, (1, 1), [], (0, 0)), (0, (1, 1), [], (0, 0)), (2, (0, 0), [50], (0, 0))], [(0, 44, (0, (1, 1), [], (0, 0))), (0, 45, (0, (0, 3), [], (0, 0)))], [(5, 0, 0), (0, 0, 0), (0, 0, 0), (0, 0, 0), (0, 0, 0), (0, 0, 0), (0, 0, 0)]), (39, [(0, (2, (0, 0), [50], (0, 0)))], [], [(0, 44, (0, (0, 3), [], (0, 0)))], [(2, 0, 0), (0, 0, 0), (0, 0, 0), (0, 0, 0), (0, 0, 0), (0, 0, 0), (0, 0, 0)]), (45, [(0, (2, (0, 0), [50], (0, 0))), (1, ai), (2, (0, (0, 34), [], (0, 0)))], [], [(0, 44, (0, (1, 1), [], (0, 0))), (0, 45, (0, (0, 3), [], (0, 0)))], [(33, 0, 0), (34, 1, 2), (1000, 0, 0), (0, 0, 0), (0, 0, 0), (0, 0, 0), (0, 0, 0)]), (75, [(0, (2, (0, 0), [50], (0, 0))), (2, (0, (0, 33), [], (0, 0)))], [ai], [(0, 44, (0, (1, 1), [], (0, 0))), (0, 45, (0, (0, 3), [], (0, 0)))], [(33, 0, 0), (34, 1, 2), (18, 0, 0), (0, 0, 0), (0, 0, 0), (0, 0, 0), (0, 0, 0)]), (76, [(0, (2, (0, 0), [50], (0, 0))), (2, (0, (0, 33), [], (0, 0)))], [(0, (0, 1), [], (0, 0)), ai], [(0, 44, (0, (1, 1), [], (0, 0))), (0, 45, (0, (0, 3), [], (0, 0)))], [(33, 0, 0), (34, 1, 2), (17, 0, 0), (0, 0, 0), (0, 0, 0), (0, 0, 0), (0, 0, 0)])]
set_option maxRecDepth 1000000 in
theorem bg_nine : a_goodx (a_Ks.take 139) (a_Zd, a_Zs) bk_nine bc_nine [95] 2000 4 6 = true := by decide +kernel
theorem st_3 {q0 q1 q2 : aI} {st : List Value} (h : st.length = 3 ∧ ∀ (i : Nat) (q : aI) (v : Value), [q0, q1, q2][i]? = some q → st[i]? = some v → a_ok q v) : ∃ v0 v1 v2, st = [v0, v1, v2] ∧ a_ok q0 v0 ∧ a_ok q1 v1 ∧ a_ok q2 v2 := by
  obtain ⟨h1, h2⟩ := h
  match st, h1, h2 with
  | [v0, v1, v2], _, h2 => exact ⟨v0, v1, v2, rfl, h2 0 q0 v0 rfl rfl, h2 1 q1 v1 rfl rfl, h2 2 q2 v2 rfl rfl⟩
theorem zPE_0 {μ μ' : zM} {x : Int32} {md : List (Nat × Nat)} (hg : GW μ) (h1 : a_H μ') (h2 : a_Fz md μ μ') (hm : a_mds md md_V = true) (hm2 : a_mds md md_E = true) (hm3 : (md.all (fun q => !Nat.beq q.1 72)) = true) : zPE μ (some (.int x)) μ' := ⟨⟨x, rfl⟩, ⟨h1, GW_keep hg h2 hm3, a_Fz_tr hm2 (a_Fz_rf _ _) h2⟩, Or.inr (a_Fz_tr hm (a_Fz_rf _ _) h2)⟩
theorem zh_X7_nine : zH mi_X7_nine zt_X7_nine 79 7 3 := hh_X7_nine
theorem fc_X7_nine (d : Nat) (hd : 702 ≤ d) (μ : zM) (ha : a_H μ) (hg : GW μ) : z_C d mi_X7_nine [.ref 50] μ (zPE μ) := by
  refine z_C_in (by decide) (by omega) (fun d' Z ed hc hr => ?_)
  have hH := zh_X7_nine
  refine a_from (K := bk_nine) aK_all bg_nine (by omega) hc μ ?_ ?_ _ (List.mem_cons_self) _ _ _ (a_At_mk ⟨⟨_, rfl, 50, by decide, rfl⟩, trivial⟩ trivial trivial ha (a_Fz_rf _ _))
  · intro pc lv st μ' v hv h1 h2 h3
    obtain ⟨v9, rfl, x9, rfl, -⟩ := h3
    exact hr 0 pc lv st μ' _ (Nat.zero_le _) hv (zPE_0 hg h1 h2 (by decide) (by decide) (by decide))
  · intro c hc1 hc2 lv st μ1 hAt
    have e : c = bc_nine[1] := by
      have e1 : bc_nine.filter (fun c => List.any [95] (Nat.beq c.1)) = [bc_nine[1]] := by rfl
      have e2 : c ∈ bc_nine.filter (fun c => List.any [95] (Nat.beq c.1)) := List.mem_filter.mpr ⟨hc1, hc2⟩
      rw [e1] at e2
      exact List.mem_singleton.mp e2
    subst e
    obtain ⟨-, h2, -, h4, h5⟩ := hAt
    obtain ⟨v0, v1, v2, rfl, ⟨x, rfl, hx⟩, ⟨y, rfl, hy⟩, r, hr2, rfl⟩ := st_3 h2
    have hr2 : r = 50 := by simpa using hr2
    subst hr2
    show Z 0 95 lv [.int x, .int y, .ref 50] μ1
    have hS : GST μ μ1 := ⟨h4, GW_keep hg h5 (by decide +kernel), a_Fz_tr (by decide +kernel) (a_Fz_rf _ _) h5⟩
    refine zq_call hc (z_cx_ok hH (by rfl)) (fc_X7_ends d' (by omega) μ1 y x (bI_w hy ⟨by decide, by decide⟩) (bI_w hx ⟨by decide, by decide⟩) h4) (by decide +kernel) (fun r8 μ8 hq => ?_)
    obtain ⟨rfl, q0, q1, q3⟩ := hq
    refine z_rcs hc hH 1 (pc' := 99) (lv' := lv) (st' := [.int 1]) (μ' := μ8) (by rfl) ?_
    exact hr 0 99 _ _ _ (some (.int 1)) (by decide +kernel) (by rfl) ⟨⟨1, rfl⟩, hS.to q1 (GW_keep hS.2.1 q3 (by decide)) q3 (by decide), Or.inl q0⟩
theorem zh_X7_allWin : zH mi_X7_allWin zt_X7_allWin 79 7 5 := hh_X7_allWin
theorem nI_r4 : ∀ n, n < 8 → nI n - nI n / 4 * 4 = nI (n % 4) := by decide +kernel
/-- while all win -/
noncomputable def AW (μ : zM) (b i : Nat) (μ1 : zM) : Prop := GST μ μ1 ∧ μ1.1 50 49 = nI b ∧ ∃ w, w < i ∧ μ1.1 50 53 = nI w
set_option maxRecDepth 100000 in
theorem fc_X7_allWin (d : Nat) (hd : 703 ≤ d) (μ : zM) (ha : a_H μ) (hg : GW μ) (hT : 0 ≤ (μ.1 50 49).toInt) : z_C d mi_X7_allWin [.ref 50] μ (fun r μ' => r = none ∧ GST μ μ' ∧ μ'.1 50 44 = 0) := by
  refine z_C_in (by decide) (by omega) (fun d' Z ed hc hr => ?_)
  have hH := zh_X7_allWin
  obtain ⟨a, ha4, ea⟩ := seat_nI ha
  obtain ⟨b, hb4, eb⟩ : ∃ b, b < 34 ∧ μ.1 50 49 = nI b := by
    obtain ⟨b, h1, h2⟩ := vp_in_of (n := 34) (vp_in_bI (b := (0, 33)) (x := μ.1 50 49) ⟨hT, (ha 50 49).2⟩ (by decide)) (by decide)
    exact ⟨b, h1, h2⟩
  have eA : ∀ μ1, GST μ μ1 → μ1.1 50 45 = nI a := fun μ1 h => by rw [a_Fz_at h.2.2 50 45 (by decide +kernel), ea]
  have lp : ∀ (n i : Nat), i + n = 4 → 1 ≤ i → ∀ (x y z : Int32) (μ1 : zM), bI 0 1 x → AW μ b i μ1 → Z 0 9 [(2, .int (nI i)), (1, .int x), (4, .int y), (3, .int z), (0, .ref 50)] [] μ1 ∧ Z 0 9 [(2, .int (nI i)), (3, .int z), (1, .int x), (4, .int y), (0, .ref 50)] [] μ1 ∧ Z 0 9 [(2, .int (nI i)), (3, .int z), (1, .int x), (0, .ref 50)] [] μ1 ∧ Z 0 9 [(2, .int (nI i)), (1, .int x), (0, .ref 50)] [] μ1 := by
    intro n
    induction n with
    | zero =>
      intro i hi hi1 x y z μ1 hx hA
      have hi : i = 4 := by omega
      subst hi
      obtain ⟨hS, -⟩ := hA
      refine ⟨?_, ?_, ?_, ?_⟩
      · skip
        refine z_rcs hc hH 2 (pc' := 11) (lv' := [(2, .int (nI 4)), (1, .int x), (4, .int y), (3, .int z), (0, .ref 50)]) (st' := [.int 4, .int (nI 4)]) (μ' := μ1) (by rfl) ?_
        refine zq_ic hc hH (by rfl) (tg := 154) (by rfl) (fun _ => ?_) (fun h9 => (zb_t (ge_nIt (n := 4) (i := 4) (by decide) (by decide)) h9).elim)
        refine z_rcs hc hH 1 (pc' := 155) (lv' := [(2, .int (nI 4)), (1, .int x), (4, .int y), (3, .int z), (0, .ref 50)]) (st' := [.ref 50]) (μ' := μ1) (by rfl) ?_
        refine zq_call hc (z_cx_ok hH (by rfl)) (fc_X7_takesBets d' (by omega) μ1 hS.1 hS.2.1) (by decide +kernel) (fun r9 μ9 hq => ?_)
        obtain ⟨rfl, q1, q2, q3⟩ := hq
        have hS2 := hS.to q1 q2 q3 (by decide)
        show Z 0 158 [(2, .int (nI 4)), (1, .int x), (4, .int y), (3, .int z), (0, .ref 50)] [] μ9
        refine z_rcs hc hH 3 (pc' := 161) (lv' := [(2, .int (nI 4)), (1, .int x), (4, .int y), (3, .int z), (0, .ref 50)]) (st' := [.int x, .int x, .ref 50]) (μ' := μ9) (by rfl) ?_
        refine zq_call hc (z_cx_ok hH (by rfl)) (fc_X7_ends d' (by omega) μ9 x x hx hx hS2.1) (by decide +kernel) (fun r8 μ8 hq => ?_)
        obtain ⟨rfl, q0, q4, q5⟩ := hq
        show Z 0 164 [(2, .int (nI 4)), (1, .int x), (4, .int y), (3, .int z), (0, .ref 50)] [] μ8
        exact hr 0 164 _ _ _ none (by decide +kernel) (by rfl) (⟨rfl, hS2.to q4 (GW_keep hS2.2.1 q5 (by decide)) q5 (by decide), q0⟩)
      · skip
        refine z_rcs hc hH 2 (pc' := 11) (lv' := [(2, .int (nI 4)), (3, .int z), (1, .int x), (4, .int y), (0, .ref 50)]) (st' := [.int 4, .int (nI 4)]) (μ' := μ1) (by rfl) ?_
        refine zq_ic hc hH (by rfl) (tg := 154) (by rfl) (fun _ => ?_) (fun h9 => (zb_t (ge_nIt (n := 4) (i := 4) (by decide) (by decide)) h9).elim)
        refine z_rcs hc hH 1 (pc' := 155) (lv' := [(2, .int (nI 4)), (3, .int z), (1, .int x), (4, .int y), (0, .ref 50)]) (st' := [.ref 50]) (μ' := μ1) (by rfl) ?_
        refine zq_call hc (z_cx_ok hH (by rfl)) (fc_X7_takesBets d' (by omega) μ1 hS.1 hS.2.1) (by decide +kernel) (fun r9 μ9 hq => ?_)
        obtain ⟨rfl, q1, q2, q3⟩ := hq
        have hS2 := hS.to q1 q2 q3 (by decide)
        show Z 0 158 [(2, .int (nI 4)), (3, .int z), (1, .int x), (4, .int y), (0, .ref 50)] [] μ9
        refine z_rcs hc hH 3 (pc' := 161) (lv' := [(2, .int (nI 4)), (3, .int z), (1, .int x), (4, .int y), (0, .ref 50)]) (st' := [.int x, .int x, .ref 50]) (μ' := μ9) (by rfl) ?_
        refine zq_call hc (z_cx_ok hH (by rfl)) (fc_X7_ends d' (by omega) μ9 x x hx hx hS2.1) (by decide +kernel) (fun r8 μ8 hq => ?_)
        obtain ⟨rfl, q0, q4, q5⟩ := hq
        show Z 0 164 [(2, .int (nI 4)), (3, .int z), (1, .int x), (4, .int y), (0, .ref 50)] [] μ8
        exact hr 0 164 _ _ _ none (by decide +kernel) (by rfl) (⟨rfl, hS2.to q4 (GW_keep hS2.2.1 q5 (by decide)) q5 (by decide), q0⟩)
      · skip
        refine z_rcs hc hH 2 (pc' := 11) (lv' := [(2, .int (nI 4)), (3, .int z), (1, .int x), (0, .ref 50)]) (st' := [.int 4, .int (nI 4)]) (μ' := μ1) (by rfl) ?_
        refine zq_ic hc hH (by rfl) (tg := 154) (by rfl) (fun _ => ?_) (fun h9 => (zb_t (ge_nIt (n := 4) (i := 4) (by decide) (by decide)) h9).elim)
        refine z_rcs hc hH 1 (pc' := 155) (lv' := [(2, .int (nI 4)), (3, .int z), (1, .int x), (0, .ref 50)]) (st' := [.ref 50]) (μ' := μ1) (by rfl) ?_
        refine zq_call hc (z_cx_ok hH (by rfl)) (fc_X7_takesBets d' (by omega) μ1 hS.1 hS.2.1) (by decide +kernel) (fun r9 μ9 hq => ?_)
        obtain ⟨rfl, q1, q2, q3⟩ := hq
        have hS2 := hS.to q1 q2 q3 (by decide)
        show Z 0 158 [(2, .int (nI 4)), (3, .int z), (1, .int x), (0, .ref 50)] [] μ9
        refine z_rcs hc hH 3 (pc' := 161) (lv' := [(2, .int (nI 4)), (3, .int z), (1, .int x), (0, .ref 50)]) (st' := [.int x, .int x, .ref 50]) (μ' := μ9) (by rfl) ?_
        refine zq_call hc (z_cx_ok hH (by rfl)) (fc_X7_ends d' (by omega) μ9 x x hx hx hS2.1) (by decide +kernel) (fun r8 μ8 hq => ?_)
        obtain ⟨rfl, q0, q4, q5⟩ := hq
        show Z 0 164 [(2, .int (nI 4)), (3, .int z), (1, .int x), (0, .ref 50)] [] μ8
        exact hr 0 164 _ _ _ none (by decide +kernel) (by rfl) (⟨rfl, hS2.to q4 (GW_keep hS2.2.1 q5 (by decide)) q5 (by decide), q0⟩)
      · skip
        refine z_rcs hc hH 2 (pc' := 11) (lv' := [(2, .int (nI 4)), (1, .int x), (0, .ref 50)]) (st' := [.int 4, .int (nI 4)]) (μ' := μ1) (by rfl) ?_
        refine zq_ic hc hH (by rfl) (tg := 154) (by rfl) (fun _ => ?_) (fun h9 => (zb_t (ge_nIt (n := 4) (i := 4) (by decide) (by decide)) h9).elim)
        refine z_rcs hc hH 1 (pc' := 155) (lv' := [(2, .int (nI 4)), (1, .int x), (0, .ref 50)]) (st' := [.ref 50]) (μ' := μ1) (by rfl) ?_
        refine zq_call hc (z_cx_ok hH (by rfl)) (fc_X7_takesBets d' (by omega) μ1 hS.1 hS.2.1) (by decide +kernel) (fun r9 μ9 hq => ?_)
        obtain ⟨rfl, q1, q2, q3⟩ := hq
        have hS2 := hS.to q1 q2 q3 (by decide)
        show Z 0 158 [(2, .int (nI 4)), (1, .int x), (0, .ref 50)] [] μ9
        refine z_rcs hc hH 3 (pc' := 161) (lv' := [(2, .int (nI 4)), (1, .int x), (0, .ref 50)]) (st' := [.int x, .int x, .ref 50]) (μ' := μ9) (by rfl) ?_
        refine zq_call hc (z_cx_ok hH (by rfl)) (fc_X7_ends d' (by omega) μ9 x x hx hx hS2.1) (by decide +kernel) (fun r8 μ8 hq => ?_)
        obtain ⟨rfl, q0, q4, q5⟩ := hq
        show Z 0 164 [(2, .int (nI 4)), (1, .int x), (0, .ref 50)] [] μ8
        exact hr 0 164 _ _ _ none (by decide +kernel) (by rfl) (⟨rfl, hS2.to q4 (GW_keep hS2.2.1 q5 (by decide)) q5 (by decide), q0⟩)
    | succ n ih =>
      intro i hi hi1 x y z μ1 hx hA
      obtain ⟨hS, eb1, w, hw, ew⟩ := hA
      have ea1 := eA μ1 hS
      have he : (a + i) % 4 < 4 := by omega
      have t0 : bI 0 1 0 := ⟨by decide, by decide⟩
      have t1 : bI 0 1 1 := ⟨by decide, by decide⟩
      have mid : ∀ (bs : Int32) (μ2 : zM), GST μ μ2 → μ2.1 50 49 = nI b → μ2.1 50 53 = nI w → Z 0 68 [(4, .int bs), (3, .int (nI ((a + i) % 4))), (2, .int (nI i)), (1, .int x), (0, .ref 50)] [] μ2 := by
        intro bs μ2 hB eb2 ew2
        have ea2 := eA μ2 hB
        refine z_rcs hc hH 9 (pc' := 84) (lv' := [(4, .int bs), (3, .int (nI ((a + i) % 4))), (2, .int (nI i)), (1, .int x), (0, .ref 50)]) (st' := [.int (μ2.1 50 40), .int (nI ((a + i) % 4)), .int bs, .int (μ2.1 50 53), .int (μ2.1 50 45), .ref 50]) (μ' := μ2) (by rfl) ?_
        refine zq_ic hc hH (by rfl) (tg := 92) (by rfl) (fun h1 => ?_) (fun h1 => ?_)
        · have h1 := cm_ne.mp h1
          refine z_rcs hc hH 2 (pc' := 94) (lv' := [(4, .int bs), (3, .int (nI ((a + i) % 4))), (2, .int (nI i)), (1, .int x), (0, .ref 50)]) (st' := [.int (bs * 4), .int (μ2.1 50 53), .int (μ2.1 50 45), .ref 50]) (μ' := μ2) (by rfl) ?_
          refine zq_call hc (z_cx_ok hH (by rfl)) (bs_X7_up (by omega) [.int (bs * 4)] _ (aArg_pre ⟨⟨_, rfl, bI_top _⟩, trivial⟩ rfl) hB.1) (by decide +kernel) (fun r9 μ9 hq => ?_)
          obtain ⟨-, hz, hr9⟩ := hq
          obtain ⟨v9, rfl, x9, rfl, -⟩ := hr9
          rw [a_Fz_nil hz]
          clear hz μ9
          show Z 0 97 [(4, .int bs), (3, .int (nI ((a + i) % 4))), (2, .int (nI i)), (1, .int x), (0, .ref 50)] [.int x9, .int (μ2.1 50 53), .int (μ2.1 50 45), .ref 50] μ2
          refine z_rcs hc hH 2 (pc' := 101) (lv' := [(4, .int bs), (3, .int (nI ((a + i) % 4))), (2, .int (nI i)), (1, .int x), (0, .ref 50)]) (st' := [.int (μ2.1 50 53), .int x9, .int (μ2.1 50 53), .int (μ2.1 50 45), .ref 50]) (μ' := μ2) (by rfl) ?_
          refine zq_if hc hH (by rfl) (tg := 115) (by rfl) (fun h2 => ?_) (fun h2 => ?_)
          · have h2 := cm_ne.mp h2
            refine z_rcs hc hH 2 (pc' := 117) (lv' := [(4, .int bs), (3, .int (nI ((a + i) % 4))), (2, .int (nI i)), (1, .int x), (0, .ref 50)]) (st' := [.int (x9 + 0), .int (μ2.1 50 53), .int (μ2.1 50 45), .ref 50]) (μ' := μ2) (by rfl) ?_
            rw [ea2, ew2]
            refine zq_call hc (z_cx_ok hH (by rfl)) (fc_X7_pays d' (by omega) μ2 a w _ ha4 (by omega) hB.1 hB.2.1) (by decide +kernel) (fun r9 μ9 hq => ?_)
            obtain ⟨rfl, q1, q2, q3⟩ := hq
            have hC := hB.to q1 q2 q3 (by decide)
            have eb3 : μ9.1 50 49 = nI b := by rw [a_Fz_at q3 50 49 (by decide +kernel), eb2]
            have ew3 : μ9.1 50 53 = nI w := by rw [a_Fz_at q3 50 53 (by decide +kernel), ew2]
            show Z 0 120 [(4, .int bs), (3, .int (nI ((a + i) % 4))), (2, .int (nI i)), (1, .int x), (0, .ref 50)] [] μ9
            refine z_rcs hc hH 1 (pc' := 121) (lv' := [(4, .int bs), (3, .int (nI ((a + i) % 4))), (2, .int (nI i)), (1, .int x), (0, .ref 50)]) (st' := [.int x]) (μ' := μ9) (by rfl) ?_
            refine zq_if hc hH (by rfl) (tg := 132) (by rfl) (fun h3 => ?_) (fun h3 => ?_)
            · have h3 := cm_ne.mp h3
              refine z_rcs hc hH 8 (pc' := 145) (lv' := [(1, .int 1), (4, .int bs), (3, .int (nI ((a + i) % 4))), (2, .int (nI i)), (0, .ref 50)]) (st' := [.int ((μ9.1 50 53) + 1), .ref 50]) (μ' := μ9) (by rfl) ?_
              rw [ew3, nI_1]
              refine z_rcs hc hH 3 (pc' := 9) (lv' := [(2, .int ((nI i) + 1)), (1, .int 1), (4, .int bs), (3, .int (nI ((a + i) % 4))), (0, .ref 50)]) (st' := []) (μ' := z_ui μ9 50 53 (nI (w + 1))) (by rfl) ?_
              rw [nI_1]
              exact (ih (i + 1) (by omega) (by omega) 1 _ _ (z_ui μ9 50 53 (nI (w + 1))) t1 ⟨hC.to (md := [(50, 53)]) (a_H_ui hC.1 (show bI 0 3 _ from bd_nI (by omega) ⟨by omega, by omega⟩)) (GW_ne hC.2.1 (by decide +kernel)) (a_Fz_ui (a_Fz_rf _ _) (by decide +kernel)) (by decide +kernel), eb3, w + 1, by omega, rfl⟩).1
            · have h3 := cn_ne.mp h3
              refine z_rcs hc hH 3 (pc' := 129) (lv' := [(4, .int bs), (3, .int (nI ((a + i) % 4))), (2, .int (nI i)), (1, .int x), (0, .ref 50)]) (st' := [.int (μ9.1 50 40), .int (nI ((a + i) % 4))]) (μ' := μ9) (by rfl) ?_
              refine zq_ic hc hH (by rfl) (tg := 136) (by rfl) (fun h4 => ?_) (fun h4 => ?_)
              · have h4 := cm_ne.mp h4
                refine z_rcs hc hH 7 (pc' := 145) (lv' := [(1, .int 0), (4, .int bs), (3, .int (nI ((a + i) % 4))), (2, .int (nI i)), (0, .ref 50)]) (st' := [.int ((μ9.1 50 53) + 1), .ref 50]) (μ' := μ9) (by rfl) ?_
                rw [ew3, nI_1]
                refine z_rcs hc hH 3 (pc' := 9) (lv' := [(2, .int ((nI i) + 1)), (1, .int 0), (4, .int bs), (3, .int (nI ((a + i) % 4))), (0, .ref 50)]) (st' := []) (μ' := z_ui μ9 50 53 (nI (w + 1))) (by rfl) ?_
                rw [nI_1]
                exact (ih (i + 1) (by omega) (by omega) 0 _ _ (z_ui μ9 50 53 (nI (w + 1))) t0 ⟨hC.to (md := [(50, 53)]) (a_H_ui hC.1 (show bI 0 3 _ from bd_nI (by omega) ⟨by omega, by omega⟩)) (GW_ne hC.2.1 (by decide +kernel)) (a_Fz_ui (a_Fz_rf _ _) (by decide +kernel)) (by decide +kernel), eb3, w + 1, by omega, rfl⟩).1
              · have h4 := cn_ne.mp h4
                refine z_rcs hc hH 8 (pc' := 145) (lv' := [(1, .int 1), (4, .int bs), (3, .int (nI ((a + i) % 4))), (2, .int (nI i)), (0, .ref 50)]) (st' := [.int ((μ9.1 50 53) + 1), .ref 50]) (μ' := μ9) (by rfl) ?_
                rw [ew3, nI_1]
                refine z_rcs hc hH 3 (pc' := 9) (lv' := [(2, .int ((nI i) + 1)), (1, .int 1), (4, .int bs), (3, .int (nI ((a + i) % 4))), (0, .ref 50)]) (st' := []) (μ' := z_ui μ9 50 53 (nI (w + 1))) (by rfl) ?_
                rw [nI_1]
                exact (ih (i + 1) (by omega) (by omega) 1 _ _ (z_ui μ9 50 53 (nI (w + 1))) t1 ⟨hC.to (md := [(50, 53)]) (a_H_ui hC.1 (show bI 0 3 _ from bd_nI (by omega) ⟨by omega, by omega⟩)) (GW_ne hC.2.1 (by decide +kernel)) (a_Fz_ui (a_Fz_rf _ _) (by decide +kernel)) (by decide +kernel), eb3, w + 1, by omega, rfl⟩).1
          · have h2 := cn_ne.mp h2
            refine z_rcs hc hH 6 (pc' := 117) (lv' := [(4, .int bs), (3, .int (nI ((a + i) % 4))), (2, .int (nI i)), (1, .int x), (0, .ref 50)]) (st' := [.int (x9 + (300 * (μ2.1 50 42))), .int (μ2.1 50 53), .int (μ2.1 50 45), .ref 50]) (μ' := μ2) (by rfl) ?_
            rw [ea2, ew2]
            refine zq_call hc (z_cx_ok hH (by rfl)) (fc_X7_pays d' (by omega) μ2 a w _ ha4 (by omega) hB.1 hB.2.1) (by decide +kernel) (fun r9 μ9 hq => ?_)
            obtain ⟨rfl, q1, q2, q3⟩ := hq
            have hC := hB.to q1 q2 q3 (by decide)
            have eb3 : μ9.1 50 49 = nI b := by rw [a_Fz_at q3 50 49 (by decide +kernel), eb2]
            have ew3 : μ9.1 50 53 = nI w := by rw [a_Fz_at q3 50 53 (by decide +kernel), ew2]
            show Z 0 120 [(4, .int bs), (3, .int (nI ((a + i) % 4))), (2, .int (nI i)), (1, .int x), (0, .ref 50)] [] μ9
            refine z_rcs hc hH 1 (pc' := 121) (lv' := [(4, .int bs), (3, .int (nI ((a + i) % 4))), (2, .int (nI i)), (1, .int x), (0, .ref 50)]) (st' := [.int x]) (μ' := μ9) (by rfl) ?_
            refine zq_if hc hH (by rfl) (tg := 132) (by rfl) (fun h5 => ?_) (fun h5 => ?_)
            · have h5 := cm_ne.mp h5
              refine z_rcs hc hH 8 (pc' := 145) (lv' := [(1, .int 1), (4, .int bs), (3, .int (nI ((a + i) % 4))), (2, .int (nI i)), (0, .ref 50)]) (st' := [.int ((μ9.1 50 53) + 1), .ref 50]) (μ' := μ9) (by rfl) ?_
              rw [ew3, nI_1]
              refine z_rcs hc hH 3 (pc' := 9) (lv' := [(2, .int ((nI i) + 1)), (1, .int 1), (4, .int bs), (3, .int (nI ((a + i) % 4))), (0, .ref 50)]) (st' := []) (μ' := z_ui μ9 50 53 (nI (w + 1))) (by rfl) ?_
              rw [nI_1]
              exact (ih (i + 1) (by omega) (by omega) 1 _ _ (z_ui μ9 50 53 (nI (w + 1))) t1 ⟨hC.to (md := [(50, 53)]) (a_H_ui hC.1 (show bI 0 3 _ from bd_nI (by omega) ⟨by omega, by omega⟩)) (GW_ne hC.2.1 (by decide +kernel)) (a_Fz_ui (a_Fz_rf _ _) (by decide +kernel)) (by decide +kernel), eb3, w + 1, by omega, rfl⟩).1
            · have h5 := cn_ne.mp h5
              refine z_rcs hc hH 3 (pc' := 129) (lv' := [(4, .int bs), (3, .int (nI ((a + i) % 4))), (2, .int (nI i)), (1, .int x), (0, .ref 50)]) (st' := [.int (μ9.1 50 40), .int (nI ((a + i) % 4))]) (μ' := μ9) (by rfl) ?_
              refine zq_ic hc hH (by rfl) (tg := 136) (by rfl) (fun h6 => ?_) (fun h6 => ?_)
              · have h6 := cm_ne.mp h6
                refine z_rcs hc hH 7 (pc' := 145) (lv' := [(1, .int 0), (4, .int bs), (3, .int (nI ((a + i) % 4))), (2, .int (nI i)), (0, .ref 50)]) (st' := [.int ((μ9.1 50 53) + 1), .ref 50]) (μ' := μ9) (by rfl) ?_
                rw [ew3, nI_1]
                refine z_rcs hc hH 3 (pc' := 9) (lv' := [(2, .int ((nI i) + 1)), (1, .int 0), (4, .int bs), (3, .int (nI ((a + i) % 4))), (0, .ref 50)]) (st' := []) (μ' := z_ui μ9 50 53 (nI (w + 1))) (by rfl) ?_
                rw [nI_1]
                exact (ih (i + 1) (by omega) (by omega) 0 _ _ (z_ui μ9 50 53 (nI (w + 1))) t0 ⟨hC.to (md := [(50, 53)]) (a_H_ui hC.1 (show bI 0 3 _ from bd_nI (by omega) ⟨by omega, by omega⟩)) (GW_ne hC.2.1 (by decide +kernel)) (a_Fz_ui (a_Fz_rf _ _) (by decide +kernel)) (by decide +kernel), eb3, w + 1, by omega, rfl⟩).1
              · have h6 := cn_ne.mp h6
                refine z_rcs hc hH 8 (pc' := 145) (lv' := [(1, .int 1), (4, .int bs), (3, .int (nI ((a + i) % 4))), (2, .int (nI i)), (0, .ref 50)]) (st' := [.int ((μ9.1 50 53) + 1), .ref 50]) (μ' := μ9) (by rfl) ?_
                rw [ew3, nI_1]
                refine z_rcs hc hH 3 (pc' := 9) (lv' := [(2, .int ((nI i) + 1)), (1, .int 1), (4, .int bs), (3, .int (nI ((a + i) % 4))), (0, .ref 50)]) (st' := []) (μ' := z_ui μ9 50 53 (nI (w + 1))) (by rfl) ?_
                rw [nI_1]
                exact (ih (i + 1) (by omega) (by omega) 1 _ _ (z_ui μ9 50 53 (nI (w + 1))) t1 ⟨hC.to (md := [(50, 53)]) (a_H_ui hC.1 (show bI 0 3 _ from bd_nI (by omega) ⟨by omega, by omega⟩)) (GW_ne hC.2.1 (by decide +kernel)) (a_Fz_ui (a_Fz_rf _ _) (by decide +kernel)) (by decide +kernel), eb3, w + 1, by omega, rfl⟩).1
        · have h1 := cn_ne.mp h1
          refine z_rcs hc hH 3 (pc' := 94) (lv' := [(4, .int bs), (3, .int (nI ((a + i) % 4))), (2, .int (nI i)), (1, .int x), (0, .ref 50)]) (st' := [.int (bs * 6), .int (μ2.1 50 53), .int (μ2.1 50 45), .ref 50]) (μ' := μ2) (by rfl) ?_
          refine zq_call hc (z_cx_ok hH (by rfl)) (bs_X7_up (by omega) [.int (bs * 6)] _ (aArg_pre ⟨⟨_, rfl, bI_top _⟩, trivial⟩ rfl) hB.1) (by decide +kernel) (fun r9 μ9 hq => ?_)
          obtain ⟨-, hz, hr9⟩ := hq
          obtain ⟨v9, rfl, x9, rfl, -⟩ := hr9
          rw [a_Fz_nil hz]
          clear hz μ9
          show Z 0 97 [(4, .int bs), (3, .int (nI ((a + i) % 4))), (2, .int (nI i)), (1, .int x), (0, .ref 50)] [.int x9, .int (μ2.1 50 53), .int (μ2.1 50 45), .ref 50] μ2
          refine z_rcs hc hH 2 (pc' := 101) (lv' := [(4, .int bs), (3, .int (nI ((a + i) % 4))), (2, .int (nI i)), (1, .int x), (0, .ref 50)]) (st' := [.int (μ2.1 50 53), .int x9, .int (μ2.1 50 53), .int (μ2.1 50 45), .ref 50]) (μ' := μ2) (by rfl) ?_
          refine zq_if hc hH (by rfl) (tg := 115) (by rfl) (fun h7 => ?_) (fun h7 => ?_)
          · have h7 := cm_ne.mp h7
            refine z_rcs hc hH 2 (pc' := 117) (lv' := [(4, .int bs), (3, .int (nI ((a + i) % 4))), (2, .int (nI i)), (1, .int x), (0, .ref 50)]) (st' := [.int (x9 + 0), .int (μ2.1 50 53), .int (μ2.1 50 45), .ref 50]) (μ' := μ2) (by rfl) ?_
            rw [ea2, ew2]
            refine zq_call hc (z_cx_ok hH (by rfl)) (fc_X7_pays d' (by omega) μ2 a w _ ha4 (by omega) hB.1 hB.2.1) (by decide +kernel) (fun r9 μ9 hq => ?_)
            obtain ⟨rfl, q1, q2, q3⟩ := hq
            have hC := hB.to q1 q2 q3 (by decide)
            have eb3 : μ9.1 50 49 = nI b := by rw [a_Fz_at q3 50 49 (by decide +kernel), eb2]
            have ew3 : μ9.1 50 53 = nI w := by rw [a_Fz_at q3 50 53 (by decide +kernel), ew2]
            show Z 0 120 [(4, .int bs), (3, .int (nI ((a + i) % 4))), (2, .int (nI i)), (1, .int x), (0, .ref 50)] [] μ9
            refine z_rcs hc hH 1 (pc' := 121) (lv' := [(4, .int bs), (3, .int (nI ((a + i) % 4))), (2, .int (nI i)), (1, .int x), (0, .ref 50)]) (st' := [.int x]) (μ' := μ9) (by rfl) ?_
            refine zq_if hc hH (by rfl) (tg := 132) (by rfl) (fun h8 => ?_) (fun h8 => ?_)
            · have h8 := cm_ne.mp h8
              refine z_rcs hc hH 8 (pc' := 145) (lv' := [(1, .int 1), (4, .int bs), (3, .int (nI ((a + i) % 4))), (2, .int (nI i)), (0, .ref 50)]) (st' := [.int ((μ9.1 50 53) + 1), .ref 50]) (μ' := μ9) (by rfl) ?_
              rw [ew3, nI_1]
              refine z_rcs hc hH 3 (pc' := 9) (lv' := [(2, .int ((nI i) + 1)), (1, .int 1), (4, .int bs), (3, .int (nI ((a + i) % 4))), (0, .ref 50)]) (st' := []) (μ' := z_ui μ9 50 53 (nI (w + 1))) (by rfl) ?_
              rw [nI_1]
              exact (ih (i + 1) (by omega) (by omega) 1 _ _ (z_ui μ9 50 53 (nI (w + 1))) t1 ⟨hC.to (md := [(50, 53)]) (a_H_ui hC.1 (show bI 0 3 _ from bd_nI (by omega) ⟨by omega, by omega⟩)) (GW_ne hC.2.1 (by decide +kernel)) (a_Fz_ui (a_Fz_rf _ _) (by decide +kernel)) (by decide +kernel), eb3, w + 1, by omega, rfl⟩).1
            · have h8 := cn_ne.mp h8
              refine z_rcs hc hH 3 (pc' := 129) (lv' := [(4, .int bs), (3, .int (nI ((a + i) % 4))), (2, .int (nI i)), (1, .int x), (0, .ref 50)]) (st' := [.int (μ9.1 50 40), .int (nI ((a + i) % 4))]) (μ' := μ9) (by rfl) ?_
              refine zq_ic hc hH (by rfl) (tg := 136) (by rfl) (fun h9 => ?_) (fun h9 => ?_)
              · have h9 := cm_ne.mp h9
                refine z_rcs hc hH 7 (pc' := 145) (lv' := [(1, .int 0), (4, .int bs), (3, .int (nI ((a + i) % 4))), (2, .int (nI i)), (0, .ref 50)]) (st' := [.int ((μ9.1 50 53) + 1), .ref 50]) (μ' := μ9) (by rfl) ?_
                rw [ew3, nI_1]
                refine z_rcs hc hH 3 (pc' := 9) (lv' := [(2, .int ((nI i) + 1)), (1, .int 0), (4, .int bs), (3, .int (nI ((a + i) % 4))), (0, .ref 50)]) (st' := []) (μ' := z_ui μ9 50 53 (nI (w + 1))) (by rfl) ?_
                rw [nI_1]
                exact (ih (i + 1) (by omega) (by omega) 0 _ _ (z_ui μ9 50 53 (nI (w + 1))) t0 ⟨hC.to (md := [(50, 53)]) (a_H_ui hC.1 (show bI 0 3 _ from bd_nI (by omega) ⟨by omega, by omega⟩)) (GW_ne hC.2.1 (by decide +kernel)) (a_Fz_ui (a_Fz_rf _ _) (by decide +kernel)) (by decide +kernel), eb3, w + 1, by omega, rfl⟩).1
              · have h9 := cn_ne.mp h9
                refine z_rcs hc hH 8 (pc' := 145) (lv' := [(1, .int 1), (4, .int bs), (3, .int (nI ((a + i) % 4))), (2, .int (nI i)), (0, .ref 50)]) (st' := [.int ((μ9.1 50 53) + 1), .ref 50]) (μ' := μ9) (by rfl) ?_
                rw [ew3, nI_1]
                refine z_rcs hc hH 3 (pc' := 9) (lv' := [(2, .int ((nI i) + 1)), (1, .int 1), (4, .int bs), (3, .int (nI ((a + i) % 4))), (0, .ref 50)]) (st' := []) (μ' := z_ui μ9 50 53 (nI (w + 1))) (by rfl) ?_
                rw [nI_1]
                exact (ih (i + 1) (by omega) (by omega) 1 _ _ (z_ui μ9 50 53 (nI (w + 1))) t1 ⟨hC.to (md := [(50, 53)]) (a_H_ui hC.1 (show bI 0 3 _ from bd_nI (by omega) ⟨by omega, by omega⟩)) (GW_ne hC.2.1 (by decide +kernel)) (a_Fz_ui (a_Fz_rf _ _) (by decide +kernel)) (by decide +kernel), eb3, w + 1, by omega, rfl⟩).1
          · have h7 := cn_ne.mp h7
            refine z_rcs hc hH 6 (pc' := 117) (lv' := [(4, .int bs), (3, .int (nI ((a + i) % 4))), (2, .int (nI i)), (1, .int x), (0, .ref 50)]) (st' := [.int (x9 + (300 * (μ2.1 50 42))), .int (μ2.1 50 53), .int (μ2.1 50 45), .ref 50]) (μ' := μ2) (by rfl) ?_
            rw [ea2, ew2]
            refine zq_call hc (z_cx_ok hH (by rfl)) (fc_X7_pays d' (by omega) μ2 a w _ ha4 (by omega) hB.1 hB.2.1) (by decide +kernel) (fun r9 μ9 hq => ?_)
            obtain ⟨rfl, q1, q2, q3⟩ := hq
            have hC := hB.to q1 q2 q3 (by decide)
            have eb3 : μ9.1 50 49 = nI b := by rw [a_Fz_at q3 50 49 (by decide +kernel), eb2]
            have ew3 : μ9.1 50 53 = nI w := by rw [a_Fz_at q3 50 53 (by decide +kernel), ew2]
            show Z 0 120 [(4, .int bs), (3, .int (nI ((a + i) % 4))), (2, .int (nI i)), (1, .int x), (0, .ref 50)] [] μ9
            refine z_rcs hc hH 1 (pc' := 121) (lv' := [(4, .int bs), (3, .int (nI ((a + i) % 4))), (2, .int (nI i)), (1, .int x), (0, .ref 50)]) (st' := [.int x]) (μ' := μ9) (by rfl) ?_
            refine zq_if hc hH (by rfl) (tg := 132) (by rfl) (fun h10 => ?_) (fun h10 => ?_)
            · have h10 := cm_ne.mp h10
              refine z_rcs hc hH 8 (pc' := 145) (lv' := [(1, .int 1), (4, .int bs), (3, .int (nI ((a + i) % 4))), (2, .int (nI i)), (0, .ref 50)]) (st' := [.int ((μ9.1 50 53) + 1), .ref 50]) (μ' := μ9) (by rfl) ?_
              rw [ew3, nI_1]
              refine z_rcs hc hH 3 (pc' := 9) (lv' := [(2, .int ((nI i) + 1)), (1, .int 1), (4, .int bs), (3, .int (nI ((a + i) % 4))), (0, .ref 50)]) (st' := []) (μ' := z_ui μ9 50 53 (nI (w + 1))) (by rfl) ?_
              rw [nI_1]
              exact (ih (i + 1) (by omega) (by omega) 1 _ _ (z_ui μ9 50 53 (nI (w + 1))) t1 ⟨hC.to (md := [(50, 53)]) (a_H_ui hC.1 (show bI 0 3 _ from bd_nI (by omega) ⟨by omega, by omega⟩)) (GW_ne hC.2.1 (by decide +kernel)) (a_Fz_ui (a_Fz_rf _ _) (by decide +kernel)) (by decide +kernel), eb3, w + 1, by omega, rfl⟩).1
            · have h10 := cn_ne.mp h10
              refine z_rcs hc hH 3 (pc' := 129) (lv' := [(4, .int bs), (3, .int (nI ((a + i) % 4))), (2, .int (nI i)), (1, .int x), (0, .ref 50)]) (st' := [.int (μ9.1 50 40), .int (nI ((a + i) % 4))]) (μ' := μ9) (by rfl) ?_
              refine zq_ic hc hH (by rfl) (tg := 136) (by rfl) (fun h11 => ?_) (fun h11 => ?_)
              · have h11 := cm_ne.mp h11
                refine z_rcs hc hH 7 (pc' := 145) (lv' := [(1, .int 0), (4, .int bs), (3, .int (nI ((a + i) % 4))), (2, .int (nI i)), (0, .ref 50)]) (st' := [.int ((μ9.1 50 53) + 1), .ref 50]) (μ' := μ9) (by rfl) ?_
                rw [ew3, nI_1]
                refine z_rcs hc hH 3 (pc' := 9) (lv' := [(2, .int ((nI i) + 1)), (1, .int 0), (4, .int bs), (3, .int (nI ((a + i) % 4))), (0, .ref 50)]) (st' := []) (μ' := z_ui μ9 50 53 (nI (w + 1))) (by rfl) ?_
                rw [nI_1]
                exact (ih (i + 1) (by omega) (by omega) 0 _ _ (z_ui μ9 50 53 (nI (w + 1))) t0 ⟨hC.to (md := [(50, 53)]) (a_H_ui hC.1 (show bI 0 3 _ from bd_nI (by omega) ⟨by omega, by omega⟩)) (GW_ne hC.2.1 (by decide +kernel)) (a_Fz_ui (a_Fz_rf _ _) (by decide +kernel)) (by decide +kernel), eb3, w + 1, by omega, rfl⟩).1
              · have h11 := cn_ne.mp h11
                refine z_rcs hc hH 8 (pc' := 145) (lv' := [(1, .int 1), (4, .int bs), (3, .int (nI ((a + i) % 4))), (2, .int (nI i)), (0, .ref 50)]) (st' := [.int ((μ9.1 50 53) + 1), .ref 50]) (μ' := μ9) (by rfl) ?_
                rw [ew3, nI_1]
                refine z_rcs hc hH 3 (pc' := 9) (lv' := [(2, .int ((nI i) + 1)), (1, .int 1), (4, .int bs), (3, .int (nI ((a + i) % 4))), (0, .ref 50)]) (st' := []) (μ' := z_ui μ9 50 53 (nI (w + 1))) (by rfl) ?_
                rw [nI_1]
                exact (ih (i + 1) (by omega) (by omega) 1 _ _ (z_ui μ9 50 53 (nI (w + 1))) t1 ⟨hC.to (md := [(50, 53)]) (a_H_ui hC.1 (show bI 0 3 _ from bd_nI (by omega) ⟨by omega, by omega⟩)) (GW_ne hC.2.1 (by decide +kernel)) (a_Fz_ui (a_Fz_rf _ _) (by decide +kernel)) (by decide +kernel), eb3, w + 1, by omega, rfl⟩).1
      refine ⟨?_, ?_, ?_, ?_⟩
      · skip
        refine z_rcs hc hH 2 (pc' := 11) (lv' := [(2, .int (nI i)), (1, .int x), (4, .int y), (3, .int z), (0, .ref 50)]) (st' := [.int 4, .int (nI i)]) (μ' := μ1) (by rfl) ?_
        refine zq_ic hc hH (by rfl) (tg := 154) (by rfl) (fun h9 => (zb_t h9 (ge_nI (n := 4) (i := i) (by omega) (by decide))).elim) (fun _ => ?_)
        refine z_rcs hc hH 6 (pc' := 22) (lv' := [(2, .int (nI i)), (1, .int x), (4, .int y), (3, .int z), (0, .ref 50)]) (st' := [.int (((μ1.1 50 45) + (nI i)) - ((μ1.1 50 45) + (nI i)) / 4 * 4)]) (μ' := μ1) (by rfl) ?_
        rw [ea1, nI_add, nI_r4 _ (by omega)]
        refine z_rcs hc hH 4 (pc' := 28) (lv' := [(3, .int (nI ((a + i) % 4))), (2, .int (nI i)), (1, .int x), (4, .int y), (0, .ref 50)]) (st' := [.int (nI ((a + i) % 4)), .ref 71]) (μ' := μ1) (by rfl) ?_
        refine zq_bald hc hH (by rfl) 4 (by decide +kernel) (vp_in_nI he (by decide)) ?_
        refine zq_if hc hH (by rfl) (tg := 35) (by rfl) (fun h1 => ?_) (fun h1 => ?_)
        · have h1 := cm_ne.mp h1
          refine z_rcs hc hH 5 (pc' := 42) (lv' := [(3, .int (nI ((a + i) % 4))), (2, .int (nI i)), (1, .int x), (4, .int y), (0, .ref 50)]) (st' := [.int 0, .int (μ1.1 50 49), .int (nI ((a + i) % 4)), .ref 50]) (μ' := μ1) (by rfl) ?_
          rw [eb1]
          refine zq_call hc (z_cx_ok hH (by rfl)) (a_use (i := 121) (K := ak_121) rfl (by omega) [.ref 50, .int (nI ((a + i) % 4)), .int (nI b), .int 0] _ (aArg_pre ⟨⟨50, by decide, rfl⟩, ⟨_, rfl, (show bI 0 3 _ from bd_nI (by omega) ⟨by omega, by omega⟩)⟩, ⟨_, rfl, (show bI 0 33 _ from bd_nI (by omega) ⟨by omega, by omega⟩)⟩, ⟨0, rfl, by decide, by decide⟩, trivial⟩ rfl) hS.1) (by decide +kernel) (fun r9 μ9 hq => ?_)
          obtain ⟨q1, q3, rfl⟩ := hq
          have hB := hS.to q1 (GW_keep hS.2.1 q3 (by decide)) q3 (by decide)
          have eb2 : μ9.1 50 49 = nI b := by rw [a_Fz_at q3 50 49 (by decide +kernel), eb1]
          have ew2 : μ9.1 50 53 = nI w := by rw [a_Fz_at q3 50 53 (by decide +kernel), ew]
          show Z 0 45 [(3, .int (nI ((a + i) % 4))), (2, .int (nI i)), (1, .int x), (4, .int y), (0, .ref 50)] [] μ9
          refine z_rcs hc hH 8 (pc' := 59) (lv' := [(3, .int (nI ((a + i) % 4))), (2, .int (nI i)), (1, .int x), (4, .int y), (0, .ref 50)]) (st' := [.int (μ9.1 50 49), .int (μ9.1 50 45), .int (nI ((a + i) % 4)), .int (μ9.1 50 53), .ref 50]) (μ' := μ9) (by rfl) ?_
          rw [ew2]
          refine zq_call hc (z_cx_ok hH (by rfl)) (fc_X7_writes d' (by omega) μ9 w ((a + i) % 4) _ _ (by omega) he hB.1 hB.2.1) (by decide +kernel) (fun r8 μ8 hq => ?_)
          obtain ⟨rfl, q4, q5, q6⟩ := hq
          have hC := hB.to q4 q5 q6 (by decide)
          show Z 0 62 [(3, .int (nI ((a + i) % 4))), (2, .int (nI i)), (1, .int x), (4, .int y), (0, .ref 50)] [] μ8
          refine z_rcs hc hH 3 (pc' := 68) (lv' := [(4, .int (μ8.1 50 13)), (3, .int (nI ((a + i) % 4))), (2, .int (nI i)), (1, .int x), (0, .ref 50)]) (st' := []) (μ' := μ8) (by rfl) ?_
          exact mid _ μ8 hC (by rw [a_Fz_at q6 50 49 (by decide +kernel), eb2]) (by rw [a_Fz_at q6 50 53 (by decide +kernel), ew2])
        · have h1 := cn_ne.mp h1
          refine z_rcs hc hH 3 (pc' := 9) (lv' := [(2, .int ((nI i) + 1)), (3, .int (nI ((a + i) % 4))), (1, .int x), (4, .int y), (0, .ref 50)]) (st' := []) (μ' := μ1) (by rfl) ?_
          rw [nI_1]
          exact (ih (i + 1) (by omega) (by omega) x _ _ _ hx ⟨hS, eb1, w, by omega, ew⟩).2.1
      · skip
        refine z_rcs hc hH 2 (pc' := 11) (lv' := [(2, .int (nI i)), (3, .int z), (1, .int x), (4, .int y), (0, .ref 50)]) (st' := [.int 4, .int (nI i)]) (μ' := μ1) (by rfl) ?_
        refine zq_ic hc hH (by rfl) (tg := 154) (by rfl) (fun h9 => (zb_t h9 (ge_nI (n := 4) (i := i) (by omega) (by decide))).elim) (fun _ => ?_)
        refine z_rcs hc hH 6 (pc' := 22) (lv' := [(2, .int (nI i)), (3, .int z), (1, .int x), (4, .int y), (0, .ref 50)]) (st' := [.int (((μ1.1 50 45) + (nI i)) - ((μ1.1 50 45) + (nI i)) / 4 * 4)]) (μ' := μ1) (by rfl) ?_
        rw [ea1, nI_add, nI_r4 _ (by omega)]
        refine z_rcs hc hH 4 (pc' := 28) (lv' := [(3, .int (nI ((a + i) % 4))), (2, .int (nI i)), (1, .int x), (4, .int y), (0, .ref 50)]) (st' := [.int (nI ((a + i) % 4)), .ref 71]) (μ' := μ1) (by rfl) ?_
        refine zq_bald hc hH (by rfl) 4 (by decide +kernel) (vp_in_nI he (by decide)) ?_
        refine zq_if hc hH (by rfl) (tg := 35) (by rfl) (fun h1 => ?_) (fun h1 => ?_)
        · have h1 := cm_ne.mp h1
          refine z_rcs hc hH 5 (pc' := 42) (lv' := [(3, .int (nI ((a + i) % 4))), (2, .int (nI i)), (1, .int x), (4, .int y), (0, .ref 50)]) (st' := [.int 0, .int (μ1.1 50 49), .int (nI ((a + i) % 4)), .ref 50]) (μ' := μ1) (by rfl) ?_
          rw [eb1]
          refine zq_call hc (z_cx_ok hH (by rfl)) (a_use (i := 121) (K := ak_121) rfl (by omega) [.ref 50, .int (nI ((a + i) % 4)), .int (nI b), .int 0] _ (aArg_pre ⟨⟨50, by decide, rfl⟩, ⟨_, rfl, (show bI 0 3 _ from bd_nI (by omega) ⟨by omega, by omega⟩)⟩, ⟨_, rfl, (show bI 0 33 _ from bd_nI (by omega) ⟨by omega, by omega⟩)⟩, ⟨0, rfl, by decide, by decide⟩, trivial⟩ rfl) hS.1) (by decide +kernel) (fun r9 μ9 hq => ?_)
          obtain ⟨q1, q3, rfl⟩ := hq
          have hB := hS.to q1 (GW_keep hS.2.1 q3 (by decide)) q3 (by decide)
          have eb2 : μ9.1 50 49 = nI b := by rw [a_Fz_at q3 50 49 (by decide +kernel), eb1]
          have ew2 : μ9.1 50 53 = nI w := by rw [a_Fz_at q3 50 53 (by decide +kernel), ew]
          show Z 0 45 [(3, .int (nI ((a + i) % 4))), (2, .int (nI i)), (1, .int x), (4, .int y), (0, .ref 50)] [] μ9
          refine z_rcs hc hH 8 (pc' := 59) (lv' := [(3, .int (nI ((a + i) % 4))), (2, .int (nI i)), (1, .int x), (4, .int y), (0, .ref 50)]) (st' := [.int (μ9.1 50 49), .int (μ9.1 50 45), .int (nI ((a + i) % 4)), .int (μ9.1 50 53), .ref 50]) (μ' := μ9) (by rfl) ?_
          rw [ew2]
          refine zq_call hc (z_cx_ok hH (by rfl)) (fc_X7_writes d' (by omega) μ9 w ((a + i) % 4) _ _ (by omega) he hB.1 hB.2.1) (by decide +kernel) (fun r8 μ8 hq => ?_)
          obtain ⟨rfl, q4, q5, q6⟩ := hq
          have hC := hB.to q4 q5 q6 (by decide)
          show Z 0 62 [(3, .int (nI ((a + i) % 4))), (2, .int (nI i)), (1, .int x), (4, .int y), (0, .ref 50)] [] μ8
          refine z_rcs hc hH 3 (pc' := 68) (lv' := [(4, .int (μ8.1 50 13)), (3, .int (nI ((a + i) % 4))), (2, .int (nI i)), (1, .int x), (0, .ref 50)]) (st' := []) (μ' := μ8) (by rfl) ?_
          exact mid _ μ8 hC (by rw [a_Fz_at q6 50 49 (by decide +kernel), eb2]) (by rw [a_Fz_at q6 50 53 (by decide +kernel), ew2])
        · have h1 := cn_ne.mp h1
          refine z_rcs hc hH 3 (pc' := 9) (lv' := [(2, .int ((nI i) + 1)), (3, .int (nI ((a + i) % 4))), (1, .int x), (4, .int y), (0, .ref 50)]) (st' := []) (μ' := μ1) (by rfl) ?_
          rw [nI_1]
          exact (ih (i + 1) (by omega) (by omega) x _ _ _ hx ⟨hS, eb1, w, by omega, ew⟩).2.1
      · skip
        refine z_rcs hc hH 2 (pc' := 11) (lv' := [(2, .int (nI i)), (3, .int z), (1, .int x), (0, .ref 50)]) (st' := [.int 4, .int (nI i)]) (μ' := μ1) (by rfl) ?_
        refine zq_ic hc hH (by rfl) (tg := 154) (by rfl) (fun h9 => (zb_t h9 (ge_nI (n := 4) (i := i) (by omega) (by decide))).elim) (fun _ => ?_)
        refine z_rcs hc hH 6 (pc' := 22) (lv' := [(2, .int (nI i)), (3, .int z), (1, .int x), (0, .ref 50)]) (st' := [.int (((μ1.1 50 45) + (nI i)) - ((μ1.1 50 45) + (nI i)) / 4 * 4)]) (μ' := μ1) (by rfl) ?_
        rw [ea1, nI_add, nI_r4 _ (by omega)]
        refine z_rcs hc hH 4 (pc' := 28) (lv' := [(3, .int (nI ((a + i) % 4))), (2, .int (nI i)), (1, .int x), (0, .ref 50)]) (st' := [.int (nI ((a + i) % 4)), .ref 71]) (μ' := μ1) (by rfl) ?_
        refine zq_bald hc hH (by rfl) 4 (by decide +kernel) (vp_in_nI he (by decide)) ?_
        refine zq_if hc hH (by rfl) (tg := 35) (by rfl) (fun h1 => ?_) (fun h1 => ?_)
        · have h1 := cm_ne.mp h1
          refine z_rcs hc hH 5 (pc' := 42) (lv' := [(3, .int (nI ((a + i) % 4))), (2, .int (nI i)), (1, .int x), (0, .ref 50)]) (st' := [.int 0, .int (μ1.1 50 49), .int (nI ((a + i) % 4)), .ref 50]) (μ' := μ1) (by rfl) ?_
          rw [eb1]
          refine zq_call hc (z_cx_ok hH (by rfl)) (a_use (i := 121) (K := ak_121) rfl (by omega) [.ref 50, .int (nI ((a + i) % 4)), .int (nI b), .int 0] _ (aArg_pre ⟨⟨50, by decide, rfl⟩, ⟨_, rfl, (show bI 0 3 _ from bd_nI (by omega) ⟨by omega, by omega⟩)⟩, ⟨_, rfl, (show bI 0 33 _ from bd_nI (by omega) ⟨by omega, by omega⟩)⟩, ⟨0, rfl, by decide, by decide⟩, trivial⟩ rfl) hS.1) (by decide +kernel) (fun r9 μ9 hq => ?_)
          obtain ⟨q1, q3, rfl⟩ := hq
          have hB := hS.to q1 (GW_keep hS.2.1 q3 (by decide)) q3 (by decide)
          have eb2 : μ9.1 50 49 = nI b := by rw [a_Fz_at q3 50 49 (by decide +kernel), eb1]
          have ew2 : μ9.1 50 53 = nI w := by rw [a_Fz_at q3 50 53 (by decide +kernel), ew]
          show Z 0 45 [(3, .int (nI ((a + i) % 4))), (2, .int (nI i)), (1, .int x), (0, .ref 50)] [] μ9
          refine z_rcs hc hH 8 (pc' := 59) (lv' := [(3, .int (nI ((a + i) % 4))), (2, .int (nI i)), (1, .int x), (0, .ref 50)]) (st' := [.int (μ9.1 50 49), .int (μ9.1 50 45), .int (nI ((a + i) % 4)), .int (μ9.1 50 53), .ref 50]) (μ' := μ9) (by rfl) ?_
          rw [ew2]
          refine zq_call hc (z_cx_ok hH (by rfl)) (fc_X7_writes d' (by omega) μ9 w ((a + i) % 4) _ _ (by omega) he hB.1 hB.2.1) (by decide +kernel) (fun r8 μ8 hq => ?_)
          obtain ⟨rfl, q4, q5, q6⟩ := hq
          have hC := hB.to q4 q5 q6 (by decide)
          show Z 0 62 [(3, .int (nI ((a + i) % 4))), (2, .int (nI i)), (1, .int x), (0, .ref 50)] [] μ8
          refine z_rcs hc hH 3 (pc' := 68) (lv' := [(4, .int (μ8.1 50 13)), (3, .int (nI ((a + i) % 4))), (2, .int (nI i)), (1, .int x), (0, .ref 50)]) (st' := []) (μ' := μ8) (by rfl) ?_
          exact mid _ μ8 hC (by rw [a_Fz_at q6 50 49 (by decide +kernel), eb2]) (by rw [a_Fz_at q6 50 53 (by decide +kernel), ew2])
        · have h1 := cn_ne.mp h1
          refine z_rcs hc hH 3 (pc' := 9) (lv' := [(2, .int ((nI i) + 1)), (3, .int (nI ((a + i) % 4))), (1, .int x), (0, .ref 50)]) (st' := []) (μ' := μ1) (by rfl) ?_
          rw [nI_1]
          exact (ih (i + 1) (by omega) (by omega) x y _ _ hx ⟨hS, eb1, w, by omega, ew⟩).2.2.1
      · skip
        refine z_rcs hc hH 2 (pc' := 11) (lv' := [(2, .int (nI i)), (1, .int x), (0, .ref 50)]) (st' := [.int 4, .int (nI i)]) (μ' := μ1) (by rfl) ?_
        refine zq_ic hc hH (by rfl) (tg := 154) (by rfl) (fun h9 => (zb_t h9 (ge_nI (n := 4) (i := i) (by omega) (by decide))).elim) (fun _ => ?_)
        refine z_rcs hc hH 6 (pc' := 22) (lv' := [(2, .int (nI i)), (1, .int x), (0, .ref 50)]) (st' := [.int (((μ1.1 50 45) + (nI i)) - ((μ1.1 50 45) + (nI i)) / 4 * 4)]) (μ' := μ1) (by rfl) ?_
        rw [ea1, nI_add, nI_r4 _ (by omega)]
        refine z_rcs hc hH 4 (pc' := 28) (lv' := [(3, .int (nI ((a + i) % 4))), (2, .int (nI i)), (1, .int x), (0, .ref 50)]) (st' := [.int (nI ((a + i) % 4)), .ref 71]) (μ' := μ1) (by rfl) ?_
        refine zq_bald hc hH (by rfl) 4 (by decide +kernel) (vp_in_nI he (by decide)) ?_
        refine zq_if hc hH (by rfl) (tg := 35) (by rfl) (fun h1 => ?_) (fun h1 => ?_)
        · have h1 := cm_ne.mp h1
          refine z_rcs hc hH 5 (pc' := 42) (lv' := [(3, .int (nI ((a + i) % 4))), (2, .int (nI i)), (1, .int x), (0, .ref 50)]) (st' := [.int 0, .int (μ1.1 50 49), .int (nI ((a + i) % 4)), .ref 50]) (μ' := μ1) (by rfl) ?_
          rw [eb1]
          refine zq_call hc (z_cx_ok hH (by rfl)) (a_use (i := 121) (K := ak_121) rfl (by omega) [.ref 50, .int (nI ((a + i) % 4)), .int (nI b), .int 0] _ (aArg_pre ⟨⟨50, by decide, rfl⟩, ⟨_, rfl, (show bI 0 3 _ from bd_nI (by omega) ⟨by omega, by omega⟩)⟩, ⟨_, rfl, (show bI 0 33 _ from bd_nI (by omega) ⟨by omega, by omega⟩)⟩, ⟨0, rfl, by decide, by decide⟩, trivial⟩ rfl) hS.1) (by decide +kernel) (fun r9 μ9 hq => ?_)
          obtain ⟨q1, q3, rfl⟩ := hq
          have hB := hS.to q1 (GW_keep hS.2.1 q3 (by decide)) q3 (by decide)
          have eb2 : μ9.1 50 49 = nI b := by rw [a_Fz_at q3 50 49 (by decide +kernel), eb1]
          have ew2 : μ9.1 50 53 = nI w := by rw [a_Fz_at q3 50 53 (by decide +kernel), ew]
          show Z 0 45 [(3, .int (nI ((a + i) % 4))), (2, .int (nI i)), (1, .int x), (0, .ref 50)] [] μ9
          refine z_rcs hc hH 8 (pc' := 59) (lv' := [(3, .int (nI ((a + i) % 4))), (2, .int (nI i)), (1, .int x), (0, .ref 50)]) (st' := [.int (μ9.1 50 49), .int (μ9.1 50 45), .int (nI ((a + i) % 4)), .int (μ9.1 50 53), .ref 50]) (μ' := μ9) (by rfl) ?_
          rw [ew2]
          refine zq_call hc (z_cx_ok hH (by rfl)) (fc_X7_writes d' (by omega) μ9 w ((a + i) % 4) _ _ (by omega) he hB.1 hB.2.1) (by decide +kernel) (fun r8 μ8 hq => ?_)
          obtain ⟨rfl, q4, q5, q6⟩ := hq
          have hC := hB.to q4 q5 q6 (by decide)
          show Z 0 62 [(3, .int (nI ((a + i) % 4))), (2, .int (nI i)), (1, .int x), (0, .ref 50)] [] μ8
          refine z_rcs hc hH 3 (pc' := 68) (lv' := [(4, .int (μ8.1 50 13)), (3, .int (nI ((a + i) % 4))), (2, .int (nI i)), (1, .int x), (0, .ref 50)]) (st' := []) (μ' := μ8) (by rfl) ?_
          exact mid _ μ8 hC (by rw [a_Fz_at q6 50 49 (by decide +kernel), eb2]) (by rw [a_Fz_at q6 50 53 (by decide +kernel), ew2])
        · have h1 := cn_ne.mp h1
          refine z_rcs hc hH 3 (pc' := 9) (lv' := [(2, .int ((nI i) + 1)), (3, .int (nI ((a + i) % 4))), (1, .int x), (0, .ref 50)]) (st' := []) (μ' := μ1) (by rfl) ?_
          rw [nI_1]
          exact (ih (i + 1) (by omega) (by omega) x y _ _ hx ⟨hS, eb1, w, by omega, ew⟩).2.2.1
  refine z_rcs hc hH 7 (pc' := 9) (lv' := [(2, .int 1), (1, .int 0), (0, .ref 50)]) (st' := []) (μ' := z_ui μ 50 53 0) (by rfl) ?_
  exact (lp 3 1 rfl (by decide +kernel) 0 0 0 (z_ui μ 50 53 0) ⟨by decide, by decide⟩ ⟨⟨a_H_ui ha ⟨by decide, by decide⟩, GW_ne hg (by decide +kernel), a_Fz_ui (a_Fz_rf _ _) (by decide +kernel)⟩, eb, 0, by decide, rfl⟩).2.2.2
/-! nobody wins -/
theorem zh_X7_nobodyWins : zH mi_X7_nobodyWins zt_X7_nobodyWins 80 7 4 := hh_X7_nobodyWins
theorem a_H_zero {μ : zM} (h : a_H μ) : a_H (z_zero μ) := by
  intro r k
  by_cases e : r = 79
  · subst e
    exact (show bI 0 1 0 from ⟨by decide, by decide⟩)
  · have : (z_zero μ).1 r k = μ.1 r k := by
      unfold z_zero
      simp [z_bf e]
    rw [this]
    exact h r k
theorem a_Fz_zero {md : List (Nat × Nat)} {μ : zM} (hm : a_mda md 79 = true) : a_Fz md μ (z_zero μ) := by
  refine ⟨fun r k h => ⟨?_, rfl⟩, fun _ _ => rfl⟩
  by_cases e : r = 79
  · subst e
    rw [a_mda_md hm k] at h
    cases h
  · unfold z_zero
    simp [z_bf e]
theorem dealer_nI {μ : zM} (h : a_H μ) : ∃ a, a < 4 ∧ μ.1 50 40 = nI a := by
  obtain ⟨a, h1, h2⟩ := vp_in_of (vp_in_bI (n := 4) (b := (0, 3)) (h 50 40) (by decide)) (by decide)
  exact ⟨a, h1, h2⟩
set_option maxRecDepth 100000 in
theorem fc_X7_nobodyWins (d : Nat) (hd : 703 ≤ d) (μ : zM) (ha : a_H μ) (hg : GW μ) : z_C d mi_X7_nobodyWins [.ref 50] μ (fun r μ' => r = none ∧ GST μ μ' ∧ μ'.1 50 44 = 0) := by
  obtain ⟨d', rfl⟩ : ∃ d', d = d' + 1 := ⟨d - 1, by omega⟩
  intro Z hc hr
  refine ⟨rfl, ?_⟩
  have hH := zh_X7_nobodyWins
  have hS0 : GST μ (z_zero μ) := ⟨a_H_zero ha, fun i hi => hg i hi, a_Fz_zero (by decide +kernel)⟩
  have tl : ∀ (u v : Int32) (μ1 : zM), GST μ μ1 → Z 1 103 [(3, .int u), (1, .int v), (2, .ref 79), (0, .ref 50)] [] μ1 := by
    intro u v μ1 hS
    obtain ⟨a, ha4, ea⟩ := dealer_nI hS.1
    refine z_rcs hc hH 4 (pc' := 109) (lv' := [(3, .int u), (1, .int v), (2, .ref 79), (0, .ref 50)]) (st' := [.int (μ1.1 50 40), .ref 79, .ref 50]) (μ' := μ1) (by rfl) ?_
    refine zq_bald hc hH (by rfl) 4 (by decide +kernel) (by rw [ea]; exact vp_in_nI ha4 (by decide)) ?_
    refine z_rcs hc hH 1 (pc' := 111) (lv' := [(3, .int u), (1, .int v), (2, .ref 79), (0, .ref 50)]) (st' := [.int 1, .int (μ1.1 79 (μ1.1 50 40).toNatClampNeg), .ref 50]) (μ' := μ1) (by rfl) ?_
    refine zq_call hc (z_cx_ok hH (by rfl)) (fc_X7_ends d' (by omega) μ1 (μ1.1 79 (μ1.1 50 40).toNatClampNeg) 1 (hS.1 79 _) ⟨by decide, by decide⟩ hS.1) (by decide +kernel) (fun r8 μ8 hq => ?_)
    obtain ⟨rfl, q0, q4, q5⟩ := hq
    show Z 1 114 [(3, .int u), (1, .int v), (2, .ref 79), (0, .ref 50)] [] μ8
    exact hr 1 114 _ _ _ none (by decide +kernel) (by rfl) (⟨rfl, hS.to q4 (GW_keep hS.2.1 q5 (by decide)) q5 (by decide), q0⟩)
  have l1 : ∀ (n i : Nat), i + n = 4 → ∀ (μ1 : zM), GST μ μ1 → Z 1 62 [(3, .int (nI i)), (1, .int 1), (2, .ref 79), (0, .ref 50)] [] μ1 := by
    intro n
    induction n with
    | zero =>
      intro i hi μ1 hS
      have hi : i = 4 := by omega
      subst hi
      refine z_rcs hc hH 2 (pc' := 64) (lv' := [(3, .int (nI 4)), (1, .int 1), (2, .ref 79), (0, .ref 50)]) (st' := [.int 4, .int (nI 4)]) (μ' := μ1) (by rfl) ?_
      refine zq_ic hc hH (by rfl) (tg := 103) (by rfl) (fun _ => ?_) (fun h9 => (zb_t (ge_nIt (n := 4) (i := 4) (by decide) (by decide)) h9).elim)
      exact tl _ _ μ1 hS
    | succ n ih =>
      intro i hi μ1 hS
      refine z_rcs hc hH 2 (pc' := 64) (lv' := [(3, .int (nI i)), (1, .int 1), (2, .ref 79), (0, .ref 50)]) (st' := [.int 4, .int (nI i)]) (μ' := μ1) (by rfl) ?_
      refine zq_ic hc hH (by rfl) (tg := 103) (by rfl) (fun h9 => (zb_t h9 (ge_nI (n := 4) (i := i) (by omega) (by decide))).elim) (fun _ => ?_)
      refine z_rcs hc hH 4 (pc' := 73) (lv' := [(3, .int (nI i)), (1, .int 1), (2, .ref 79), (0, .ref 50)]) (st' := [.int (nI i), .ref 61, .int (nI i), .ref 61]) (μ' := μ1) (by rfl) ?_
      refine zq_iald hc hH (by rfl) 4 (by decide +kernel) (vp_in_nI (by omega) (by decide)) ?_
      refine z_rcs hc hH 2 (pc' := 76) (lv' := [(3, .int (nI i)), (1, .int 1), (2, .ref 79), (0, .ref 50)]) (st' := [.int (nI i), .ref 79, .int (μ1.1 61 (nI i).toNatClampNeg), .int (nI i), .ref 61]) (μ' := μ1) (by rfl) ?_
      refine zq_bald hc hH (by rfl) 4 (by decide +kernel) (vp_in_nI (by omega) (by decide)) ?_
      refine zq_if hc hH (by rfl) (tg := 88) (by rfl) (fun h1 => ?_) (fun h1 => ?_)
      · have h1 := cm_eq9.mp h1
        refine z_rcs hc hH 6 (pc' := 96) (lv' := [(3, .int (nI i)), (1, .int 1), (2, .ref 79), (0, .ref 50)]) (st' := [.int ((μ1.1 61 (nI i).toNatClampNeg) + ((-3000) / (4 - 1))), .int (nI i), .ref 61]) (μ' := μ1) (by rfl) ?_
        refine zq_iast hc hH (by rfl) 4 (by decide +kernel) (vp_in_nI (by omega) (by decide)) ?_
        refine z_rcs hc hH 2 (pc' := 62) (lv' := [(3, .int ((nI i) + 1)), (1, .int 1), (2, .ref 79), (0, .ref 50)]) (st' := []) (μ' := z_ui μ1 61 ((nI i).toNatClampNeg) ((μ1.1 61 (nI i).toNatClampNeg) + ((-3000) / (4 - 1)))) (by rfl) ?_
        rw [nI_1]
        exact ih (i + 1) (by omega) _ (hS.to (md := [(61, 9999)]) (a_H_ui hS.1 (bI_top _)) (GW_ne hS.2.1 (by decide +kernel)) (a_Fz_ui (a_Fz_rf _ _) (a_mda_md (by decide +kernel) _)) (by decide +kernel))
      · have h1 := cn_eq.mp h1
        refine z_rcs hc hH 5 (pc' := 96) (lv' := [(3, .int (nI i)), (1, .int 1), (2, .ref 79), (0, .ref 50)]) (st' := [.int ((μ1.1 61 (nI i).toNatClampNeg) + (3000 / 1)), .int (nI i), .ref 61]) (μ' := μ1) (by rfl) ?_
        refine zq_iast hc hH (by rfl) 4 (by decide +kernel) (vp_in_nI (by omega) (by decide)) ?_
        refine z_rcs hc hH 2 (pc' := 62) (lv' := [(3, .int ((nI i) + 1)), (1, .int 1), (2, .ref 79), (0, .ref 50)]) (st' := []) (μ' := z_ui μ1 61 ((nI i).toNatClampNeg) ((μ1.1 61 (nI i).toNatClampNeg) + (3000 / 1))) (by rfl) ?_
        rw [nI_1]
        exact ih (i + 1) (by omega) _ (hS.to (md := [(61, 9999)]) (a_H_ui hS.1 (bI_top _)) (GW_ne hS.2.1 (by decide +kernel)) (a_Fz_ui (a_Fz_rf _ _) (a_mda_md (by decide +kernel) _)) (by decide +kernel))
  have l2 : ∀ (n i : Nat), i + n = 4 → ∀ (μ1 : zM), GST μ μ1 → Z 1 62 [(3, .int (nI i)), (1, .int 2), (2, .ref 79), (0, .ref 50)] [] μ1 := by
    intro n
    induction n with
    | zero =>
      intro i hi μ1 hS
      have hi : i = 4 := by omega
      subst hi
      refine z_rcs hc hH 2 (pc' := 64) (lv' := [(3, .int (nI 4)), (1, .int 2), (2, .ref 79), (0, .ref 50)]) (st' := [.int 4, .int (nI 4)]) (μ' := μ1) (by rfl) ?_
      refine zq_ic hc hH (by rfl) (tg := 103) (by rfl) (fun _ => ?_) (fun h9 => (zb_t (ge_nIt (n := 4) (i := 4) (by decide) (by decide)) h9).elim)
      exact tl _ _ μ1 hS
    | succ n ih =>
      intro i hi μ1 hS
      refine z_rcs hc hH 2 (pc' := 64) (lv' := [(3, .int (nI i)), (1, .int 2), (2, .ref 79), (0, .ref 50)]) (st' := [.int 4, .int (nI i)]) (μ' := μ1) (by rfl) ?_
      refine zq_ic hc hH (by rfl) (tg := 103) (by rfl) (fun h9 => (zb_t h9 (ge_nI (n := 4) (i := i) (by omega) (by decide))).elim) (fun _ => ?_)
      refine z_rcs hc hH 4 (pc' := 73) (lv' := [(3, .int (nI i)), (1, .int 2), (2, .ref 79), (0, .ref 50)]) (st' := [.int (nI i), .ref 61, .int (nI i), .ref 61]) (μ' := μ1) (by rfl) ?_
      refine zq_iald hc hH (by rfl) 4 (by decide +kernel) (vp_in_nI (by omega) (by decide)) ?_
      refine z_rcs hc hH 2 (pc' := 76) (lv' := [(3, .int (nI i)), (1, .int 2), (2, .ref 79), (0, .ref 50)]) (st' := [.int (nI i), .ref 79, .int (μ1.1 61 (nI i).toNatClampNeg), .int (nI i), .ref 61]) (μ' := μ1) (by rfl) ?_
      refine zq_bald hc hH (by rfl) 4 (by decide +kernel) (vp_in_nI (by omega) (by decide)) ?_
      refine zq_if hc hH (by rfl) (tg := 88) (by rfl) (fun h1 => ?_) (fun h1 => ?_)
      · have h1 := cm_eq9.mp h1
        refine z_rcs hc hH 6 (pc' := 96) (lv' := [(3, .int (nI i)), (1, .int 2), (2, .ref 79), (0, .ref 50)]) (st' := [.int ((μ1.1 61 (nI i).toNatClampNeg) + ((-3000) / (4 - 2))), .int (nI i), .ref 61]) (μ' := μ1) (by rfl) ?_
        refine zq_iast hc hH (by rfl) 4 (by decide +kernel) (vp_in_nI (by omega) (by decide)) ?_
        refine z_rcs hc hH 2 (pc' := 62) (lv' := [(3, .int ((nI i) + 1)), (1, .int 2), (2, .ref 79), (0, .ref 50)]) (st' := []) (μ' := z_ui μ1 61 ((nI i).toNatClampNeg) ((μ1.1 61 (nI i).toNatClampNeg) + ((-3000) / (4 - 2)))) (by rfl) ?_
        rw [nI_1]
        exact ih (i + 1) (by omega) _ (hS.to (md := [(61, 9999)]) (a_H_ui hS.1 (bI_top _)) (GW_ne hS.2.1 (by decide +kernel)) (a_Fz_ui (a_Fz_rf _ _) (a_mda_md (by decide +kernel) _)) (by decide +kernel))
      · have h1 := cn_eq.mp h1
        refine z_rcs hc hH 5 (pc' := 96) (lv' := [(3, .int (nI i)), (1, .int 2), (2, .ref 79), (0, .ref 50)]) (st' := [.int ((μ1.1 61 (nI i).toNatClampNeg) + (3000 / 2)), .int (nI i), .ref 61]) (μ' := μ1) (by rfl) ?_
        refine zq_iast hc hH (by rfl) 4 (by decide +kernel) (vp_in_nI (by omega) (by decide)) ?_
        refine z_rcs hc hH 2 (pc' := 62) (lv' := [(3, .int ((nI i) + 1)), (1, .int 2), (2, .ref 79), (0, .ref 50)]) (st' := []) (μ' := z_ui μ1 61 ((nI i).toNatClampNeg) ((μ1.1 61 (nI i).toNatClampNeg) + (3000 / 2))) (by rfl) ?_
        rw [nI_1]
        exact ih (i + 1) (by omega) _ (hS.to (md := [(61, 9999)]) (a_H_ui hS.1 (bI_top _)) (GW_ne hS.2.1 (by decide +kernel)) (a_Fz_ui (a_Fz_rf _ _) (a_mda_md (by decide +kernel) _)) (by decide +kernel))
  have l3 : ∀ (n i : Nat), i + n = 4 → ∀ (μ1 : zM), GST μ μ1 → Z 1 62 [(3, .int (nI i)), (1, .int 3), (2, .ref 79), (0, .ref 50)] [] μ1 := by
    intro n
    induction n with
    | zero =>
      intro i hi μ1 hS
      have hi : i = 4 := by omega
      subst hi
      refine z_rcs hc hH 2 (pc' := 64) (lv' := [(3, .int (nI 4)), (1, .int 3), (2, .ref 79), (0, .ref 50)]) (st' := [.int 4, .int (nI 4)]) (μ' := μ1) (by rfl) ?_
      refine zq_ic hc hH (by rfl) (tg := 103) (by rfl) (fun _ => ?_) (fun h9 => (zb_t (ge_nIt (n := 4) (i := 4) (by decide) (by decide)) h9).elim)
      exact tl _ _ μ1 hS
    | succ n ih =>
      intro i hi μ1 hS
      refine z_rcs hc hH 2 (pc' := 64) (lv' := [(3, .int (nI i)), (1, .int 3), (2, .ref 79), (0, .ref 50)]) (st' := [.int 4, .int (nI i)]) (μ' := μ1) (by rfl) ?_
      refine zq_ic hc hH (by rfl) (tg := 103) (by rfl) (fun h9 => (zb_t h9 (ge_nI (n := 4) (i := i) (by omega) (by decide))).elim) (fun _ => ?_)
      refine z_rcs hc hH 4 (pc' := 73) (lv' := [(3, .int (nI i)), (1, .int 3), (2, .ref 79), (0, .ref 50)]) (st' := [.int (nI i), .ref 61, .int (nI i), .ref 61]) (μ' := μ1) (by rfl) ?_
      refine zq_iald hc hH (by rfl) 4 (by decide +kernel) (vp_in_nI (by omega) (by decide)) ?_
      refine z_rcs hc hH 2 (pc' := 76) (lv' := [(3, .int (nI i)), (1, .int 3), (2, .ref 79), (0, .ref 50)]) (st' := [.int (nI i), .ref 79, .int (μ1.1 61 (nI i).toNatClampNeg), .int (nI i), .ref 61]) (μ' := μ1) (by rfl) ?_
      refine zq_bald hc hH (by rfl) 4 (by decide +kernel) (vp_in_nI (by omega) (by decide)) ?_
      refine zq_if hc hH (by rfl) (tg := 88) (by rfl) (fun h1 => ?_) (fun h1 => ?_)
      · have h1 := cm_eq9.mp h1
        refine z_rcs hc hH 6 (pc' := 96) (lv' := [(3, .int (nI i)), (1, .int 3), (2, .ref 79), (0, .ref 50)]) (st' := [.int ((μ1.1 61 (nI i).toNatClampNeg) + ((-3000) / (4 - 3))), .int (nI i), .ref 61]) (μ' := μ1) (by rfl) ?_
        refine zq_iast hc hH (by rfl) 4 (by decide +kernel) (vp_in_nI (by omega) (by decide)) ?_
        refine z_rcs hc hH 2 (pc' := 62) (lv' := [(3, .int ((nI i) + 1)), (1, .int 3), (2, .ref 79), (0, .ref 50)]) (st' := []) (μ' := z_ui μ1 61 ((nI i).toNatClampNeg) ((μ1.1 61 (nI i).toNatClampNeg) + ((-3000) / (4 - 3)))) (by rfl) ?_
        rw [nI_1]
        exact ih (i + 1) (by omega) _ (hS.to (md := [(61, 9999)]) (a_H_ui hS.1 (bI_top _)) (GW_ne hS.2.1 (by decide +kernel)) (a_Fz_ui (a_Fz_rf _ _) (a_mda_md (by decide +kernel) _)) (by decide +kernel))
      · have h1 := cn_eq.mp h1
        refine z_rcs hc hH 5 (pc' := 96) (lv' := [(3, .int (nI i)), (1, .int 3), (2, .ref 79), (0, .ref 50)]) (st' := [.int ((μ1.1 61 (nI i).toNatClampNeg) + (3000 / 3)), .int (nI i), .ref 61]) (μ' := μ1) (by rfl) ?_
        refine zq_iast hc hH (by rfl) 4 (by decide +kernel) (vp_in_nI (by omega) (by decide)) ?_
        refine z_rcs hc hH 2 (pc' := 62) (lv' := [(3, .int ((nI i) + 1)), (1, .int 3), (2, .ref 79), (0, .ref 50)]) (st' := []) (μ' := z_ui μ1 61 ((nI i).toNatClampNeg) ((μ1.1 61 (nI i).toNatClampNeg) + (3000 / 3))) (by rfl) ?_
        rw [nI_1]
        exact ih (i + 1) (by omega) _ (hS.to (md := [(61, 9999)]) (a_H_ui hS.1 (bI_top _)) (GW_ne hS.2.1 (by decide +kernel)) (a_Fz_ui (a_Fz_rf _ _) (a_mda_md (by decide +kernel) _)) (by decide +kernel))
  have af : ∀ (cn : Nat) (u : Int32) (μ1 : zM), cn ≤ 4 → GST μ μ1 → Z 1 51 [(3, .int u), (1, .int (nI cn)), (2, .ref 79), (0, .ref 50)] [] μ1 := by
    intro cn u μ1 h4 hS
    have hcn : cn = 0 ∨ cn = 1 ∨ cn = 2 ∨ cn = 3 ∨ cn = 4 := by omega
    rcases hcn with rfl | rfl | rfl | rfl | rfl
    · show Z 1 51 [(3, .int u), (1, .int 0), (2, .ref 79), (0, .ref 50)] [] μ1
      refine z_rcs hc hH 2 (pc' := 103) (lv' := [(3, .int u), (1, .int 0), (2, .ref 79), (0, .ref 50)]) (st' := []) (μ' := μ1) (by rfl) ?_
      exact tl _ _ μ1 hS
    · show Z 1 51 [(3, .int u), (1, .int 1), (2, .ref 79), (0, .ref 50)] [] μ1
      refine z_rcs hc hH 7 (pc' := 62) (lv' := [(3, .int 0), (1, .int 1), (2, .ref 79), (0, .ref 50)]) (st' := []) (μ' := μ1) (by rfl) ?_
      exact l1 4 0 rfl μ1 hS
    · show Z 1 51 [(3, .int u), (1, .int 2), (2, .ref 79), (0, .ref 50)] [] μ1
      refine z_rcs hc hH 7 (pc' := 62) (lv' := [(3, .int 0), (1, .int 2), (2, .ref 79), (0, .ref 50)]) (st' := []) (μ' := μ1) (by rfl) ?_
      exact l2 4 0 rfl μ1 hS
    · show Z 1 51 [(3, .int u), (1, .int 3), (2, .ref 79), (0, .ref 50)] [] μ1
      refine z_rcs hc hH 7 (pc' := 62) (lv' := [(3, .int 0), (1, .int 3), (2, .ref 79), (0, .ref 50)]) (st' := []) (μ' := μ1) (by rfl) ?_
      exact l3 4 0 rfl μ1 hS
    · show Z 1 51 [(3, .int u), (1, .int 4), (2, .ref 79), (0, .ref 50)] [] μ1
      refine z_rcs hc hH 5 (pc' := 103) (lv' := [(3, .int u), (1, .int 4), (2, .ref 79), (0, .ref 50)]) (st' := []) (μ' := μ1) (by rfl) ?_
      exact tl _ _ μ1 hS
  have lp : ∀ (n i : Nat), i + n = 4 → ∀ (cn : Nat) (μ1 : zM), cn ≤ i → GST μ μ1 → Z 1 8 [(3, .int (nI i)), (1, .int (nI cn)), (2, .ref 79), (0, .ref 50)] [] μ1 := by
    intro n
    induction n with
    | zero =>
      intro i hi cn μ1 hcn hS
      have hi : i = 4 := by omega
      subst hi
      refine z_rcs hc hH 2 (pc' := 10) (lv' := [(3, .int (nI 4)), (1, .int (nI cn)), (2, .ref 79), (0, .ref 50)]) (st' := [.int 4, .int (nI 4)]) (μ' := μ1) (by rfl) ?_
      refine zq_ic hc hH (by rfl) (tg := 51) (by rfl) (fun _ => ?_) (fun h9 => (zb_t (ge_nIt (n := 4) (i := 4) (by decide) (by decide)) h9).elim)
      exact af cn _ μ1 hcn hS
    | succ n ih =>
      intro i hi cn μ1 hcn hS
      refine z_rcs hc hH 2 (pc' := 10) (lv' := [(3, .int (nI i)), (1, .int (nI cn)), (2, .ref 79), (0, .ref 50)]) (st' := [.int 4, .int (nI i)]) (μ' := μ1) (by rfl) ?_
      refine zq_ic hc hH (by rfl) (tg := 51) (by rfl) (fun h9 => (zb_t h9 (ge_nI (n := 4) (i := i) (by omega) (by decide))).elim) (fun _ => ?_)
      refine z_rcs hc hH 4 (pc' := 17) (lv' := [(3, .int (nI i)), (1, .int (nI cn)), (2, .ref 79), (0, .ref 50)]) (st' := [.int (nI i), .ref 50, .int (nI i), .ref 79]) (μ' := μ1) (by rfl) ?_
      refine zq_call hc (z_cx_ok hH (by rfl)) (a_use (i := 118) (K := ak_118) rfl (by omega) [.ref 50, .int (nI i)] _ (aArg_pre ⟨⟨50, by decide, rfl⟩, ⟨_, rfl, (show bI 0 3 _ from bd_nI (by omega) ⟨by omega, by omega⟩)⟩, trivial⟩ rfl) hS.1) (by decide +kernel) (fun r9 μ9 hq => ?_)
      obtain ⟨q1, q3, hr9⟩ := hq
      obtain ⟨v9, rfl, x9, rfl, -⟩ := hr9
      have hB := hS.to q1 (GW_keep hS.2.1 q3 (by decide)) q3 (by decide)
      show Z 1 20 [(3, .int (nI i)), (1, .int (nI cn)), (2, .ref 79), (0, .ref 50)] [.long x9, .int (nI i), .ref 79] μ9
      refine z_rcs hc hH 2 (pc' := 22) (lv' := [(3, .int (nI i)), (1, .int (nI cn)), (2, .ref 79), (0, .ref 50)]) (st' := [.int (lg_cmp x9 0), .int (nI i), .ref 79]) (μ' := μ9) (by rfl) ?_
      refine zq_if hc hH (by rfl) (tg := 29) (by rfl) (fun h1 => ?_) (fun h1 => ?_)
      · have h1 := cm_eq9.mp h1
        refine z_rcs hc hH 1 (pc' := 30) (lv' := [(3, .int (nI i)), (1, .int (nI cn)), (2, .ref 79), (0, .ref 50)]) (st' := [.int 0, .int (nI i), .ref 79]) (μ' := μ9) (by rfl) ?_
        refine zq_bast hc hH (by rfl) 4 (by decide +kernel) (vp_in_nI (by omega) (by decide)) (by decide) ?_
        refine z_rcs hc hH 3 (pc' := 34) (lv' := [(3, .int (nI i)), (1, .int (nI cn)), (2, .ref 79), (0, .ref 50)]) (st' := [.int (nI i), .ref 79, .int (nI cn)]) (μ' := z_ui μ9 79 ((nI i).toNatClampNeg) 0) (by rfl) ?_
        refine zq_bald hc hH (by rfl) 4 (by decide +kernel) (vp_in_nI (by omega) (by decide)) ?_
        refine zq_if hc hH (by rfl) (tg := 42) (by rfl) (fun h2 => ?_) (fun h2 => ?_)
        · have h2 := cm_eq9.mp h2
          refine z_rcs hc hH 5 (pc' := 8) (lv' := [(3, .int ((nI i) + 1)), (1, .int ((nI cn) + 0)), (2, .ref 79), (0, .ref 50)]) (st' := []) (μ' := z_ui μ9 79 ((nI i).toNatClampNeg) 0) (by rfl) ?_
          rw [Int32.add_zero, nI_1]
          exact ih (i + 1) (by omega) cn _ (by omega) (hB.to (md := [(79, 9999)]) (a_H_ui hB.1 (show bI 0 1 0 from ⟨by decide, by decide⟩)) (GW_ne hB.2.1 (by decide +kernel)) (a_Fz_ui (a_Fz_rf _ _) (a_mda_md (by decide +kernel) _)) (by decide +kernel))
        · have h2 := cn_eq.mp h2
          refine z_rcs hc hH 6 (pc' := 8) (lv' := [(3, .int ((nI i) + 1)), (1, .int ((nI cn) + 1)), (2, .ref 79), (0, .ref 50)]) (st' := []) (μ' := z_ui μ9 79 ((nI i).toNatClampNeg) 0) (by rfl) ?_
          rw [nI_1, nI_1]
          exact ih (i + 1) (by omega) (cn + 1) _ (by omega) (hB.to (md := [(79, 9999)]) (a_H_ui hB.1 (show bI 0 1 0 from ⟨by decide, by decide⟩)) (GW_ne hB.2.1 (by decide +kernel)) (a_Fz_ui (a_Fz_rf _ _) (a_mda_md (by decide +kernel) _)) (by decide +kernel))
      · have h1 := cn_eq.mp h1
        refine z_rcs hc hH 2 (pc' := 30) (lv' := [(3, .int (nI i)), (1, .int (nI cn)), (2, .ref 79), (0, .ref 50)]) (st' := [.int 1, .int (nI i), .ref 79]) (μ' := μ9) (by rfl) ?_
        refine zq_bast hc hH (by rfl) 4 (by decide +kernel) (vp_in_nI (by omega) (by decide)) (by decide) ?_
        refine z_rcs hc hH 3 (pc' := 34) (lv' := [(3, .int (nI i)), (1, .int (nI cn)), (2, .ref 79), (0, .ref 50)]) (st' := [.int (nI i), .ref 79, .int (nI cn)]) (μ' := z_ui μ9 79 ((nI i).toNatClampNeg) 1) (by rfl) ?_
        refine zq_bald hc hH (by rfl) 4 (by decide +kernel) (vp_in_nI (by omega) (by decide)) ?_
        refine zq_if hc hH (by rfl) (tg := 42) (by rfl) (fun h3 => ?_) (fun h3 => ?_)
        · have h3 := cm_eq9.mp h3
          refine z_rcs hc hH 5 (pc' := 8) (lv' := [(3, .int ((nI i) + 1)), (1, .int ((nI cn) + 0)), (2, .ref 79), (0, .ref 50)]) (st' := []) (μ' := z_ui μ9 79 ((nI i).toNatClampNeg) 1) (by rfl) ?_
          rw [Int32.add_zero, nI_1]
          exact ih (i + 1) (by omega) cn _ (by omega) (hB.to (md := [(79, 9999)]) (a_H_ui hB.1 (show bI 0 1 1 from ⟨by decide, by decide⟩)) (GW_ne hB.2.1 (by decide +kernel)) (a_Fz_ui (a_Fz_rf _ _) (a_mda_md (by decide +kernel) _)) (by decide +kernel))
        · have h3 := cn_eq.mp h3
          refine z_rcs hc hH 6 (pc' := 8) (lv' := [(3, .int ((nI i) + 1)), (1, .int ((nI cn) + 1)), (2, .ref 79), (0, .ref 50)]) (st' := []) (μ' := z_ui μ9 79 ((nI i).toNatClampNeg) 1) (by rfl) ?_
          rw [nI_1, nI_1]
          exact ih (i + 1) (by omega) (cn + 1) _ (by omega) (hB.to (md := [(79, 9999)]) (a_H_ui hB.1 (show bI 0 1 1 from ⟨by decide, by decide⟩)) (GW_ne hB.2.1 (by decide +kernel)) (a_Fz_ui (a_Fz_rf _ _) (a_mda_md (by decide +kernel) _)) (by decide +kernel))
  have s0 : ∀ (cn i : Nat) (μ1 : zM), cn = 0 → i = 0 → GST μ μ1 → Z 1 8 [(3, .int (nI i)), (2, .ref 79), (1, .int (nI cn)), (0, .ref 50)] [] μ1 := by
    intro cn i μ1 hcn hi hS
    refine z_rcs hc hH 2 (pc' := 10) (lv' := [(3, .int (nI i)), (2, .ref 79), (1, .int (nI cn)), (0, .ref 50)]) (st' := [.int 4, .int (nI i)]) (μ' := μ1) (by rfl) ?_
    refine zq_ic hc hH (by rfl) (tg := 51) (by rfl) (fun h9 => (zb_t h9 (ge_nI (n := 4) (i := i) (by omega) (by decide))).elim) (fun _ => ?_)
    refine z_rcs hc hH 4 (pc' := 17) (lv' := [(3, .int (nI i)), (2, .ref 79), (1, .int (nI cn)), (0, .ref 50)]) (st' := [.int (nI i), .ref 50, .int (nI i), .ref 79]) (μ' := μ1) (by rfl) ?_
    refine zq_call hc (z_cx_ok hH (by rfl)) (a_use (i := 118) (K := ak_118) rfl (by omega) [.ref 50, .int (nI i)] _ (aArg_pre ⟨⟨50, by decide, rfl⟩, ⟨_, rfl, (show bI 0 3 _ from bd_nI (by omega) ⟨by omega, by omega⟩)⟩, trivial⟩ rfl) hS.1) (by decide +kernel) (fun r9 μ9 hq => ?_)
    obtain ⟨q1, q3, hr9⟩ := hq
    obtain ⟨v9, rfl, x9, rfl, -⟩ := hr9
    have hB := hS.to q1 (GW_keep hS.2.1 q3 (by decide)) q3 (by decide)
    show Z 1 20 [(3, .int (nI i)), (2, .ref 79), (1, .int (nI cn)), (0, .ref 50)] [.long x9, .int (nI i), .ref 79] μ9
    refine z_rcs hc hH 2 (pc' := 22) (lv' := [(3, .int (nI i)), (2, .ref 79), (1, .int (nI cn)), (0, .ref 50)]) (st' := [.int (lg_cmp x9 0), .int (nI i), .ref 79]) (μ' := μ9) (by rfl) ?_
    refine zq_if hc hH (by rfl) (tg := 29) (by rfl) (fun h1 => ?_) (fun h1 => ?_)
    · have h1 := cm_eq9.mp h1
      refine z_rcs hc hH 1 (pc' := 30) (lv' := [(3, .int (nI i)), (2, .ref 79), (1, .int (nI cn)), (0, .ref 50)]) (st' := [.int 0, .int (nI i), .ref 79]) (μ' := μ9) (by rfl) ?_
      refine zq_bast hc hH (by rfl) 4 (by decide +kernel) (vp_in_nI (by omega) (by decide)) (by decide) ?_
      refine z_rcs hc hH 3 (pc' := 34) (lv' := [(3, .int (nI i)), (2, .ref 79), (1, .int (nI cn)), (0, .ref 50)]) (st' := [.int (nI i), .ref 79, .int (nI cn)]) (μ' := z_ui μ9 79 ((nI i).toNatClampNeg) 0) (by rfl) ?_
      refine zq_bald hc hH (by rfl) 4 (by decide +kernel) (vp_in_nI (by omega) (by decide)) ?_
      refine zq_if hc hH (by rfl) (tg := 42) (by rfl) (fun h2 => ?_) (fun h2 => ?_)
      · have h2 := cm_eq9.mp h2
        refine z_rcs hc hH 5 (pc' := 8) (lv' := [(3, .int ((nI i) + 1)), (1, .int ((nI cn) + 0)), (2, .ref 79), (0, .ref 50)]) (st' := []) (μ' := z_ui μ9 79 ((nI i).toNatClampNeg) 0) (by rfl) ?_
        rw [Int32.add_zero, nI_1]
        exact lp 3 (i + 1) (by omega) cn _ (by omega) (hB.to (md := [(79, 9999)]) (a_H_ui hB.1 (show bI 0 1 0 from ⟨by decide, by decide⟩)) (GW_ne hB.2.1 (by decide +kernel)) (a_Fz_ui (a_Fz_rf _ _) (a_mda_md (by decide +kernel) _)) (by decide +kernel))
      · have h2 := cn_eq.mp h2
        refine z_rcs hc hH 6 (pc' := 8) (lv' := [(3, .int ((nI i) + 1)), (1, .int ((nI cn) + 1)), (2, .ref 79), (0, .ref 50)]) (st' := []) (μ' := z_ui μ9 79 ((nI i).toNatClampNeg) 0) (by rfl) ?_
        rw [nI_1, nI_1]
        exact lp 3 (i + 1) (by omega) (cn + 1) _ (by omega) (hB.to (md := [(79, 9999)]) (a_H_ui hB.1 (show bI 0 1 0 from ⟨by decide, by decide⟩)) (GW_ne hB.2.1 (by decide +kernel)) (a_Fz_ui (a_Fz_rf _ _) (a_mda_md (by decide +kernel) _)) (by decide +kernel))
    · have h1 := cn_eq.mp h1
      refine z_rcs hc hH 2 (pc' := 30) (lv' := [(3, .int (nI i)), (2, .ref 79), (1, .int (nI cn)), (0, .ref 50)]) (st' := [.int 1, .int (nI i), .ref 79]) (μ' := μ9) (by rfl) ?_
      refine zq_bast hc hH (by rfl) 4 (by decide +kernel) (vp_in_nI (by omega) (by decide)) (by decide) ?_
      refine z_rcs hc hH 3 (pc' := 34) (lv' := [(3, .int (nI i)), (2, .ref 79), (1, .int (nI cn)), (0, .ref 50)]) (st' := [.int (nI i), .ref 79, .int (nI cn)]) (μ' := z_ui μ9 79 ((nI i).toNatClampNeg) 1) (by rfl) ?_
      refine zq_bald hc hH (by rfl) 4 (by decide +kernel) (vp_in_nI (by omega) (by decide)) ?_
      refine zq_if hc hH (by rfl) (tg := 42) (by rfl) (fun h3 => ?_) (fun h3 => ?_)
      · have h3 := cm_eq9.mp h3
        refine z_rcs hc hH 5 (pc' := 8) (lv' := [(3, .int ((nI i) + 1)), (1, .int ((nI cn) + 0)), (2, .ref 79), (0, .ref 50)]) (st' := []) (μ' := z_ui μ9 79 ((nI i).toNatClampNeg) 1) (by rfl) ?_
        rw [Int32.add_zero, nI_1]
        exact lp 3 (i + 1) (by omega) cn _ (by omega) (hB.to (md := [(79, 9999)]) (a_H_ui hB.1 (show bI 0 1 1 from ⟨by decide, by decide⟩)) (GW_ne hB.2.1 (by decide +kernel)) (a_Fz_ui (a_Fz_rf _ _) (a_mda_md (by decide +kernel) _)) (by decide +kernel))
      · have h3 := cn_eq.mp h3
        refine z_rcs hc hH 6 (pc' := 8) (lv' := [(3, .int ((nI i) + 1)), (1, .int ((nI cn) + 1)), (2, .ref 79), (0, .ref 50)]) (st' := []) (μ' := z_ui μ9 79 ((nI i).toNatClampNeg) 1) (by rfl) ?_
        rw [nI_1, nI_1]
        exact lp 3 (i + 1) (by omega) (cn + 1) _ (by omega) (hB.to (md := [(79, 9999)]) (a_H_ui hB.1 (show bI 0 1 1 from ⟨by decide, by decide⟩)) (GW_ne hB.2.1 (by decide +kernel)) (a_Fz_ui (a_Fz_rf _ _) (a_mda_md (by decide +kernel) _)) (by decide +kernel))
  refine z_rcs hc hH 2 (pc' := 8) (lv' := [(3, .int 0), (2, .ref 79), (1, .int 0), (0, .ref 50)]) (st' := []) (μ' := z_zero μ) (by rfl) ?_
  exact s0 0 0 _ rfl rfl hS0

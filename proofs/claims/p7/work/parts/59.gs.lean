/-! the small methods of the model's game -/
theorem vp_in_bI {x : Int32} {n : Nat} {b : aB} (h : a_bi b x) (hb : 0 ≤ b.1 ∧ b.2 < n) : vp_in x n := vp_in_iff.mpr ⟨by have := h.1; omega, by have := h.2; omega⟩
theorem a_md_row {md : List (Nat × Nat)} {r k : Nat} (h : (md.all (fun q => !Nat.beq q.1 r)) = true) : a_md md r k = false := by
  unfold a_md
  rw [List.any_eq_false]
  intro q hq
  have := List.all_eq_true.mp h q hq
  rw [Bool.not_eq_true'] at this
  rw [this, Bool.false_and]
  decide
theorem bd_nI {n : Nat} {lo hi : Int} (h : n < 2 ^ 31) (h1 : lo ≤ n ∧ n ≤ hi) : bI lo hi (nI n) := bI_w (bI_k (nI_toInt h)) h1
theorem nI_ml (a b : Nat) : nI a * nI b = nI (a * b) := (Int32.ofNat_mul a b).symm
theorem nI_34 (a c : Nat) : (34 : Int32) * nI a + nI c = nI (34 * a + c) := by
  rw [show (34 : Int32) = nI 34 from rfl, nI_ml, nI_add]
theorem nI_4q (a q : Nat) : (4 : Int32) * nI a + nI q = nI (4 * a + q) := by
  rw [show (4 : Int32) = nI 4 from rfl, nI_ml, nI_add]
def z_giv (μ : zM) (a c : Nat) (n : Int32) : zM := z_ui μ 60 (34 * a + c) (μ.1 60 (34 * a + c) + n)
theorem zh_X7_gives : zH mi_X7_gives zt_X7_gives 79 7 4 := hh_X7_gives
theorem fc_X7_gives (d : Nat) (hd : 1 ≤ d) (μ : zM) (a c : Nat) (n : Int32) (ha : a < 4) (hc4 : c < 34) : z_C d mi_X7_gives [.ref 50, .int (nI a), .int (nI c), .int n] μ (fun r μ' => r = none ∧ μ' = z_giv μ a c n) := by
  refine z_C_in (by decide) (by omega) (fun d' Z ed hc hr => ?_)
  have hH := zh_X7_gives
  refine z_rcs hc hH 7 (pc' := 10) (lv' := [(0, .ref 50), (1, .int (nI a)), (2, .int (nI c)), (3, .int n)]) (st' := [.int ((34 * (nI a)) + (nI c)), .ref 60]) (μ' := μ) (by rfl) ?_
  rw [nI_34]
  refine z_rcs hc hH 1 (pc' := 11) (lv' := [(0, .ref 50), (1, .int (nI a)), (2, .int (nI c)), (3, .int n)]) (st' := [.int (nI (34 * a + c)), .ref 60, .int (nI (34 * a + c)), .ref 60]) (μ' := μ) (by rfl) ?_
  refine zq_iald hc hH (by rfl) 136 (by decide +kernel) (vp_in_nI (by omega) (by decide)) ?_
  refine z_rcs hc hH 2 (pc' := 14) (lv' := [(0, .ref 50), (1, .int (nI a)), (2, .int (nI c)), (3, .int n)]) (st' := [.int ((μ.1 60 (nI (34 * a + c)).toNatClampNeg) + n), .int (nI (34 * a + c)), .ref 60]) (μ' := μ) (by rfl) ?_
  refine zq_iast hc hH (by rfl) 136 (by decide +kernel) (vp_in_nI (by omega) (by decide)) ?_
  exact hr 0 15 _ _ _ none (by decide +kernel) (by rfl) (⟨rfl, by rw [nI_clamp (by omega)]; rfl⟩)
theorem zh_X7_has_ : zH mi_X7_has_ zt_X7_has_ 79 7 3 := hh_X7_has_
theorem fc_X7_has_ (d : Nat) (hd : 1 ≤ d) (μ : zM) (a c : Nat) (ha : a < 4) (hc4 : c < 34) : z_C d mi_X7_has_ [.ref 50, .int (nI a), .int (nI c)] μ (zR μ (.int (μ.1 60 (34 * a + c)))) := by
  refine z_C_in (by decide) (by omega) (fun d' Z ed hc hr => ?_)
  have hH := zh_X7_has_
  refine z_rcs hc hH 7 (pc' := 10) (lv' := [(0, .ref 50), (1, .int (nI a)), (2, .int (nI c))]) (st' := [.int ((34 * (nI a)) + (nI c)), .ref 60]) (μ' := μ) (by rfl) ?_
  rw [nI_34]
  refine zq_iald hc hH (by rfl) 136 (by decide +kernel) (vp_in_nI (by omega) (by decide)) ?_
  exact hr 0 11 _ _ _ (some (.int (μ.1 60 (nI (34 * a + c)).toNatClampNeg))) (by decide +kernel) (z_rx_ok hH (by rfl)) (⟨rfl, by rw [nI_clamp (by omega)]⟩)
theorem zh_X7_left : zH mi_X7_left zt_X7_left 79 7 1 := hh_X7_left
theorem fc_X7_left (d : Nat) (hd : 1 ≤ d) (μ : zM) : z_C d mi_X7_left [.ref 50] μ (zR μ (.int (122 - μ.1 50 47 - μ.1 50 46))) := by
  refine z_C_in (by decide) (by omega) (fun d' Z ed hc hr => ?_)
  have hH := zh_X7_left
  refine z_rcs hc hH 7 (pc' := 12) (lv' := [(0, .ref 50)]) (st' := [.int ((122 - (μ.1 50 47)) - (μ.1 50 46))]) (μ' := μ) (by rfl) ?_
  exact hr 0 12 _ _ _ (some (.int ((122 - (μ.1 50 47)) - (μ.1 50 46)))) (by decide +kernel) (z_rx_ok hH (by rfl)) (⟨rfl, rfl⟩)
theorem zh_X7_isSeat : zH mi_X7_isSeat zt_X7_isSeat 79 7 1 := hh_X7_isSeat
theorem fc_X7_isSeat (d : Nat) (hd : 1 ≤ d) (μ : zM) (s : Int32) : z_C d mi_X7_isSeat [.int s] μ (zB μ (vp_in s 4)) := by
  refine z_C_in (by decide) (by omega) (fun d' Z ed hc hr => ?_)
  have hH := zh_X7_isSeat
  refine z_rcs hc hH 1 (pc' := 1) (lv' := [(0, .int s)]) (st' := [.int s]) (μ' := μ) (by rfl) ?_
  refine zq_if hc hH (by rfl) (tg := 13) (by rfl) (fun h1 => ?_) (fun h1 => ?_)
  · have h1 := cm_lt.mp h1
    refine z_rcs hc hH 1 (pc' := 14) (lv' := [(0, .int s)]) (st' := [.int 0]) (μ' := μ) (by rfl) ?_
    exact hr 0 14 _ _ _ (some (.int 0)) (by decide +kernel) (z_rx_ok hH (by rfl)) (⟨rfl, Or.inr ⟨rfl, nin_lt h1⟩⟩)
  · have h1 := cn_lt.mp h1
    refine z_rcs hc hH 2 (pc' := 6) (lv' := [(0, .int s)]) (st' := [.int 4, .int s]) (μ' := μ) (by rfl) ?_
    refine zq_ic hc hH (by rfl) (tg := 13) (by rfl) (fun h2 => ?_) (fun h2 => ?_)
    · have h2 := cm_ge.mp h2
      refine z_rcs hc hH 1 (pc' := 14) (lv' := [(0, .int s)]) (st' := [.int 0]) (μ' := μ) (by rfl) ?_
      exact hr 0 14 _ _ _ (some (.int 0)) (by decide +kernel) (z_rx_ok hH (by rfl)) (⟨rfl, Or.inr ⟨rfl, nin_ge (M := 4) rfl h2⟩⟩)
    · have h2 := cn_ge.mp h2
      refine z_rcs hc hH 2 (pc' := 14) (lv' := [(0, .int s)]) (st' := [.int 1]) (μ' := μ) (by rfl) ?_
      exact hr 0 14 _ _ _ (some (.int 1)) (by decide +kernel) (z_rx_ok hH (by rfl)) (⟨rfl, Or.inl ⟨rfl, in_of (M := 4) rfl h1 h2⟩⟩)
theorem zh_X7_mayClaim : zH mi_X7_mayClaim zt_X7_mayClaim 79 7 2 := hh_X7_mayClaim
theorem fc_X7_mayClaim (d : Nat) (hd : 701 ≤ d) (μ : zM) (s : Int32) (ha : a_H μ) : z_C d mi_X7_mayClaim [.ref 50, .int s] μ (fun r μ' => μ' = μ ∧ ((r = some (.int 1) ∧ μ.1 50 44 = 2 ∧ ¬ 122 - μ.1 50 47 - μ.1 50 46 ≤ 0 ∧ vp_in s 4 ∧ ¬ s = μ.1 50 45) ∨ r = some (.int 0))) := by
  refine z_C_in (by decide) (by omega) (fun d' Z ed hc hr => ?_)
  have hH := zh_X7_mayClaim
  refine z_rcs hc hH 3 (pc' := 5) (lv' := [(0, .ref 50), (1, .int s)]) (st' := [.int 2, .int (μ.1 50 44)]) (μ' := μ) (by rfl) ?_
  refine zq_ic hc hH (by rfl) (tg := 50) (by rfl) (fun h1 => ?_) (fun h1 => ?_)
  · have h1 := cm_ne.mp h1
    refine z_rcs hc hH 1 (pc' := 51) (lv' := [(0, .ref 50), (1, .int s)]) (st' := [.int 0]) (μ' := μ) (by rfl) ?_
    exact hr 0 51 _ _ _ (some (.int 0)) (by decide +kernel) (z_rx_ok hH (by rfl)) (⟨rfl, Or.inr rfl⟩)
  · have h1 := cn_ne.mp h1
    refine z_rcs hc hH 1 (pc' := 9) (lv' := [(0, .ref 50), (1, .int s)]) (st' := [.ref 50]) (μ' := μ) (by rfl) ?_
    refine zq_call hc (z_cx_ok hH (by rfl)) (bs_X7_anySays (by omega) [.ref 50] μ (aArg_pre ⟨⟨50, by decide, rfl⟩, trivial⟩ rfl) ha) (by decide +kernel) (fun r9 μ9 hq => ?_)
    obtain ⟨-, hz, hr9⟩ := hq
    obtain ⟨v9, rfl, x9, rfl, -⟩ := hr9
    rw [a_Fz_nil hz]
    clear hz μ9
    show Z 0 12 [(0, .ref 50), (1, .int s)] [.int x9] μ
    refine zq_if hc hH (by rfl) (tg := 50) (by rfl) (fun h2 => ?_) (fun h2 => ?_)
    · have h2 := cm_ne.mp h2
      refine z_rcs hc hH 1 (pc' := 51) (lv' := [(0, .ref 50), (1, .int s)]) (st' := [.int 0]) (μ' := μ) (by rfl) ?_
      exact hr 0 51 _ _ _ (some (.int 0)) (by decide +kernel) (z_rx_ok hH (by rfl)) (⟨rfl, Or.inr rfl⟩)
    · have h2 := cn_ne.mp h2
      refine z_rcs hc hH 1 (pc' := 16) (lv' := [(0, .ref 50), (1, .int s)]) (st' := [.ref 50]) (μ' := μ) (by rfl) ?_
      refine zq_call hc (z_cx_ok hH (by rfl)) (fc_X7_left d' (by omega) μ) (by decide +kernel) (fun r9 μ9 hq => ?_)
      obtain ⟨hμ9, rfl⟩ := hq
      rw [hμ9]
      clear hμ9 μ9
      show Z 0 19 [(0, .ref 50), (1, .int s)] [.int ((122 - μ.1 50 47) - μ.1 50 46)] μ
      refine zq_if hc hH (by rfl) (tg := 50) (by rfl) (fun h3 => ?_) (fun h3 => ?_)
      · have h3 := cm_le.mp h3
        refine z_rcs hc hH 1 (pc' := 51) (lv' := [(0, .ref 50), (1, .int s)]) (st' := [.int 0]) (μ' := μ) (by rfl) ?_
        exact hr 0 51 _ _ _ (some (.int 0)) (by decide +kernel) (z_rx_ok hH (by rfl)) (⟨rfl, Or.inr rfl⟩)
      · have h3 := cn_le.mp h3
        refine z_rcs hc hH 1 (pc' := 23) (lv' := [(0, .ref 50), (1, .int s)]) (st' := [.int s]) (μ' := μ) (by rfl) ?_
        refine zq_call hc (z_cx_ok hH (by rfl)) (fc_X7_isSeat d' (by omega) μ s) (by decide +kernel) (fun r9 μ9 hq => ?_)
        obtain ⟨hμ9, hq⟩ := hq
        rw [hμ9]
        clear hμ9 μ9
        obtain ⟨rfl, hk⟩ | ⟨rfl, hk⟩ := hq
        · show Z 0 26 [(0, .ref 50), (1, .int s)] [.int 1] μ
          refine z_rcs hc hH 4 (pc' := 34) (lv' := [(0, .ref 50), (1, .int s)]) (st' := [.int (μ.1 50 45), .int s]) (μ' := μ) (by rfl) ?_
          refine zq_ic hc hH (by rfl) (tg := 50) (by rfl) (fun h4 => ?_) (fun h4 => ?_)
          · have h4 := cm_eq9.mp h4
            refine z_rcs hc hH 1 (pc' := 51) (lv' := [(0, .ref 50), (1, .int s)]) (st' := [.int 0]) (μ' := μ) (by rfl) ?_
            exact hr 0 51 _ _ _ (some (.int 0)) (by decide +kernel) (z_rx_ok hH (by rfl)) (⟨rfl, Or.inr rfl⟩)
          · have h4 := cn_eq.mp h4
            refine z_rcs hc hH 3 (pc' := 42) (lv' := [(0, .ref 50), (1, .int s)]) (st' := [.int s, .ref 67]) (μ' := μ) (by rfl) ?_
            refine zq_iald hc hH (by rfl) 4 (by decide +kernel) (hk) ?_
            refine zq_if hc hH (by rfl) (tg := 50) (by rfl) (fun h5 => ?_) (fun h5 => ?_)
            · have h5 := cm_ne.mp h5
              refine z_rcs hc hH 1 (pc' := 51) (lv' := [(0, .ref 50), (1, .int s)]) (st' := [.int 0]) (μ' := μ) (by rfl) ?_
              exact hr 0 51 _ _ _ (some (.int 0)) (by decide +kernel) (z_rx_ok hH (by rfl)) (⟨rfl, Or.inr rfl⟩)
            · have h5 := cn_ne.mp h5
              refine z_rcs hc hH 2 (pc' := 51) (lv' := [(0, .ref 50), (1, .int s)]) (st' := [.int 1]) (μ' := μ) (by rfl) ?_
              exact hr 0 51 _ _ _ (some (.int 1)) (by decide +kernel) (z_rx_ok hH (by rfl)) (⟨rfl, Or.inl ⟨rfl, h1, h3, hk, h4⟩⟩)
        · show Z 0 26 [(0, .ref 50), (1, .int s)] [.int 0] μ
          refine z_rcs hc hH 2 (pc' := 51) (lv' := [(0, .ref 50), (1, .int s)]) (st' := [.int 0]) (μ' := μ) (by rfl) ?_
          exact hr 0 51 _ _ _ (some (.int 0)) (by decide +kernel) (z_rx_ok hH (by rfl)) (⟨rfl, Or.inr rfl⟩)
theorem zh_X7_mayMake : zH mi_X7_mayMake zt_X7_mayMake 79 7 1 := hh_X7_mayMake
theorem fc_X7_mayMake (d : Nat) (hd : 2 ≤ d) (μ : zM) (ha : a_H μ) : z_C d mi_X7_mayMake [.ref 50] μ (fun r μ' => μ' = μ ∧ ((r = some (.int 1) ∧ μ.1 50 44 = 1 ∧ μ.1 50 57 = 0 ∧ ¬ 122 - μ.1 50 47 - μ.1 50 46 ≤ 0 ∧ ¬ 4 ≤ μ.1 50 47) ∨ r = some (.int 0))) := by
  refine z_C_in (by decide) (by omega) (fun d' Z ed hc hr => ?_)
  have hH := zh_X7_mayMake
  refine z_rcs hc hH 3 (pc' := 5) (lv' := [(0, .ref 50)]) (st' := [.int 1, .int (μ.1 50 44)]) (μ' := μ) (by rfl) ?_
  refine zq_ic hc hH (by rfl) (tg := 46) (by rfl) (fun h1 => ?_) (fun h1 => ?_)
  · have h1 := cm_ne.mp h1
    refine z_rcs hc hH 1 (pc' := 47) (lv' := [(0, .ref 50)]) (st' := [.int 0]) (μ' := μ) (by rfl) ?_
    exact hr 0 47 _ _ _ (some (.int 0)) (by decide +kernel) (z_rx_ok hH (by rfl)) (⟨rfl, Or.inr rfl⟩)
  · have h1 := cn_ne.mp h1
    refine z_rcs hc hH 2 (pc' := 12) (lv' := [(0, .ref 50)]) (st' := [.int (μ.1 50 57)]) (μ' := μ) (by rfl) ?_
    refine zq_if hc hH (by rfl) (tg := 46) (by rfl) (fun h2 => ?_) (fun h2 => ?_)
    · have h2 := cm_ne.mp h2
      refine z_rcs hc hH 1 (pc' := 47) (lv' := [(0, .ref 50)]) (st' := [.int 0]) (μ' := μ) (by rfl) ?_
      exact hr 0 47 _ _ _ (some (.int 0)) (by decide +kernel) (z_rx_ok hH (by rfl)) (⟨rfl, Or.inr rfl⟩)
    · have h2 := cn_ne.mp h2
      refine z_rcs hc hH 4 (pc' := 23) (lv' := [(0, .ref 50)]) (st' := [.int (μ.1 50 45), .ref 67]) (μ' := μ) (by rfl) ?_
      refine zq_iald hc hH (by rfl) 4 (by decide +kernel) (vp_in_bI (ha 50 45) (by decide)) ?_
      refine zq_if hc hH (by rfl) (tg := 46) (by rfl) (fun h3 => ?_) (fun h3 => ?_)
      · have h3 := cm_ne.mp h3
        refine z_rcs hc hH 1 (pc' := 47) (lv' := [(0, .ref 50)]) (st' := [.int 0]) (μ' := μ) (by rfl) ?_
        exact hr 0 47 _ _ _ (some (.int 0)) (by decide +kernel) (z_rx_ok hH (by rfl)) (⟨rfl, Or.inr rfl⟩)
      · have h3 := cn_ne.mp h3
        refine z_rcs hc hH 1 (pc' := 28) (lv' := [(0, .ref 50)]) (st' := [.ref 50]) (μ' := μ) (by rfl) ?_
        refine zq_call hc (z_cx_ok hH (by rfl)) (fc_X7_left d' (by omega) μ) (by decide +kernel) (fun r9 μ9 hq => ?_)
        obtain ⟨hμ9, rfl⟩ := hq
        rw [hμ9]
        clear hμ9 μ9
        show Z 0 31 [(0, .ref 50)] [.int ((122 - μ.1 50 47) - μ.1 50 46)] μ
        refine zq_if hc hH (by rfl) (tg := 46) (by rfl) (fun h4 => ?_) (fun h4 => ?_)
        · have h4 := cm_le.mp h4
          refine z_rcs hc hH 1 (pc' := 47) (lv' := [(0, .ref 50)]) (st' := [.int 0]) (μ' := μ) (by rfl) ?_
          exact hr 0 47 _ _ _ (some (.int 0)) (by decide +kernel) (z_rx_ok hH (by rfl)) (⟨rfl, Or.inr rfl⟩)
        · have h4 := cn_le.mp h4
          refine z_rcs hc hH 3 (pc' := 39) (lv' := [(0, .ref 50)]) (st' := [.int 4, .int (μ.1 50 47)]) (μ' := μ) (by rfl) ?_
          refine zq_ic hc hH (by rfl) (tg := 46) (by rfl) (fun h5 => ?_) (fun h5 => ?_)
          · have h5 := cm_ge.mp h5
            refine z_rcs hc hH 1 (pc' := 47) (lv' := [(0, .ref 50)]) (st' := [.int 0]) (μ' := μ) (by rfl) ?_
            exact hr 0 47 _ _ _ (some (.int 0)) (by decide +kernel) (z_rx_ok hH (by rfl)) (⟨rfl, Or.inr rfl⟩)
          · have h5 := cn_ge.mp h5
            refine z_rcs hc hH 2 (pc' := 47) (lv' := [(0, .ref 50)]) (st' := [.int 1]) (μ' := μ) (by rfl) ?_
            exact hr 0 47 _ _ _ (some (.int 1)) (by decide +kernel) (z_rx_ok hH (by rfl)) (⟨rfl, Or.inl ⟨rfl, h1, h2, h4, h5⟩⟩)
theorem zh_X7_lays : zH mi_X7_lays zt_X7_lays 79 7 4 := hh_X7_lays
def z_lys (μ : zM) (a q : Nat) (so k : Int32) : zM := z_ui (z_ui (z_ui μ 62 (4 * a + q) so) 63 (4 * a + q) k) 64 a (nI (q + 1))
theorem fc_X7_lays (d : Nat) (hd : 1 ≤ d) (μ : zM) (a q : Nat) (so k : Int32) (ha : a < 4) (hq : q < 4) (e : μ.1 64 a = nI q) : z_C d mi_X7_lays [.ref 50, .int (nI a), .int so, .int k] μ (fun r μ' => r = none ∧ μ' = z_lys μ a q so k) := by
  refine z_C_in (by decide) (by omega) (fun d' Z ed hc hr => ?_)
  have hH := zh_X7_lays
  refine z_rcs hc hH 8 (pc' := 12) (lv' := [(0, .ref 50), (1, .int (nI a)), (2, .int so), (3, .int k)]) (st' := [.int (nI a), .ref 64, .int (4 * (nI a)), .ref 62]) (μ' := μ) (by rfl) ?_
  refine zq_iald hc hH (by rfl) 4 (by decide +kernel) (vp_in_nI (by omega) (by decide)) ?_
  rw [nI_clamp (n := a) (by omega)]
  rw [show (μ).1 64 a = nI q from e]
  refine z_rcs hc hH 1 (pc' := 14) (lv' := [(0, .ref 50), (1, .int (nI a)), (2, .int so), (3, .int k)]) (st' := [.int ((4 * (nI a)) + (nI q)), .ref 62]) (μ' := μ) (by rfl) ?_
  rw [nI_4q]
  refine z_rcs hc hH 1 (pc' := 15) (lv' := [(0, .ref 50), (1, .int (nI a)), (2, .int so), (3, .int k)]) (st' := [.int so, .int (nI (4 * a + q)), .ref 62]) (μ' := μ) (by rfl) ?_
  refine zq_iast hc hH (by rfl) 16 (by decide +kernel) (vp_in_nI (by omega) (by decide)) ?_
  refine z_rcs hc hH 8 (pc' := 28) (lv' := [(0, .ref 50), (1, .int (nI a)), (2, .int so), (3, .int k)]) (st' := [.int (nI a), .ref 64, .int (4 * (nI a)), .ref 63]) (μ' := z_ui μ 62 ((nI (4 * a + q)).toNatClampNeg) so) (by rfl) ?_
  refine zq_iald hc hH (by rfl) 4 (by decide +kernel) (vp_in_nI (by omega) (by decide)) ?_
  rw [nI_clamp (n := a) (by omega)]
  rw [show (z_ui μ 62 ((nI (4 * a + q)).toNatClampNeg) so).1 64 a = nI q from e]
  refine z_rcs hc hH 1 (pc' := 30) (lv' := [(0, .ref 50), (1, .int (nI a)), (2, .int so), (3, .int k)]) (st' := [.int ((4 * (nI a)) + (nI q)), .ref 63]) (μ' := z_ui μ 62 ((nI (4 * a + q)).toNatClampNeg) so) (by rfl) ?_
  rw [nI_4q]
  refine z_rcs hc hH 1 (pc' := 31) (lv' := [(0, .ref 50), (1, .int (nI a)), (2, .int so), (3, .int k)]) (st' := [.int k, .int (nI (4 * a + q)), .ref 63]) (μ' := z_ui μ 62 ((nI (4 * a + q)).toNatClampNeg) so) (by rfl) ?_
  refine zq_iast hc hH (by rfl) 16 (by decide +kernel) (vp_in_nI (by omega) (by decide)) ?_
  refine z_rcs hc hH 4 (pc' := 38) (lv' := [(0, .ref 50), (1, .int (nI a)), (2, .int so), (3, .int k)]) (st' := [.int (nI a), .ref 64, .int (nI a), .ref 64]) (μ' := z_ui (z_ui μ 62 ((nI (4 * a + q)).toNatClampNeg) so) 63 ((nI (4 * a + q)).toNatClampNeg) k) (by rfl) ?_
  refine zq_iald hc hH (by rfl) 4 (by decide +kernel) (vp_in_nI (by omega) (by decide)) ?_
  rw [nI_clamp (n := a) (by omega)]
  rw [show (z_ui (z_ui μ 62 ((nI (4 * a + q)).toNatClampNeg) so) 63 ((nI (4 * a + q)).toNatClampNeg) k).1 64 a = nI q from e]
  refine z_rcs hc hH 2 (pc' := 41) (lv' := [(0, .ref 50), (1, .int (nI a)), (2, .int so), (3, .int k)]) (st' := [.int ((nI q) + 1), .int (nI a), .ref 64]) (μ' := z_ui (z_ui μ 62 ((nI (4 * a + q)).toNatClampNeg) so) 63 ((nI (4 * a + q)).toNatClampNeg) k) (by rfl) ?_
  refine zq_iast hc hH (by rfl) 4 (by decide +kernel) (vp_in_nI (by omega) (by decide)) ?_
  exact hr 0 42 _ _ _ none (by decide +kernel) (by rfl) (⟨rfl, by rw [nI_clamp (n := 4 * a + q) (by omega), nI_clamp (n := a) (by omega), nI_1]; rfl⟩)
theorem zh_X7_claims : zH mi_X7_claims zt_X7_claims 79 7 4 := hh_X7_claims
abbrev md_claims : List (Nat × Nat) := [(50, 44), (50, 45), (50, 49), (50, 56), (50, 57), (50, 58), (62, 9999), (63, 9999), (64, 9999), (69, 9999)]
theorem fc_X7_claims (d : Nat) (hd : 700 ≤ d) (μ : zM) (a q : Nat) (so k : Int32) (ha : a < 4) (hq4 : q < 4) (e : μ.1 64 a = nI q) (hH0 : a_H μ) : z_C d mi_X7_claims [.ref 50, .int (nI a), .int so, .int k] μ (fun r μ' => r = none ∧ a_H μ' ∧ a_Fz md_claims μ μ' ∧ μ'.1 50 44 = 1 ∧ μ'.1 50 45 = nI a ∧ μ'.1 50 49 = -1 ∧ μ'.1 50 57 = 1 ∧ ∀ i, μ'.1 64 i = if i = a then nI (q + 1) else μ.1 64 i) := by
  refine z_C_in (by decide) (by omega) (fun d' Z ed hc hr => ?_)
  have hH := zh_X7_claims
  refine z_rcs hc hH 4 (pc' := 4) (lv' := [(0, .ref 50), (1, .int (nI a)), (2, .int so), (3, .int k)]) (st' := [.int k, .int so, .int (nI a), .ref 50]) (μ' := μ) (by rfl) ?_
  refine zq_call hc (z_cx_ok hH (by rfl)) (fc_X7_lays d' (by omega) μ a q so k ha hq4 e) (by decide +kernel) (fun r9 μ9 hq => ?_)
  obtain ⟨rfl, rfl⟩ := hq
  have hH1 : a_H (z_lys μ a q so k) := a_H_ui (a_H_ui (a_H_ui hH0 (bI_top _)) (bI_top _)) (show bI 0 4 _ from bd_nI (by omega) ⟨by omega, by omega⟩)
  show Z 0 7 [(0, .ref 50), (1, .int (nI a)), (2, .int so), (3, .int k)] [] (z_lys μ a q so k)
  refine z_rcs hc hH 1 (pc' := 8) (lv' := [(0, .ref 50), (1, .int (nI a)), (2, .int so), (3, .int k)]) (st' := [.ref 50]) (μ' := z_lys μ a q so k) (by rfl) ?_
  refine zq_call hc (z_cx_ok hH (by rfl)) (a_use (i := 123) (K := ak_123) rfl (by omega) [.ref 50] _ (aArg_pre ⟨⟨50, by decide, rfl⟩, trivial⟩ rfl) hH1) (by decide +kernel) (fun r9 μ9 hq => ?_)
  obtain ⟨hH2, hz, rfl⟩ := hq
  show Z 0 11 [(0, .ref 50), (1, .int (nI a)), (2, .int so), (3, .int k)] [] μ9
  refine z_rcs hc hH 15 (pc' := 36) (lv' := [(0, .ref 50), (1, .int (nI a)), (2, .int so), (3, .int k)]) (st' := []) (μ' := z_ui (z_ui (z_ui (z_ui (z_ui μ9 50 45 (nI a)) 50 44 1) 50 49 (-1)) 50 57 1) 50 58 0) (by rfl) ?_
  refine hr 0 36 _ _ _ none (by decide +kernel) (by rfl) (⟨rfl, (a_H_ui (a_H_ui (a_H_ui (a_H_ui (a_H_ui hH2 (show bI 0 3 _ from bd_nI (by omega) ⟨by omega, by omega⟩)) (⟨by decide, by decide⟩)) (⟨by decide, by decide⟩)) (⟨by decide, by decide⟩)) (⟨by decide, by decide⟩)), (a_Fz_ui (a_Fz_ui (a_Fz_ui (a_Fz_ui (a_Fz_ui (a_Fz_tr (m1 := ak_123.2.2.2.1) (by decide) (a_Fz_ui (a_Fz_ui (a_Fz_ui (a_Fz_rf _ _) (a_mda_md (by decide) _)) (a_mda_md (by decide) _)) (a_mda_md (by decide) _)) hz) (by decide)) (by decide)) (by decide)) (by decide)) (by decide)), rfl, rfl, rfl, rfl, fun i => ?_⟩)
  show μ9.1 64 i = _
  rw [a_Fz_at hz 64 i (a_md_row (by decide))]
  unfold z_lys
  rw [z_ui_rd, z_ui_rd, if_neg (c := 64 = 63 ∧ _) (by omega), z_ui_rd, if_neg (c := 64 = 62 ∧ _) (by omega)]
  by_cases ei : i = a
  · rw [if_pos ⟨rfl, ei⟩, if_pos ei]
  · rw [if_neg (fun z => ei z.2), if_neg ei]

/-! exact contracts: set -/
theorem gt_nI {i n : Nat} (h : i ≤ n) (hn : n < 2 ^ 31) : z_cmp .gt (nI i) (nI n) = false := cn_gt.mpr (Int32.not_lt.mpr (nI_le h hn))
theorem gt_nIt {i n : Nat} (h : n < i) (hi : i < 2 ^ 31) : z_cmp .gt (nI i) (nI n) = true := cm_gt.mpr (nI_lt h hi)
theorem sr68 {y : Int32} : (6 : Int32) < y ↔ (7 : Int32) ≤ y := by
  rw [Int32.lt_iff_toInt_lt, Int32.le_iff_toInt_le, show (6 : Int32).toInt = 6 from rfl, show (7 : Int32).toInt = 7 from rfl]
  omega
def se (s : Int32) : Int32 := if s = 0 then 1 else if s = 1 then 3 else 4
def zl (s : Int32) : Nat := if s = 0 then 2 else 0
theorem se_0 {s : Int32} (h : s = 0) : se s = 1 := by unfold se; rw [if_pos h]
theorem se_1 {s : Int32} (h : ¬ s = 0) (h1 : s = 1) : se s = 3 := by unfold se; rw [if_neg h, if_pos h1]
theorem se_2 {s : Int32} (h : ¬ s = 0) (h1 : ¬ s = 1) : se s = 4 := by unfold se; rw [if_neg h, if_neg h1]
theorem zl_0 {s : Int32} (h : s = 0) : zl s = 2 := by unfold zl; rw [if_pos h]
theorem zl_1 {s : Int32} (h : ¬ s = 0) : zl s = 0 := by unfold zl; rw [if_neg h]
theorem zl_3 {s : Int32} (h : s = 0) : (3 : Int32) = nI (zl s + 1) := by rw [zl_0 h]; rfl
theorem zl_l {s : Int32} (h : ¬ s = 0) : (1 : Int32) = nI (zl s + 1) := by rw [zl_1 h]; rfl
theorem zl_a {s : Int32} {a : Nat} (h : s = 0) : nI a + 2 = nI (a + zl s) := by rw [zl_0 h]; exact nI_add a 2
theorem zl_b {s : Int32} {a : Nat} (h : ¬ s = 0) : nI a = nI (a + zl s) := by rw [zl_1 h]; rfl
theorem zl_ok {s : Int32} {a : Nat} (ha : a < 34) (h : s = 0 → sr (nI a)) : a + zl s ≤ 33 := by
  by_cases h0 : s = 0
  · have b := sr_b (h h0)
    have t := nI_toInt (n := a) (by omega)
    rw [zl_0 h0]
    have := b.2
    omega
  · rw [zl_1 h0]; omega
theorem nI_ms (x e : Int32) (i : Nat) : x - nI i * e - e = x - nI (i + 1) * e := by
  rw [← nI_1, Int32.add_mul, Int32.one_mul, Int32.sub_eq_add_neg, Int32.sub_eq_add_neg, Int32.sub_eq_add_neg, Int32.neg_add, Int32.add_assoc, Int32.sub_eq_add_neg]
theorem nI_ma (x e : Int32) (i : Nat) : x + nI i * e + e = x + nI (i + 1) * e := by
  rw [← nI_1, Int32.add_mul, Int32.one_mul, Int32.add_assoc]
theorem zh_X6_startsRun : zH mi_X6_startsRun zt_X6_startsRun 79 6 1 := hh_X6_startsRun
theorem fc_X6_startsRun (d : Nat) (hd : 1 ≤ d) (μ : zM) (k : Int32) : z_C d mi_X6_startsRun [.int k] μ (zB μ (sr k)) := by
  refine z_C_in (by decide) (by omega) (fun d' Z ed hc hr => ?_)
  have hH := zh_X6_startsRun
  refine z_rcs hc hH 1 (pc' := 1) (lv' := [(0, .int k)]) (st' := [.int k]) (μ' := μ) (by rfl) ?_
  refine zq_if hc hH (by rfl) (tg := 23) (by rfl) (fun h1 => ?_) (fun h1 => ?_)
  · have h1 := cm_lt.mp h1
    refine z_rcs hc hH 1 (pc' := 24) (lv' := [(0, .int k)]) (st' := [.int 0]) (μ' := μ) (by rfl) ?_
    exact hr 0 24 _ _ _ (some (.int 0)) (by decide +kernel) (z_rx_ok hH (by rfl)) (⟨rfl, Or.inr ⟨rfl, fun q => q.1 h1⟩⟩)
  · have h1 := cn_lt.mp h1
    refine z_rcs hc hH 2 (pc' := 7) (lv' := [(0, .int k)]) (st' := [.int 27, .int k]) (μ' := μ) (by rfl) ?_
    refine zq_ic hc hH (by rfl) (tg := 23) (by rfl) (fun h2 => ?_) (fun h2 => ?_)
    · have h2 := cm_ge.mp h2
      refine z_rcs hc hH 1 (pc' := 24) (lv' := [(0, .int k)]) (st' := [.int 0]) (μ' := μ) (by rfl) ?_
      exact hr 0 24 _ _ _ (some (.int 0)) (by decide +kernel) (z_rx_ok hH (by rfl)) (⟨rfl, Or.inr ⟨rfl, fun q => q.2.1 h2⟩⟩)
    · have h2 := cn_ge.mp h2
      refine z_rcs hc hH 4 (pc' := 16) (lv' := [(0, .int k)]) (st' := [.int 6, .int (k - k / 9 * 9)]) (μ' := μ) (by rfl) ?_
      refine zq_ic hc hH (by rfl) (tg := 23) (by rfl) (fun h3 => ?_) (fun h3 => ?_)
      · have h3 := cm_gt.mp h3
        refine z_rcs hc hH 1 (pc' := 24) (lv' := [(0, .int k)]) (st' := [.int 0]) (μ' := μ) (by rfl) ?_
        exact hr 0 24 _ _ _ (some (.int 0)) (by decide +kernel) (z_rx_ok hH (by rfl)) (⟨rfl, Or.inr ⟨rfl, fun q => q.2.2 (sr68.mp h3)⟩⟩)
      · have h3 := cn_gt.mp h3
        refine z_rcs hc hH 2 (pc' := 24) (lv' := [(0, .int k)]) (st' := [.int 1]) (μ' := μ) (by rfl) ?_
        exact hr 0 24 _ _ _ (some (.int 1)) (by decide +kernel) (z_rx_ok hH (by rfl)) (⟨rfl, Or.inl ⟨rfl, h1, h2, fun q => h3 (sr68.mpr q)⟩⟩)
theorem zh_X7_isRun : zH mi_X7_isRun zt_X7_isRun 79 7 1 := hh_X7_isRun
theorem fc_X7_isRun (d : Nat) (hd : 1 ≤ d) (μ : zM) (k : Int32) : z_C d mi_X7_isRun [.int k] μ (zB μ (sr k)) := by
  refine z_C_in (by decide) (by omega) (fun d' Z ed hc hr => ?_)
  have hH := zh_X7_isRun
  refine z_rcs hc hH 1 (pc' := 1) (lv' := [(0, .int k)]) (st' := [.int k]) (μ' := μ) (by rfl) ?_
  refine zq_if hc hH (by rfl) (tg := 23) (by rfl) (fun h1 => ?_) (fun h1 => ?_)
  · have h1 := cm_lt.mp h1
    refine z_rcs hc hH 1 (pc' := 24) (lv' := [(0, .int k)]) (st' := [.int 0]) (μ' := μ) (by rfl) ?_
    exact hr 0 24 _ _ _ (some (.int 0)) (by decide +kernel) (z_rx_ok hH (by rfl)) (⟨rfl, Or.inr ⟨rfl, fun q => q.1 h1⟩⟩)
  · have h1 := cn_lt.mp h1
    refine z_rcs hc hH 2 (pc' := 7) (lv' := [(0, .int k)]) (st' := [.int 27, .int k]) (μ' := μ) (by rfl) ?_
    refine zq_ic hc hH (by rfl) (tg := 23) (by rfl) (fun h2 => ?_) (fun h2 => ?_)
    · have h2 := cm_ge.mp h2
      refine z_rcs hc hH 1 (pc' := 24) (lv' := [(0, .int k)]) (st' := [.int 0]) (μ' := μ) (by rfl) ?_
      exact hr 0 24 _ _ _ (some (.int 0)) (by decide +kernel) (z_rx_ok hH (by rfl)) (⟨rfl, Or.inr ⟨rfl, fun q => q.2.1 h2⟩⟩)
    · have h2 := cn_ge.mp h2
      refine z_rcs hc hH 4 (pc' := 16) (lv' := [(0, .int k)]) (st' := [.int 7, .int (k - k / 9 * 9)]) (μ' := μ) (by rfl) ?_
      refine zq_ic hc hH (by rfl) (tg := 23) (by rfl) (fun h3 => ?_) (fun h3 => ?_)
      · have h3 := cm_ge.mp h3
        refine z_rcs hc hH 1 (pc' := 24) (lv' := [(0, .int k)]) (st' := [.int 0]) (μ' := μ) (by rfl) ?_
        exact hr 0 24 _ _ _ (some (.int 0)) (by decide +kernel) (z_rx_ok hH (by rfl)) (⟨rfl, Or.inr ⟨rfl, fun q => q.2.2 h3⟩⟩)
      · have h3 := cn_ge.mp h3
        refine z_rcs hc hH 2 (pc' := 24) (lv' := [(0, .int k)]) (st' := [.int 1]) (μ' := μ) (by rfl) ?_
        exact hr 0 24 _ _ _ (some (.int 1)) (by decide +kernel) (z_rx_ok hH (by rfl)) (⟨rfl, Or.inl ⟨rfl, h1, h2, h3⟩⟩)
theorem zh_X6_tilesOfEach : zH mi_X6_tilesOfEach zt_X6_tilesOfEach 79 6 1 := hh_X6_tilesOfEach
theorem fc_X6_tilesOfEach (d : Nat) (hd : 1 ≤ d) (μ : zM) (s : Int32) : z_C d mi_X6_tilesOfEach [.int s] μ (zR μ (.int (se s))) := by
  refine z_C_in (by decide) (by omega) (fun d' Z ed hc hr => ?_)
  have hH := zh_X6_tilesOfEach
  refine z_rcs hc hH 1 (pc' := 1) (lv' := [(0, .int s)]) (st' := [.int s]) (μ' := μ) (by rfl) ?_
  refine zq_if hc hH (by rfl) (tg := 6) (by rfl) (fun h1 => ?_) (fun h1 => ?_)
  · have h1 := cm_ne.mp h1
    refine z_rcs hc hH 2 (pc' := 8) (lv' := [(0, .int s)]) (st' := [.int 1, .int s]) (μ' := μ) (by rfl) ?_
    refine zq_ic hc hH (by rfl) (tg := 15) (by rfl) (fun h2 => ?_) (fun h2 => ?_)
    · have h2 := cm_ne.mp h2
      refine z_rcs hc hH 1 (pc' := 16) (lv' := [(0, .int s)]) (st' := [.int 4]) (μ' := μ) (by rfl) ?_
      exact hr 0 16 _ _ _ (some (.int 4)) (by decide +kernel) (z_rx_ok hH (by rfl)) (⟨rfl, by rw [se_2 h1 h2]⟩)
    · have h2 := cn_ne.mp h2
      refine z_rcs hc hH 2 (pc' := 16) (lv' := [(0, .int s)]) (st' := [.int 3]) (μ' := μ) (by rfl) ?_
      exact hr 0 16 _ _ _ (some (.int 3)) (by decide +kernel) (z_rx_ok hH (by rfl)) (⟨rfl, by rw [se_1 h1 h2]⟩)
  · have h1 := cn_ne.mp h1
    refine z_rcs hc hH 1 (pc' := 5) (lv' := [(0, .int s)]) (st' := [.int 1]) (μ' := μ) (by rfl) ?_
    exact hr 0 5 _ _ _ (some (.int 1)) (by decide +kernel) (z_rx_ok hH (by rfl)) (⟨rfl, by rw [se_0 h1]⟩)
def zLl (μ : zM) (e : Int32) (a i : Nat) (μ' : zM) : Prop := (∀ k, μ'.1 10 k = if a ≤ k ∧ k < a + i then μ.1 10 k - e else μ.1 10 k) ∧ μ'.1 9 5 = μ.1 9 5 - nI i * e ∧ (∀ r k, r ≠ 10 → ¬ (r = 9 ∧ k = 5) → μ'.1 r k = μ.1 r k) ∧ μ'.2 = μ.2
theorem zLl.nx {μ μ' : zM} {e : Int32} {a i : Nat} (h : zLl μ e a i μ') : zLl μ e a (i + 1) (z_ui (z_ui μ' 10 (a + i) (μ'.1 10 (a + i) - e)) 9 5 (μ'.1 9 5 - e)) := by
  obtain ⟨h1, h2, h3, h4⟩ := h
  refine ⟨fun k => ?_, ?_, fun r k r1 r2 => ?_, h4⟩
  · rw [z_ui_rd, if_neg (by omega), z_ui_rd]
    by_cases hk : k = a + i
    · rw [if_pos ⟨rfl, hk⟩, h1, if_neg (by omega), if_pos (by omega), hk]
    · rw [if_neg (by omega), h1]
      by_cases hr : a ≤ k ∧ k < a + i
      · rw [if_pos hr, if_pos (by omega)]
      · rw [if_neg hr, if_neg (by omega)]
  · rw [z_ui_rd, if_pos ⟨rfl, rfl⟩, h2, nI_ms]
  · rw [z_ui_rd, if_neg r2, z_ui_rd, if_neg (fun q => r1 q.1)]
    exact h3 r k r1 r2
def zLD (μ : zM) (s : Int32) (a q : Nat) (μ' : zM) : Prop := (∀ k, μ'.1 10 k = if a ≤ k ∧ k < a + (zl s + 1) then μ.1 10 k - se s else μ.1 10 k) ∧ μ'.1 9 5 = μ.1 9 5 - nI (zl s + 1) * se s ∧ μ'.1 9 4 = nI (q + 1) ∧ (∀ i, μ'.1 12 i = if i = q then s else μ.1 12 i) ∧ (∀ i, μ'.1 13 i = if i = q then nI a else μ.1 13 i) ∧ (∀ r k, r ≠ 10 → r ≠ 12 → r ≠ 13 → ¬ (r = 9 ∧ (k = 4 ∨ k = 5)) → μ'.1 r k = μ.1 r k) ∧ μ'.2 = μ.2
theorem zLl.fin {μ μ' : zM} {s : Int32} {a q : Nat} (h : zLl μ (se s) a (zl s + 1) μ') (hq : q ≤ 3) (e : μ.1 9 4 = nI q) : zLD μ s a q (z_ui (z_ui (z_ui μ' 12 (μ'.1 9 4).toNatClampNeg s) 13 (μ'.1 9 4).toNatClampNeg (nI a)) 9 4 (μ'.1 9 4 + 1)) := by
  obtain ⟨h1, h2, h3, h4⟩ := h
  have e1 : μ'.1 9 4 = nI q := by rw [h3 9 4 (by decide) (by decide), e]
  rw [e1, nI_clamp (by omega), nI_1]
  refine ⟨fun k => ?_, ?_, ?_, fun i => ?_, fun i => ?_, fun r k r1 r2 r3 r4 => ?_, h4⟩
  · rw [z_ui_rd, if_neg (by omega), z_ui_rd, if_neg (by omega), z_ui_rd, if_neg (by omega), h1]
  · rw [z_ui_rd, if_neg (by omega), z_ui_rd, if_neg (by omega), z_ui_rd, if_neg (by omega), h2]
  · rw [z_ui_rd, if_pos ⟨rfl, rfl⟩]
  · rw [z_ui_rd, if_neg (by omega), z_ui_rd, if_neg (by omega), z_ui_rd, h3 12 i (by decide) (by omega)]
    by_cases hi : i = q
    · rw [if_pos ⟨rfl, hi⟩, if_pos hi]
    · rw [if_neg (fun z => hi z.2), if_neg hi]
  · rw [z_ui_rd, if_neg (by omega), z_ui_rd]
    by_cases hi : i = q
    · rw [if_pos ⟨rfl, hi⟩, if_pos hi]
    · rw [if_neg (fun z => hi z.2), if_neg hi, z_ui_rd, if_neg (by omega), h3 13 i (by decide) (by omega)]
  · rw [z_ui_rd, if_neg (fun z => r4 ⟨z.1, Or.inl z.2⟩), z_ui_rd, if_neg (fun z => r3 z.1), z_ui_rd, if_neg (fun z => r2 z.1)]
    exact h3 r k r1 (fun z => r4 ⟨z.1, Or.inr z.2⟩)
theorem zh_X3_layDown : zH mi_X3_layDown zt_X3_layDown 79 3 6 := hh_X3_layDown
theorem fc_X3_layDown (d : Nat) (hd : 2 ≤ d) (μ : zM) (s : Int32) (a q : Nat) (ham : a + zl s ≤ 33) (hq3 : q ≤ 3) (e4 : μ.1 9 4 = nI q) : z_C d mi_X3_layDown [.ref 9, .int s, .int (nI a)] μ (fun r μ' => r = none ∧ zLD μ s a q μ') := by
  refine z_C_in (by decide) (by omega) (fun d' Z ed hc hr => ?_)
  have hH := zh_X3_layDown
  have lp : ∀ (n i : Nat), i + n = zl s + 1 → ∀ μ1, zLl μ (se s) a i μ1 → Z 0 51 [(5, .int (nI (a + i))), (4, .int (se s)), (3, .int (nI (a + zl s))), (0, .ref 9), (1, .int s), (2, .int (nI a))] [] μ1 := by
    intro n
    induction n with
    | zero =>
      intro i hi μ1 h1
      have hi : i = zl s + 1 := by omega
      subst hi
      have hin : vp_in (μ1.1 9 4) 4 := by rw [h1.2.2.1 9 4 (by decide) (by decide), e4]; exact vp_in_nI (by omega) (by decide)
      refine z_rcs hc hH 2 (pc' := 54) (lv' := [(5, .int (nI (a + (zl s + 1)))), (4, .int (se s)), (3, .int (nI (a + zl s))), (0, .ref 9), (1, .int s), (2, .int (nI a))]) (st' := [.int (nI (a + zl s)), .int (nI (a + (zl s + 1)))]) (μ' := μ1) (by rfl) ?_
      refine zq_ic hc hH (by rfl) (tg := 86) (by rfl) (fun _ => ?_) (fun h9 => (zb_t (gt_nIt (by omega) (by omega)) h9).elim)
      refine z_rcs hc hH 5 (pc' := 95) (lv' := [(5, .int (nI (a + (zl s + 1)))), (4, .int (se s)), (3, .int (nI (a + zl s))), (0, .ref 9), (1, .int s), (2, .int (nI a))]) (st' := [.int s, .int (μ1.1 9 4), .ref 12]) (μ' := μ1) (by rfl) ?_
      refine zq_iast hc hH (by rfl) 4 (by decide +kernel) (hin) ?_
      refine z_rcs hc hH 5 (pc' := 105) (lv' := [(5, .int (nI (a + (zl s + 1)))), (4, .int (se s)), (3, .int (nI (a + zl s))), (0, .ref 9), (1, .int s), (2, .int (nI a))]) (st' := [.int (nI a), .int (μ1.1 9 4), .ref 13]) (μ' := z_ui μ1 12 ((μ1.1 9 4).toNatClampNeg) s) (by rfl) ?_
      refine zq_iast hc hH (by rfl) 4 (by decide +kernel) (hin) ?_
      refine z_rcs hc hH 6 (pc' := 116) (lv' := [(5, .int (nI (a + (zl s + 1)))), (4, .int (se s)), (3, .int (nI (a + zl s))), (0, .ref 9), (1, .int s), (2, .int (nI a))]) (st' := []) (μ' := z_ui (z_ui (z_ui μ1 12 ((μ1.1 9 4).toNatClampNeg) s) 13 ((μ1.1 9 4).toNatClampNeg) (nI a)) 9 4 ((μ1.1 9 4) + 1)) (by rfl) ?_
      exact hr 0 116 _ _ _ none (by decide +kernel) (by rfl) (⟨rfl, h1.fin hq3 e4⟩)
    | succ n ih =>
      intro i hi μ1 h1
      have hin : vp_in (nI (a + i)) 34 := vp_in_nI (by omega) (by decide)
      refine z_rcs hc hH 2 (pc' := 54) (lv' := [(5, .int (nI (a + i))), (4, .int (se s)), (3, .int (nI (a + zl s))), (0, .ref 9), (1, .int s), (2, .int (nI a))]) (st' := [.int (nI (a + zl s)), .int (nI (a + i))]) (μ' := μ1) (by rfl) ?_
      refine zq_ic hc hH (by rfl) (tg := 86) (by rfl) (fun h9 => (zb_t h9 (gt_nI (by omega) (by omega))).elim) (fun _ => ?_)
      refine z_rcs hc hH 4 (pc' := 64) (lv' := [(5, .int (nI (a + i))), (4, .int (se s)), (3, .int (nI (a + zl s))), (0, .ref 9), (1, .int s), (2, .int (nI a))]) (st' := [.int (nI (a + i)), .ref 10, .int (nI (a + i)), .ref 10]) (μ' := μ1) (by rfl) ?_
      refine zq_iald hc hH (by rfl) 34 (by decide +kernel) (hin) ?_
      refine z_rcs hc hH 2 (pc' := 68) (lv' := [(5, .int (nI (a + i))), (4, .int (se s)), (3, .int (nI (a + zl s))), (0, .ref 9), (1, .int s), (2, .int (nI a))]) (st' := [.int ((μ1.1 10 (nI (a + i)).toNatClampNeg) - (se s)), .int (nI (a + i)), .ref 10]) (μ' := μ1) (by rfl) ?_
      refine zq_iast hc hH (by rfl) 34 (by decide +kernel) (hin) ?_
      refine z_rcs hc hH 8 (pc' := 51) (lv' := [(5, .int ((nI (a + i)) + 1)), (4, .int (se s)), (3, .int (nI (a + zl s))), (0, .ref 9), (1, .int s), (2, .int (nI a))]) (st' := []) (μ' := z_ui (z_ui μ1 10 ((nI (a + i)).toNatClampNeg) ((μ1.1 10 (nI (a + i)).toNatClampNeg) - (se s))) 9 5 ((μ1.1 9 5) - (se s))) (by rfl) ?_
      have q := ih (i + 1) (by omega) _ h1.nx
      rw [nI_clamp (by omega), nI_1]
      exact q
  have mid : Z 0 12 [(3, .int (nI (a + zl s))), (0, .ref 9), (1, .int s), (2, .int (nI a))] [] μ := by
    refine z_rcs hc hH 2 (pc' := 16) (lv' := [(3, .int (nI (a + zl s))), (0, .ref 9), (1, .int s), (2, .int (nI a))]) (st' := [.int (μ.1 9 4)]) (μ' := μ) (by rfl) ?_
    refine zq_if hc hH (by rfl) (tg := 41) (by rfl) (fun h9 => (zb_t h9 (by rw [e4]; exact cn_lt.mpr (Int32.not_lt.mpr (nI_le (a := 0) (Nat.zero_le _) (by omega))))).elim) (fun _ => ?_)
    refine z_rcs hc hH 3 (pc' := 24) (lv' := [(3, .int (nI (a + zl s))), (0, .ref 9), (1, .int s), (2, .int (nI a))]) (st' := [.int 4, .int (μ.1 9 4)]) (μ' := μ) (by rfl) ?_
    refine zq_ic hc hH (by rfl) (tg := 41) (by rfl) (fun h9 => (zb_t h9 (by rw [e4]; exact ge_nI (n := 4) (by omega) (by decide))).elim) (fun _ => ?_)
    refine z_rcs hc hH 1 (pc' := 28) (lv' := [(3, .int (nI (a + zl s))), (0, .ref 9), (1, .int s), (2, .int (nI a))]) (st' := [.int (nI a)]) (μ' := μ) (by rfl) ?_
    refine zq_call hc (z_cx_ok hH (by rfl)) (fc_X6_isKind d' (by omega) μ _) (by decide +kernel) (fun r9 μ9 hq => ?_)
    obtain ⟨hμ9, hq⟩ := hq
    rw [hμ9]
    clear hμ9 μ9
    obtain ⟨rfl, -⟩ := hq.resolve_right (fun q9 => q9.2 (vp_in_nI (by omega) (by decide)))
    show Z 0 31 [(3, .int (nI (a + zl s))), (0, .ref 9), (1, .int s), (2, .int (nI a))] [.int 1] μ
    refine z_rcs hc hH 2 (pc' := 35) (lv' := [(3, .int (nI (a + zl s))), (0, .ref 9), (1, .int s), (2, .int (nI a))]) (st' := [.int (nI (a + zl s))]) (μ' := μ) (by rfl) ?_
    refine zq_call hc (z_cx_ok hH (by rfl)) (fc_X6_isKind d' (by omega) μ _) (by decide +kernel) (fun r9 μ9 hq => ?_)
    obtain ⟨hμ9, hq⟩ := hq
    rw [hμ9]
    clear hμ9 μ9
    obtain ⟨rfl, -⟩ := hq.resolve_right (fun q9 => q9.2 (vp_in_nI (by omega) (by decide)))
    show Z 0 38 [(3, .int (nI (a + zl s))), (0, .ref 9), (1, .int s), (2, .int (nI a))] [.int 1] μ
    refine z_rcs hc hH 2 (pc' := 43) (lv' := [(3, .int (nI (a + zl s))), (0, .ref 9), (1, .int s), (2, .int (nI a))]) (st' := [.int s]) (μ' := μ) (by rfl) ?_
    refine zq_call hc (z_cx_ok hH (by rfl)) (fc_X6_tilesOfEach d' (by omega) μ s) (by decide +kernel) (fun r9 μ9 hq => ?_)
    obtain ⟨hμ9, rfl⟩ := hq
    rw [hμ9]
    clear hμ9 μ9
    show Z 0 46 [(3, .int (nI (a + zl s))), (0, .ref 9), (1, .int s), (2, .int (nI a))] [.int (se s)] μ
    refine z_rcs hc hH 3 (pc' := 51) (lv' := [(5, .int (nI a)), (4, .int (se s)), (3, .int (nI (a + zl s))), (0, .ref 9), (1, .int s), (2, .int (nI a))]) (st' := []) (μ' := μ) (by rfl) ?_
    exact lp (zl s + 1) 0 (by omega) μ ⟨fun k => by rw [if_neg (by omega)], by rw [nI_0, Int32.zero_mul, Int32.sub_zero], fun _ _ _ _ => rfl, rfl⟩
  refine z_rcs hc hH 1 (pc' := 1) (lv' := [(0, .ref 9), (1, .int s), (2, .int (nI a))]) (st' := [.int s]) (μ' := μ) (by rfl) ?_
  refine zq_if hc hH (by rfl) (tg := 10) (by rfl) (fun h1 => ?_) (fun h1 => ?_)
  · have h1 := cm_ne.mp h1
    refine z_rcs hc hH 2 (pc' := 12) (lv' := [(3, .int (nI a)), (0, .ref 9), (1, .int s), (2, .int (nI a))]) (st' := []) (μ' := μ) (by rfl) ?_
    have mid := mid
    rw [← zl_b h1] at mid
    exact mid
  · have h1 := cn_ne.mp h1
    refine z_rcs hc hH 5 (pc' := 12) (lv' := [(3, .int ((nI a) + 2)), (0, .ref 9), (1, .int s), (2, .int (nI a))]) (st' := []) (μ' := μ) (by rfl) ?_
    have mid := mid
    rw [← zl_a h1] at mid
    exact mid
def zPl (μ : zM) (e : Int32) (a i : Nat) (μ' : zM) : Prop := (∀ k, μ'.1 10 k = if a ≤ k ∧ k < a + i then μ.1 10 k + e else μ.1 10 k) ∧ (∀ k, μ'.1 11 k = if a ≤ k ∧ k < a + i then μ.1 11 k + e else μ.1 11 k) ∧ μ'.1 9 5 = μ.1 9 5 + nI i * e ∧ (∀ r k, r ≠ 10 → r ≠ 11 → ¬ (r = 9 ∧ k = 5) → μ'.1 r k = μ.1 r k) ∧ μ'.2 = μ.2
theorem zPl.nx {μ μ' : zM} {e : Int32} {a i : Nat} (h : zPl μ e a i μ') (hb : a + i < 2 ^ 31) : zPl μ e a (i + 1) (z_put μ' (nI (a + i)) e) := by
  obtain ⟨h1, h2, h3, h4, h5⟩ := h
  unfold z_put
  rw [nI_clamp hb]
  refine ⟨fun k => ?_, fun k => ?_, ?_, fun r k r1 r2 r3 => ?_, h5⟩
  · rw [z_ui_rd, if_neg (by omega), z_ui_rd, if_neg (by omega), z_ui_rd]
    by_cases hk : k = a + i
    · rw [if_pos ⟨rfl, hk⟩, h1, if_neg (by omega), if_pos (by omega), hk]
    · rw [if_neg (by omega), h1]
      by_cases hr : a ≤ k ∧ k < a + i
      · rw [if_pos hr, if_pos (by omega)]
      · rw [if_neg hr, if_neg (by omega)]
  · rw [z_ui_rd, if_neg (by omega), z_ui_rd]
    by_cases hk : k = a + i
    · rw [if_pos ⟨rfl, hk⟩, h2, if_neg (by omega), if_pos (by omega), hk]
    · rw [if_neg (by omega), z_ui_rd, if_neg (by omega), h2]
      by_cases hr : a ≤ k ∧ k < a + i
      · rw [if_pos hr, if_pos (by omega)]
      · rw [if_neg hr, if_neg (by omega)]
  · rw [z_ui_rd, if_pos ⟨rfl, rfl⟩, h3, nI_ma]
  · rw [z_ui_rd, if_neg r3, z_ui_rd, if_neg (fun q => r2 q.1), z_ui_rd, if_neg (fun q => r1 q.1)]
    exact h4 r k r1 r2 r3
def z_setX (μ : zM) (s k : Int32) : Prop := vp_in k 34 ∧ ¬ s < 0 ∧ s ≤ 3 ∧ (s = 0 → sr k) ∧ μ.1 9 5 + 3 * μ.1 9 4 + 3 ≤ 14 ∧ ∀ j, j < zl s + 1 → μ.1 11 (k.toNatClampNeg + j) + se s ≤ 4
def zSX (μ : zM) (s k : Int32) (q : Nat) (μ' : zM) : Prop := (∀ i, μ'.1 10 i = μ.1 10 i) ∧ (∀ i, μ'.1 11 i = if k.toNatClampNeg ≤ i ∧ i < k.toNatClampNeg + (zl s + 1) then μ.1 11 i + se s else μ.1 11 i) ∧ μ'.1 9 5 = μ.1 9 5 ∧ μ'.1 9 4 = nI (q + 1) ∧ (∀ i, μ'.1 12 i = if i = q then s else μ.1 12 i) ∧ (∀ i, μ'.1 13 i = if i = q then k else μ.1 13 i) ∧ (∀ r k, r ≠ 10 → r ≠ 11 → r ≠ 12 → r ≠ 13 → ¬ (r = 9 ∧ (k = 4 ∨ k = 5)) → μ'.1 r k = μ.1 r k) ∧ μ'.2 = μ.2
theorem zPl.ld {μ μ1 μ' : zM} {s : Int32} {a q : Nat} (h : zPl μ (se s) a (zl s + 1) μ1) (g : zLD μ1 s a q μ') (ha : a < 2 ^ 31) : zSX μ s (nI a) q μ' := by
  obtain ⟨h1, h2, h3, h4, h5⟩ := h
  obtain ⟨g1, g2, g3, g4, g5, g6, g7⟩ := g
  unfold zSX
  rw [nI_clamp ha]
  refine ⟨fun k => ?_, fun k => ?_, ?_, g3, fun i => ?_, fun i => ?_, fun r k r1 r2 r3 r4 r5 => ?_, g7.trans h5⟩
  · rw [g1, h1]
    by_cases hr : a ≤ k ∧ k < a + (zl s + 1)
    · rw [if_pos hr, if_pos hr, Int32.add_sub_cancel]
    · rw [if_neg hr, if_neg hr]
  · rw [g6 11 k (by decide) (by decide) (by decide) (by omega), h2]
  · rw [g2, h3, Int32.add_sub_cancel]
  · rw [g4, h4 12 i (by decide) (by decide) (by omega)]
  · rw [g5, h4 13 i (by decide) (by decide) (by omega)]
  · rw [g6 r k r1 r3 r4 r5, h4 r k r1 r2 (fun z => r5 ⟨z.1, Or.inr z.2⟩)]
theorem zh_X6_set : zH mi_X6_set zt_X6_set 79 6 6 := hh_X6_set
theorem fc_X6_set (d : Nat) (hd : 4 ≤ d) (μ : zM) (s k : Int32) (q : Nat) (e4 : μ.1 9 4 = nI q) (hq3 : μ.1 9 5 + 3 * μ.1 9 4 + 3 ≤ 14 → q ≤ 3) : z_C d mi_X6_set [.ref 0, .int s, .int k] μ (fun r μ' => (r = some (.int 1) ∧ z_setX μ s k ∧ zSX μ s k q μ') ∨ (r = some (.int 0) ∧ ¬ z_setX μ s k ∧ μ' = μ)) := by
  refine z_C_in (by decide) (by omega) (fun d' Z ed hc hr => ?_)
  have hH := zh_X6_set
  have mid : vp_in k 34 → ¬ s < 0 → s ≤ 3 → (s = 0 → sr k) → Z 0 29 [(0, .ref 0), (1, .int s), (2, .int k)] [] μ := by
    intro hk h0 h3 hs
    obtain ⟨a, ha, rfl⟩ := vp_in_of hk (by decide)
    have ham := zl_ok ha hs
    have ca : (nI a).toNatClampNeg = a := nI_clamp (by omega)
    have m57 : μ.1 9 5 + 3 * μ.1 9 4 + 3 ≤ 14 → Z 0 57 [(3, .int (nI (a + zl s))), (0, .ref 0), (1, .int s), (2, .int (nI a))] [] μ := by
      intro hz
      have lp2 : (∀ j, j < zl s + 1 → μ.1 11 (a + j) + se s ≤ 4) → ∀ (n i : Nat), i + n = zl s + 1 → ∀ μ1, zPl μ (se s) a i μ1 → Z 0 99 [(5, .int (nI (a + i))), (4, .int (se s)), (3, .int (nI (a + zl s))), (0, .ref 0), (1, .int s), (2, .int (nI a))] [] μ1 := by
        intro hall n
        induction n with
        | zero =>
          intro i hi μ1 h1
          have hi : i = zl s + 1 := by omega
          subst hi
          refine z_rcs hc hH 2 (pc' := 102) (lv' := [(5, .int (nI (a + (zl s + 1)))), (4, .int (se s)), (3, .int (nI (a + zl s))), (0, .ref 0), (1, .int s), (2, .int (nI a))]) (st' := [.int (nI (a + zl s)), .int (nI (a + (zl s + 1)))]) (μ' := μ1) (by rfl) ?_
          refine zq_ic hc hH (by rfl) (tg := 122) (by rfl) (fun _ => ?_) (fun h9 => (zb_t (gt_nIt (by omega) (by omega)) h9).elim)
          refine z_rcs hc hH 4 (pc' := 128) (lv' := [(5, .int (nI (a + (zl s + 1)))), (4, .int (se s)), (3, .int (nI (a + zl s))), (0, .ref 0), (1, .int s), (2, .int (nI a))]) (st' := [.int (nI a), .int s, .ref 9]) (μ' := μ1) (by rfl) ?_
          refine zq_call hc (z_cx_ok hH (by rfl)) (fc_X3_layDown d' (by omega) μ1 s a q ham (hq3 hz) (by rw [h1.2.2.2.1 9 4 (by decide) (by decide) (by decide), e4])) (by decide +kernel) (fun r9 μ9 hq => ?_)
          obtain ⟨rfl, hq⟩ := hq
          show Z 0 131 [(5, .int (nI (a + (zl s + 1)))), (4, .int (se s)), (3, .int (nI (a + zl s))), (0, .ref 0), (1, .int s), (2, .int (nI a))] [] μ9
          refine z_rcs hc hH 1 (pc' := 132) (lv' := [(5, .int (nI (a + (zl s + 1)))), (4, .int (se s)), (3, .int (nI (a + zl s))), (0, .ref 0), (1, .int s), (2, .int (nI a))]) (st' := [.int 1]) (μ' := μ9) (by rfl) ?_
          exact hr 0 132 _ _ _ (some (.int 1)) (by decide +kernel) (z_rx_ok hH (by rfl)) (Or.inl ⟨rfl, ⟨hk, h0, h3, hs, hz, fun j hj => by rw [ca]; exact hall j hj⟩, h1.ld hq (by omega)⟩)
        | succ n ih =>
          intro i hi μ1 h1
          refine z_rcs hc hH 2 (pc' := 102) (lv' := [(5, .int (nI (a + i))), (4, .int (se s)), (3, .int (nI (a + zl s))), (0, .ref 0), (1, .int s), (2, .int (nI a))]) (st' := [.int (nI (a + zl s)), .int (nI (a + i))]) (μ' := μ1) (by rfl) ?_
          refine zq_ic hc hH (by rfl) (tg := 122) (by rfl) (fun h9 => (zb_t h9 (gt_nI (by omega) (by omega))).elim) (fun _ => ?_)
          refine z_rcs hc hH 4 (pc' := 113) (lv' := [(5, .int (nI (a + i))), (4, .int (se s)), (3, .int (nI (a + zl s))), (0, .ref 0), (1, .int s), (2, .int (nI a))]) (st' := [.int (se s), .int (nI (a + i)), .ref 9]) (μ' := μ1) (by rfl) ?_
          refine zq_call hc (z_cx_ok hH (by rfl)) (fc_X3_put d' (by omega) μ1 (nI (a + i)) (se s)) (by decide +kernel) (fun r9 μ9 hq => ?_)
          obtain ⟨rfl, hq⟩ := hq
          obtain ⟨-, rfl⟩ := hq.resolve_right (fun q9 => q9.1 (vp_in_nI (by omega) (by decide)))
          show Z 0 116 [(5, .int (nI (a + i))), (4, .int (se s)), (3, .int (nI (a + zl s))), (0, .ref 0), (1, .int s), (2, .int (nI a))] [] (z_put μ1 (nI (a + i)) (se s))
          refine z_rcs hc hH 2 (pc' := 99) (lv' := [(5, .int ((nI (a + i)) + 1)), (4, .int (se s)), (3, .int (nI (a + zl s))), (0, .ref 0), (1, .int s), (2, .int (nI a))]) (st' := []) (μ' := z_put μ1 (nI (a + i)) (se s)) (by rfl) ?_
          have q := ih (i + 1) (by omega) _ (h1.nx (by omega))
          rw [nI_1]
          exact q
      have lp1 : ∀ (n i : Nat), i + n = zl s + 1 → (∀ j, j < i → μ.1 11 (a + j) + se s ≤ 4) → Z 0 66 [(5, .int (nI (a + i))), (4, .int (se s)), (3, .int (nI (a + zl s))), (0, .ref 0), (1, .int s), (2, .int (nI a))] [] μ := by
        intro n
        induction n with
        | zero =>
          intro i hi hall
          have hi : i = zl s + 1 := by omega
          subst hi
          refine z_rcs hc hH 2 (pc' := 69) (lv' := [(5, .int (nI (a + (zl s + 1)))), (4, .int (se s)), (3, .int (nI (a + zl s))), (0, .ref 0), (1, .int s), (2, .int (nI a))]) (st' := [.int (nI (a + zl s)), .int (nI (a + (zl s + 1)))]) (μ' := μ) (by rfl) ?_
          refine zq_ic hc hH (by rfl) (tg := 96) (by rfl) (fun _ => ?_) (fun h9 => (zb_t (gt_nIt (by omega) (by omega)) h9).elim)
          refine z_rcs hc hH 2 (pc' := 99) (lv' := [(5, .int (nI a)), (4, .int (se s)), (3, .int (nI (a + zl s))), (0, .ref 0), (1, .int s), (2, .int (nI a))]) (st' := []) (μ' := μ) (by rfl) ?_
          exact lp2 hall (zl s + 1) 0 (by omega) μ ⟨fun k => by rw [if_neg (by omega)], fun k => by rw [if_neg (by omega)], by rw [nI_0, Int32.zero_mul, Int32.add_zero], fun _ _ _ _ _ => rfl, rfl⟩
        | succ n ih =>
          intro i hi hall
          refine z_rcs hc hH 2 (pc' := 69) (lv' := [(5, .int (nI (a + i))), (4, .int (se s)), (3, .int (nI (a + zl s))), (0, .ref 0), (1, .int s), (2, .int (nI a))]) (st' := [.int (nI (a + zl s)), .int (nI (a + i))]) (μ' := μ) (by rfl) ?_
          refine zq_ic hc hH (by rfl) (tg := 96) (by rfl) (fun h9 => (zb_t h9 (gt_nI (by omega) (by omega))).elim) (fun _ => ?_)
          refine z_rcs hc hH 3 (pc' := 78) (lv' := [(5, .int (nI (a + i))), (4, .int (se s)), (3, .int (nI (a + zl s))), (0, .ref 0), (1, .int s), (2, .int (nI a))]) (st' := [.int (nI (a + i)), .ref 9]) (μ' := μ) (by rfl) ?_
          refine zq_call hc (z_cx_ok hH (by rfl)) (fc_X3_all d' (by omega) μ (nI (a + i))) (by decide +kernel) (fun r9 μ9 hq => ?_)
          obtain ⟨hμ9, hq⟩ := hq
          rw [hμ9]
          clear hμ9 μ9
          obtain ⟨-, rfl⟩ := hq.resolve_right (fun q9 => q9.1 (vp_in_nI (by omega) (by decide)))
          rw [nI_clamp (by omega)]
          show Z 0 81 [(5, .int (nI (a + i))), (4, .int (se s)), (3, .int (nI (a + zl s))), (0, .ref 0), (1, .int s), (2, .int (nI a))] [.int (μ.1 11 (a + i))] μ
          refine z_rcs hc hH 3 (pc' := 85) (lv' := [(5, .int (nI (a + i))), (4, .int (se s)), (3, .int (nI (a + zl s))), (0, .ref 0), (1, .int s), (2, .int (nI a))]) (st' := [.int 4, .int ((μ.1 11 (a + i)) + (se s))]) (μ' := μ) (by rfl) ?_
          refine zq_ic hc hH (by rfl) (tg := 90) (by rfl) (fun h1 => ?_) (fun h1 => ?_)
          · have h1 := cm_le.mp h1
            refine z_rcs hc hH 2 (pc' := 66) (lv' := [(5, .int ((nI (a + i)) + 1)), (4, .int (se s)), (3, .int (nI (a + zl s))), (0, .ref 0), (1, .int s), (2, .int (nI a))]) (st' := []) (μ' := μ) (by rfl) ?_
            have q := ih (i + 1) (by omega) (fun j hj => by by_cases e : j = i; (· rw [e]; exact h1); (· exact hall j (by omega)))
            rw [nI_1]
            exact q
          · have h1 := cn_le.mp h1
            refine z_rcs hc hH 1 (pc' := 89) (lv' := [(5, .int (nI (a + i))), (4, .int (se s)), (3, .int (nI (a + zl s))), (0, .ref 0), (1, .int s), (2, .int (nI a))]) (st' := [.int 0]) (μ' := μ) (by rfl) ?_
            exact hr 0 89 _ _ _ (some (.int 0)) (by decide +kernel) (z_rx_ok hH (by rfl)) (Or.inr ⟨rfl, fun q => h1 (by have z := q.2.2.2.2.2 i (by omega); rw [ca] at z; exact z), rfl⟩)
      refine z_rcs hc hH 1 (pc' := 58) (lv' := [(3, .int (nI (a + zl s))), (0, .ref 0), (1, .int s), (2, .int (nI a))]) (st' := [.int s]) (μ' := μ) (by rfl) ?_
      refine zq_call hc (z_cx_ok hH (by rfl)) (fc_X6_tilesOfEach d' (by omega) μ s) (by decide +kernel) (fun r9 μ9 hq => ?_)
      obtain ⟨hμ9, rfl⟩ := hq
      rw [hμ9]
      clear hμ9 μ9
      show Z 0 61 [(3, .int (nI (a + zl s))), (0, .ref 0), (1, .int s), (2, .int (nI a))] [.int (se s)] μ
      refine z_rcs hc hH 3 (pc' := 66) (lv' := [(5, .int (nI a)), (4, .int (se s)), (3, .int (nI (a + zl s))), (0, .ref 0), (1, .int s), (2, .int (nI a))]) (st' := []) (μ' := μ) (by rfl) ?_
      exact lp1 (zl s + 1) 0 (by omega) (fun j hj => absurd hj (by omega))
    refine z_rcs hc hH 2 (pc' := 33) (lv' := [(0, .ref 0), (1, .int s), (2, .int (nI a))]) (st' := [.ref 9]) (μ' := μ) (by rfl) ?_
    refine zq_call hc (z_cx_ok hH (by rfl)) (fc_X3_size d' (by omega) μ) (by decide +kernel) (fun r9 μ9 hq => ?_)
    obtain ⟨hμ9, rfl⟩ := hq
    rw [hμ9]
    clear hμ9 μ9
    show Z 0 36 [(0, .ref 0), (1, .int s), (2, .int (nI a))] [.int (μ.1 9 5 + 3 * μ.1 9 4)] μ
    refine z_rcs hc hH 3 (pc' := 40) (lv' := [(0, .ref 0), (1, .int s), (2, .int (nI a))]) (st' := [.int 14, .int ((μ.1 9 5 + 3 * μ.1 9 4) + 3)]) (μ' := μ) (by rfl) ?_
    refine zq_ic hc hH (by rfl) (tg := 45) (by rfl) (fun h1 => ?_) (fun h1 => ?_)
    · have h1 := cm_le.mp h1
      refine z_rcs hc hH 1 (pc' := 46) (lv' := [(0, .ref 0), (1, .int s), (2, .int (nI a))]) (st' := [.int s]) (μ' := μ) (by rfl) ?_
      refine zq_if hc hH (by rfl) (tg := 55) (by rfl) (fun h2 => ?_) (fun h2 => ?_)
      · have h2 := cm_ne.mp h2
        refine z_rcs hc hH 2 (pc' := 57) (lv' := [(3, .int (nI a)), (0, .ref 0), (1, .int s), (2, .int (nI a))]) (st' := []) (μ' := μ) (by rfl) ?_
        have m57 := m57 h1
        rw [← zl_b h2] at m57
        exact m57
      · have h2 := cn_ne.mp h2
        refine z_rcs hc hH 5 (pc' := 57) (lv' := [(3, .int ((nI a) + 2)), (0, .ref 0), (1, .int s), (2, .int (nI a))]) (st' := []) (μ' := μ) (by rfl) ?_
        have m57 := m57 h1
        rw [← zl_a h2] at m57
        exact m57
    · have h1 := cn_le.mp h1
      refine z_rcs hc hH 1 (pc' := 44) (lv' := [(0, .ref 0), (1, .int s), (2, .int (nI a))]) (st' := [.int 0]) (μ' := μ) (by rfl) ?_
      exact hr 0 44 _ _ _ (some (.int 0)) (by decide +kernel) (z_rx_ok hH (by rfl)) (Or.inr ⟨rfl, fun q => h1 q.2.2.2.2.1, rfl⟩)
  refine z_rcs hc hH 1 (pc' := 1) (lv' := [(0, .ref 0), (1, .int s), (2, .int k)]) (st' := [.int k]) (μ' := μ) (by rfl) ?_
  refine zq_call hc (z_cx_ok hH (by rfl)) (fc_X6_isKind d' (by omega) μ k) (by decide +kernel) (fun r9 μ9 hq => ?_)
  obtain ⟨hμ9, hq⟩ := hq
  rw [hμ9]
  clear hμ9 μ9
  obtain ⟨rfl, hk⟩ | ⟨rfl, hk⟩ := hq
  · show Z 0 4 [(0, .ref 0), (1, .int s), (2, .int k)] [.int 1] μ
    refine z_rcs hc hH 2 (pc' := 8) (lv' := [(0, .ref 0), (1, .int s), (2, .int k)]) (st' := [.int s]) (μ' := μ) (by rfl) ?_
    refine zq_if hc hH (by rfl) (tg := 16) (by rfl) (fun h1 => ?_) (fun h1 => ?_)
    · have h1 := cm_lt.mp h1
      refine z_rcs hc hH 1 (pc' := 17) (lv' := [(0, .ref 0), (1, .int s), (2, .int k)]) (st' := [.int 0]) (μ' := μ) (by rfl) ?_
      exact hr 0 17 _ _ _ (some (.int 0)) (by decide +kernel) (z_rx_ok hH (by rfl)) (Or.inr ⟨rfl, fun q => q.2.1 h1, rfl⟩)
    · have h1 := cn_lt.mp h1
      refine z_rcs hc hH 2 (pc' := 13) (lv' := [(0, .ref 0), (1, .int s), (2, .int k)]) (st' := [.int 3, .int s]) (μ' := μ) (by rfl) ?_
      refine zq_ic hc hH (by rfl) (tg := 18) (by rfl) (fun h2 => ?_) (fun h2 => ?_)
      · have h2 := cm_le.mp h2
        refine z_rcs hc hH 1 (pc' := 19) (lv' := [(0, .ref 0), (1, .int s), (2, .int k)]) (st' := [.int s]) (μ' := μ) (by rfl) ?_
        refine zq_if hc hH (by rfl) (tg := 29) (by rfl) (fun h3 => ?_) (fun h3 => ?_)
        · have h3 := cm_ne.mp h3
          exact mid hk h1 h2 (fun z => absurd z h3)
        · have h3 := cn_ne.mp h3
          refine z_rcs hc hH 1 (pc' := 23) (lv' := [(0, .ref 0), (1, .int s), (2, .int k)]) (st' := [.int k]) (μ' := μ) (by rfl) ?_
          refine zq_call hc (z_cx_ok hH (by rfl)) (fc_X6_startsRun d' (by omega) μ k) (by decide +kernel) (fun r9 μ9 hq => ?_)
          obtain ⟨hμ9, hq⟩ := hq
          rw [hμ9]
          clear hμ9 μ9
          obtain ⟨rfl, hrun⟩ | ⟨rfl, hrun⟩ := hq
          · show Z 0 26 [(0, .ref 0), (1, .int s), (2, .int k)] [.int 1] μ
            refine z_rcs hc hH 1 (pc' := 29) (lv' := [(0, .ref 0), (1, .int s), (2, .int k)]) (st' := []) (μ' := μ) (by rfl) ?_
            exact mid hk h1 h2 (fun _ => hrun)
          · show Z 0 26 [(0, .ref 0), (1, .int s), (2, .int k)] [.int 0] μ
            refine z_rcs hc hH 2 (pc' := 44) (lv' := [(0, .ref 0), (1, .int s), (2, .int k)]) (st' := [.int 0]) (μ' := μ) (by rfl) ?_
            exact hr 0 44 _ _ _ (some (.int 0)) (by decide +kernel) (z_rx_ok hH (by rfl)) (Or.inr ⟨rfl, fun q => hrun (q.2.2.2.1 h3), rfl⟩)
      · have h2 := cn_le.mp h2
        refine z_rcs hc hH 1 (pc' := 17) (lv' := [(0, .ref 0), (1, .int s), (2, .int k)]) (st' := [.int 0]) (μ' := μ) (by rfl) ?_
        exact hr 0 17 _ _ _ (some (.int 0)) (by decide +kernel) (z_rx_ok hH (by rfl)) (Or.inr ⟨rfl, fun q => h2 q.2.2.1, rfl⟩)
  · show Z 0 4 [(0, .ref 0), (1, .int s), (2, .int k)] [.int 0] μ
    refine z_rcs hc hH 2 (pc' := 17) (lv' := [(0, .ref 0), (1, .int s), (2, .int k)]) (st' := [.int 0]) (μ' := μ) (by rfl) ?_
    exact hr 0 17 _ _ _ (some (.int 0)) (by decide +kernel) (z_rx_ok hH (by rfl)) (Or.inr ⟨rfl, fun q => hk q.1, rfl⟩)
def z_setM (μ : zM) (q : Nat) (s k : Int32) : Prop := vp_in k 34 ∧ ¬ s < 0 ∧ s ≤ 3 ∧ (s = 0 → sr k) ∧ sm (μ.1 74) 34 + 3 * μ.1 50 66 + 3 ≤ 14 ∧ ∀ j, j < zl s + 1 → ofv (μ.1 74 (k.toNatClampNeg + j)) (μ.1 75) (μ.1 76) (nI (k.toNatClampNeg + j)) q + se s ≤ 4
theorem sle {s : Int32} (h : ¬ (3 : Int32) < s) : s ≤ 3 := Int32.not_lt.mp h
theorem zh_X7_set : zH mi_X7_set zt_X7_set 79 7 5 := hh_X7_set
theorem fc_X7_set (d : Nat) (hd : 4 ≤ d) (μ : zM) (s k : Int32) (q : Nat) (hq4 : q ≤ 4) (es : μ.1 50 66 = nI q) (hq3 : sm (μ.1 74) 34 + 3 * μ.1 50 66 + 3 ≤ 14 → q ≤ 3) : z_C d mi_X7_set [.ref 50, .int s, .int k] μ (fun r μ' => zMf μ μ' ∧ μ'.1 74 = μ.1 74 ∧ ((r = some (.int 1) ∧ z_setM μ q s k ∧ (∀ i, μ'.1 75 i = if i = q then s else μ.1 75 i) ∧ (∀ i, μ'.1 76 i = if i = q then k else μ.1 76 i) ∧ μ'.1 50 66 = nI (q + 1)) ∨ (r = some (.int 0) ∧ ¬ z_setM μ q s k ∧ μ'.1 75 = μ.1 75 ∧ μ'.1 76 = μ.1 76 ∧ μ'.1 50 66 = μ.1 50 66))) := by
  refine z_C_in (by decide) (by omega) (fun d' Z ed hc hr => ?_)
  have hH := zh_X7_set
  have mid : vp_in k 34 → ¬ s < 0 → s ≤ 3 → (s = 0 → sr k) → Z 0 34 [(0, .ref 50), (1, .int s), (2, .int k)] [] (z_ui μ 50 0 0) := by
    intro hk h0 h3 hs
    obtain ⟨a, ha, rfl⟩ := vp_in_of hk (by decide)
    have ham := zl_ok ha hs
    have ca : (nI a).toNatClampNeg = a := nI_clamp (by omega)
    refine z_rcs hc hH 1 (pc' := 35) (lv' := [(0, .ref 50), (1, .int s), (2, .int (nI a))]) (st' := [.ref 50]) (μ' := z_ui μ 50 0 0) (by rfl) ?_
    refine zq_call hc (z_cx_ok hH (by rfl)) (fc_X7_takeDesk d' (by omega) (z_ui μ 50 0 0) q hq4 (by rw [z_ui_rd, if_neg (by decide)]; exact es)) (by decide +kernel) (fun r9 μ9 hq => ?_)
    obtain ⟨rfl, htd⟩ := hq
    obtain ⟨m1, m2, m3, m4, m5⟩ := htd.Mf
    generalize μ9 = μb at htd m1 m2 m3 m4 m5 ⊢
    have e4 : μb.1 50 4 = nI q := by rw [htd.2.1, z_ui_rd, if_neg (by decide)]; exact es
    have m76 : sm (μ.1 74) 34 + 3 * μ.1 50 66 + 3 ≤ 14 → Z 0 76 [(0, .ref 50), (1, .int s), (2, .int (nI a))] [.int (se s)] μb := by
      intro hz
      have lp : ∀ (n i : Nat), i + n = zl s + 1 → (∀ j, j < i → ofv (μ.1 74 (a + j)) (μ.1 75) (μ.1 76) (nI (a + j)) q + se s ≤ 4) → Z 0 80 [(4, .int (nI (a + i))), (3, .int (se s)), (0, .ref 50), (1, .int s), (2, .int (nI a))] [] μb := by
        intro n
        induction n with
        | zero =>
          intro i hi hall
          have hi : i = zl s + 1 := by omega
          subst hi
          have hin : vp_in (μb.1 50 66) 4 := by rw [m5, es]; exact vp_in_nI (by have := hq3 hz; omega) (by decide)
          refine z_rcs hc hH 3 (pc' := 84) (lv' := [(4, .int (nI (a + (zl s + 1)))), (3, .int (se s)), (0, .ref 50), (1, .int s), (2, .int (nI a))]) (st' := [.int s, .int (nI a), .int (nI (a + (zl s + 1)))]) (μ' := μb) (by rfl) ?_
          refine zq_if hc hH (by rfl) (tg := 91) (by rfl) (fun h1 => ?_) (fun h1 => ?_)
          · have h1 := cm_ne.mp h1
            refine z_rcs hc hH 1 (pc' := 92) (lv' := [(4, .int (nI (a + (zl s + 1)))), (3, .int (se s)), (0, .ref 50), (1, .int s), (2, .int (nI a))]) (st' := [.int 1, .int (nI a), .int (nI (a + (zl s + 1)))]) (μ' := μb) (by rfl) ?_
            rw [zl_l h1]
            refine z_rcs hc hH 1 (pc' := 93) (lv' := [(4, .int (nI (a + (zl s + 1)))), (3, .int (se s)), (0, .ref 50), (1, .int s), (2, .int (nI a))]) (st' := [.int ((nI a) + (nI (zl s + 1))), .int (nI (a + (zl s + 1)))]) (μ' := μb) (by rfl) ?_
            refine zq_ic hc hH (by rfl) (tg := 116) (by rfl) (fun _ => ?_) (fun h9 => (zb_t (by rw [nI_add]; exact ge_nIt (by omega) (by omega)) h9).elim)
            refine z_rcs hc hH 5 (pc' := 125) (lv' := [(4, .int (nI (a + (zl s + 1)))), (3, .int (se s)), (0, .ref 50), (1, .int s), (2, .int (nI a))]) (st' := [.int s, .int (μb.1 50 66), .ref 75]) (μ' := μb) (by rfl) ?_
            refine zq_iast hc hH (by rfl) 4 (by decide +kernel) (hin) ?_
            refine z_rcs hc hH 5 (pc' := 135) (lv' := [(4, .int (nI (a + (zl s + 1)))), (3, .int (se s)), (0, .ref 50), (1, .int s), (2, .int (nI a))]) (st' := [.int (nI a), .int (μb.1 50 66), .ref 76]) (μ' := z_ui μb 75 ((μb.1 50 66).toNatClampNeg) s) (by rfl) ?_
            refine zq_iast hc hH (by rfl) 4 (by decide +kernel) (hin) ?_
            refine z_rcs hc hH 7 (pc' := 147) (lv' := [(4, .int (nI (a + (zl s + 1)))), (3, .int (se s)), (0, .ref 50), (1, .int s), (2, .int (nI a))]) (st' := [.int 1]) (μ' := z_ui (z_ui (z_ui μb 75 ((μb.1 50 66).toNatClampNeg) s) 76 ((μb.1 50 66).toNatClampNeg) (nI a)) 50 66 ((μb.1 50 66) + 1)) (by rfl) ?_
            exact hr 0 147 _ _ _ (some (.int 1)) (by decide +kernel) (z_rx_ok hH (by rfl)) (⟨⟨fun r k' r1 r2 r3 r4 r5 r6 r7 r8 => by rw [z_ui_rd, if_neg (fun q => r8 ⟨q.1, Or.inr (Or.inr q.2)⟩), z_ui_rd, if_neg (fun q => r7 q.1), z_ui_rd, if_neg (fun q => r6 q.1)]; exact m1.1 r k' r1 r2 r3 r4 r5 r6 r7 r8, by rw [z_ui_rd, if_neg (by omega)]; exact m1.2.1, m1.2.2⟩, by funext i; rw [z_ui_rd, if_neg (by omega), z_ui_rd, if_neg (by omega), z_ui_rd, if_neg (by omega), m2], Or.inl ⟨rfl, ⟨hk, h0, h3, hs, hz, fun j hj => by rw [ca]; exact hall j hj⟩, fun i => by rw [z_ui_rd, if_neg (by omega), z_ui_rd, if_neg (by omega), z_ui_rd, m5, es, nI_clamp (by omega), m3]; by_cases e : i = q <;> simp [e], fun i => by rw [z_ui_rd, if_neg (by omega), z_ui_rd, m5, es, nI_clamp (by omega)]; by_cases e : i = q; (· simp [e]); (· simp [e, z_ui_rd, m4]), by rw [z_ui_rd, if_pos ⟨rfl, rfl⟩, m5, es, nI_1]⟩⟩)
          · have h1 := cn_ne.mp h1
            refine z_rcs hc hH 2 (pc' := 92) (lv' := [(4, .int (nI (a + (zl s + 1)))), (3, .int (se s)), (0, .ref 50), (1, .int s), (2, .int (nI a))]) (st' := [.int 3, .int (nI a), .int (nI (a + (zl s + 1)))]) (μ' := μb) (by rfl) ?_
            rw [zl_3 h1]
            refine z_rcs hc hH 1 (pc' := 93) (lv' := [(4, .int (nI (a + (zl s + 1)))), (3, .int (se s)), (0, .ref 50), (1, .int s), (2, .int (nI a))]) (st' := [.int ((nI a) + (nI (zl s + 1))), .int (nI (a + (zl s + 1)))]) (μ' := μb) (by rfl) ?_
            refine zq_ic hc hH (by rfl) (tg := 116) (by rfl) (fun _ => ?_) (fun h9 => (zb_t (by rw [nI_add]; exact ge_nIt (by omega) (by omega)) h9).elim)
            refine z_rcs hc hH 5 (pc' := 125) (lv' := [(4, .int (nI (a + (zl s + 1)))), (3, .int (se s)), (0, .ref 50), (1, .int s), (2, .int (nI a))]) (st' := [.int s, .int (μb.1 50 66), .ref 75]) (μ' := μb) (by rfl) ?_
            refine zq_iast hc hH (by rfl) 4 (by decide +kernel) (hin) ?_
            refine z_rcs hc hH 5 (pc' := 135) (lv' := [(4, .int (nI (a + (zl s + 1)))), (3, .int (se s)), (0, .ref 50), (1, .int s), (2, .int (nI a))]) (st' := [.int (nI a), .int (μb.1 50 66), .ref 76]) (μ' := z_ui μb 75 ((μb.1 50 66).toNatClampNeg) s) (by rfl) ?_
            refine zq_iast hc hH (by rfl) 4 (by decide +kernel) (hin) ?_
            refine z_rcs hc hH 7 (pc' := 147) (lv' := [(4, .int (nI (a + (zl s + 1)))), (3, .int (se s)), (0, .ref 50), (1, .int s), (2, .int (nI a))]) (st' := [.int 1]) (μ' := z_ui (z_ui (z_ui μb 75 ((μb.1 50 66).toNatClampNeg) s) 76 ((μb.1 50 66).toNatClampNeg) (nI a)) 50 66 ((μb.1 50 66) + 1)) (by rfl) ?_
            exact hr 0 147 _ _ _ (some (.int 1)) (by decide +kernel) (z_rx_ok hH (by rfl)) (⟨⟨fun r k' r1 r2 r3 r4 r5 r6 r7 r8 => by rw [z_ui_rd, if_neg (fun q => r8 ⟨q.1, Or.inr (Or.inr q.2)⟩), z_ui_rd, if_neg (fun q => r7 q.1), z_ui_rd, if_neg (fun q => r6 q.1)]; exact m1.1 r k' r1 r2 r3 r4 r5 r6 r7 r8, by rw [z_ui_rd, if_neg (by omega)]; exact m1.2.1, m1.2.2⟩, by funext i; rw [z_ui_rd, if_neg (by omega), z_ui_rd, if_neg (by omega), z_ui_rd, if_neg (by omega), m2], Or.inl ⟨rfl, ⟨hk, h0, h3, hs, hz, fun j hj => by rw [ca]; exact hall j hj⟩, fun i => by rw [z_ui_rd, if_neg (by omega), z_ui_rd, if_neg (by omega), z_ui_rd, m5, es, nI_clamp (by omega), m3]; by_cases e : i = q <;> simp [e], fun i => by rw [z_ui_rd, if_neg (by omega), z_ui_rd, m5, es, nI_clamp (by omega)]; by_cases e : i = q; (· simp [e]); (· simp [e, z_ui_rd, m4]), by rw [z_ui_rd, if_pos ⟨rfl, rfl⟩, m5, es, nI_1]⟩⟩)
        | succ n ih =>
          intro i hi hall
          refine z_rcs hc hH 3 (pc' := 84) (lv' := [(4, .int (nI (a + i))), (3, .int (se s)), (0, .ref 50), (1, .int s), (2, .int (nI a))]) (st' := [.int s, .int (nI a), .int (nI (a + i))]) (μ' := μb) (by rfl) ?_
          refine zq_if hc hH (by rfl) (tg := 91) (by rfl) (fun h1 => ?_) (fun h1 => ?_)
          · have h1 := cm_ne.mp h1
            refine z_rcs hc hH 1 (pc' := 92) (lv' := [(4, .int (nI (a + i))), (3, .int (se s)), (0, .ref 50), (1, .int s), (2, .int (nI a))]) (st' := [.int 1, .int (nI a), .int (nI (a + i))]) (μ' := μb) (by rfl) ?_
            rw [zl_l h1]
            refine z_rcs hc hH 1 (pc' := 93) (lv' := [(4, .int (nI (a + i))), (3, .int (se s)), (0, .ref 50), (1, .int s), (2, .int (nI a))]) (st' := [.int ((nI a) + (nI (zl s + 1))), .int (nI (a + i))]) (μ' := μb) (by rfl) ?_
            refine zq_ic hc hH (by rfl) (tg := 116) (by rfl) (fun h9 => (zb_t h9 (by rw [nI_add]; exact ge_nI (by omega) (by omega))).elim) (fun _ => ?_)
            refine z_rcs hc hH 2 (pc' := 99) (lv' := [(4, .int (nI (a + i))), (3, .int (se s)), (0, .ref 50), (1, .int s), (2, .int (nI a))]) (st' := [.int (nI (a + i)), .ref 50]) (μ' := μb) (by rfl) ?_
            refine zq_call hc (z_cx_ok hH (by rfl)) (fc_X7_of d' (by omega) μb (nI (a + i)) (vp_in_nI (by omega) (by decide)) q hq4 e4) (by decide +kernel) (fun r9 μ9 hq => ?_)
            obtain ⟨hμ9, rfl⟩ := hq
            rw [hμ9, htd.ofv (vp_in_nI (by omega) (by decide)) es hq4, nI_clamp (by omega)]
            clear hμ9 μ9
            show Z 0 102 [(4, .int (nI (a + i))), (3, .int (se s)), (0, .ref 50), (1, .int s), (2, .int (nI a))] [.int (ofv (μ.1 74 (a + i)) (μ.1 75) (μ.1 76) (nI (a + i)) q)] μb
            refine z_rcs hc hH 3 (pc' := 105) (lv' := [(4, .int (nI (a + i))), (3, .int (se s)), (0, .ref 50), (1, .int s), (2, .int (nI a))]) (st' := [.int 4, .int ((ofv (μ.1 74 (a + i)) (μ.1 75) (μ.1 76) (nI (a + i)) q) + (se s))]) (μ' := μb) (by rfl) ?_
            refine zq_ic hc hH (by rfl) (tg := 110) (by rfl) (fun h2 => ?_) (fun h2 => ?_)
            · have h2 := cm_le.mp h2
              refine z_rcs hc hH 2 (pc' := 80) (lv' := [(4, .int ((nI (a + i)) + 1)), (3, .int (se s)), (0, .ref 50), (1, .int s), (2, .int (nI a))]) (st' := []) (μ' := μb) (by rfl) ?_
              have q := ih (i + 1) (by omega) (fun j hj => by by_cases e : j = i; (· rw [e]; exact h2); (· exact hall j (by omega)))
              rw [nI_1]
              exact q
            · have h2 := cn_le.mp h2
              refine z_rcs hc hH 1 (pc' := 109) (lv' := [(4, .int (nI (a + i))), (3, .int (se s)), (0, .ref 50), (1, .int s), (2, .int (nI a))]) (st' := [.int 0]) (μ' := μb) (by rfl) ?_
              exact hr 0 109 _ _ _ (some (.int 0)) (by decide +kernel) (z_rx_ok hH (by rfl)) (⟨m1, m2, Or.inr ⟨rfl, fun q => h2 (by have z := q.2.2.2.2.2 i (by omega); rw [ca] at z; exact z), m3, m4, m5⟩⟩)
          · have h1 := cn_ne.mp h1
            refine z_rcs hc hH 2 (pc' := 92) (lv' := [(4, .int (nI (a + i))), (3, .int (se s)), (0, .ref 50), (1, .int s), (2, .int (nI a))]) (st' := [.int 3, .int (nI a), .int (nI (a + i))]) (μ' := μb) (by rfl) ?_
            rw [zl_3 h1]
            refine z_rcs hc hH 1 (pc' := 93) (lv' := [(4, .int (nI (a + i))), (3, .int (se s)), (0, .ref 50), (1, .int s), (2, .int (nI a))]) (st' := [.int ((nI a) + (nI (zl s + 1))), .int (nI (a + i))]) (μ' := μb) (by rfl) ?_
            refine zq_ic hc hH (by rfl) (tg := 116) (by rfl) (fun h9 => (zb_t h9 (by rw [nI_add]; exact ge_nI (by omega) (by omega))).elim) (fun _ => ?_)
            refine z_rcs hc hH 2 (pc' := 99) (lv' := [(4, .int (nI (a + i))), (3, .int (se s)), (0, .ref 50), (1, .int s), (2, .int (nI a))]) (st' := [.int (nI (a + i)), .ref 50]) (μ' := μb) (by rfl) ?_
            refine zq_call hc (z_cx_ok hH (by rfl)) (fc_X7_of d' (by omega) μb (nI (a + i)) (vp_in_nI (by omega) (by decide)) q hq4 e4) (by decide +kernel) (fun r9 μ9 hq => ?_)
            obtain ⟨hμ9, rfl⟩ := hq
            rw [hμ9, htd.ofv (vp_in_nI (by omega) (by decide)) es hq4, nI_clamp (by omega)]
            clear hμ9 μ9
            show Z 0 102 [(4, .int (nI (a + i))), (3, .int (se s)), (0, .ref 50), (1, .int s), (2, .int (nI a))] [.int (ofv (μ.1 74 (a + i)) (μ.1 75) (μ.1 76) (nI (a + i)) q)] μb
            refine z_rcs hc hH 3 (pc' := 105) (lv' := [(4, .int (nI (a + i))), (3, .int (se s)), (0, .ref 50), (1, .int s), (2, .int (nI a))]) (st' := [.int 4, .int ((ofv (μ.1 74 (a + i)) (μ.1 75) (μ.1 76) (nI (a + i)) q) + (se s))]) (μ' := μb) (by rfl) ?_
            refine zq_ic hc hH (by rfl) (tg := 110) (by rfl) (fun h3 => ?_) (fun h3 => ?_)
            · have h3 := cm_le.mp h3
              refine z_rcs hc hH 2 (pc' := 80) (lv' := [(4, .int ((nI (a + i)) + 1)), (3, .int (se s)), (0, .ref 50), (1, .int s), (2, .int (nI a))]) (st' := []) (μ' := μb) (by rfl) ?_
              have q := ih (i + 1) (by omega) (fun j hj => by by_cases e : j = i; (· rw [e]; exact h3); (· exact hall j (by omega)))
              rw [nI_1]
              exact q
            · have h3 := cn_le.mp h3
              refine z_rcs hc hH 1 (pc' := 109) (lv' := [(4, .int (nI (a + i))), (3, .int (se s)), (0, .ref 50), (1, .int s), (2, .int (nI a))]) (st' := [.int 0]) (μ' := μb) (by rfl) ?_
              exact hr 0 109 _ _ _ (some (.int 0)) (by decide +kernel) (z_rx_ok hH (by rfl)) (⟨m1, m2, Or.inr ⟨rfl, fun q => h3 (by have z := q.2.2.2.2.2 i (by omega); rw [ca] at z; exact z), m3, m4, m5⟩⟩)
      refine z_rcs hc hH 3 (pc' := 80) (lv' := [(4, .int (nI a)), (3, .int (se s)), (0, .ref 50), (1, .int s), (2, .int (nI a))]) (st' := []) (μ' := μb) (by rfl) ?_
      exact lp (zl s + 1) 0 (by omega) (fun j hj => absurd hj (by omega))
    show Z 0 38 [(0, .ref 50), (1, .int s), (2, .int (nI a))] [] μb
    refine z_rcs hc hH 1 (pc' := 39) (lv' := [(0, .ref 50), (1, .int s), (2, .int (nI a))]) (st' := [.ref 50]) (μ' := μb) (by rfl) ?_
    refine zq_call hc (z_cx_ok hH (by rfl)) (fc_X7_inHand d' (by omega) μb) (by decide +kernel) (fun r9 μ9 hq => ?_)
    obtain ⟨hμ9, rfl⟩ := hq
    rw [hμ9, htd.sm]
    clear hμ9 μ9
    show Z 0 42 [(0, .ref 50), (1, .int s), (2, .int (nI a))] [.int (sm (μ.1 74) 34)] μb
    refine z_rcs hc hH 4 (pc' := 48) (lv' := [(0, .ref 50), (1, .int s), (2, .int (nI a))]) (st' := [.int (3 * (μb.1 50 4)), .int (sm (μ.1 74) 34)]) (μ' := μb) (by rfl) ?_
    rw [show μb.1 50 4 = μ.1 50 66 by rw [e4, es]]
    refine z_rcs hc hH 4 (pc' := 53) (lv' := [(0, .ref 50), (1, .int s), (2, .int (nI a))]) (st' := [.int 14, .int (((sm (μ.1 74) 34) + (3 * (μ.1 50 66))) + 3)]) (μ' := μb) (by rfl) ?_
    refine zq_ic hc hH (by rfl) (tg := 58) (by rfl) (fun h1 => ?_) (fun h1 => ?_)
    · have h1 := cm_le.mp h1
      refine z_rcs hc hH 1 (pc' := 59) (lv' := [(0, .ref 50), (1, .int s), (2, .int (nI a))]) (st' := [.int s]) (μ' := μb) (by rfl) ?_
      refine zq_if hc hH (by rfl) (tg := 66) (by rfl) (fun h2 => ?_) (fun h2 => ?_)
      · have h2 := cm_ne.mp h2
        refine z_rcs hc hH 2 (pc' := 68) (lv' := [(0, .ref 50), (1, .int s), (2, .int (nI a))]) (st' := [.int 1, .int s]) (μ' := μb) (by rfl) ?_
        refine zq_ic hc hH (by rfl) (tg := 75) (by rfl) (fun h3 => ?_) (fun h3 => ?_)
        · have h3 := cm_ne.mp h3
          refine z_rcs hc hH 1 (pc' := 76) (lv' := [(0, .ref 50), (1, .int s), (2, .int (nI a))]) (st' := [.int 4]) (μ' := μb) (by rfl) ?_
          have m76 := m76 h1
          rw [se_2 h2 h3] at m76
          exact m76
        · have h3 := cn_ne.mp h3
          refine z_rcs hc hH 2 (pc' := 76) (lv' := [(0, .ref 50), (1, .int s), (2, .int (nI a))]) (st' := [.int 3]) (μ' := μb) (by rfl) ?_
          have m76 := m76 h1
          rw [se_1 h2 h3] at m76
          exact m76
      · have h2 := cn_ne.mp h2
        refine z_rcs hc hH 2 (pc' := 76) (lv' := [(0, .ref 50), (1, .int s), (2, .int (nI a))]) (st' := [.int 1]) (μ' := μb) (by rfl) ?_
        have m76 := m76 h1
        rw [se_0 h2] at m76
        exact m76
    · have h1 := cn_le.mp h1
      refine z_rcs hc hH 1 (pc' := 57) (lv' := [(0, .ref 50), (1, .int s), (2, .int (nI a))]) (st' := [.int 0]) (μ' := μb) (by rfl) ?_
      exact hr 0 57 _ _ _ (some (.int 0)) (by decide +kernel) (z_rx_ok hH (by rfl)) (⟨m1, m2, Or.inr ⟨rfl, fun q => h1 q.2.2.2.2.1, m3, m4, m5⟩⟩)
  refine z_rcs hc hH 4 (pc' := 6) (lv' := [(0, .ref 50), (1, .int s), (2, .int k)]) (st' := [.int k]) (μ' := z_ui μ 50 0 0) (by rfl) ?_
  refine zq_call hc (z_cx_ok hH (by rfl)) (fc_X7_isKind d' (by omega) (z_ui μ 50 0 0) k) (by decide +kernel) (fun r9 μ9 hq => ?_)
  obtain ⟨hμ9, hq⟩ := hq
  rw [hμ9]
  clear hμ9 μ9
  obtain ⟨rfl, hk⟩ | ⟨rfl, hk⟩ := hq
  · show Z 0 9 [(0, .ref 50), (1, .int s), (2, .int k)] [.int 1] (z_ui μ 50 0 0)
    refine z_rcs hc hH 2 (pc' := 13) (lv' := [(0, .ref 50), (1, .int s), (2, .int k)]) (st' := [.int s]) (μ' := z_ui μ 50 0 0) (by rfl) ?_
    refine zq_if hc hH (by rfl) (tg := 32) (by rfl) (fun h1 => ?_) (fun h1 => ?_)
    · have h1 := cm_lt.mp h1
      refine z_rcs hc hH 1 (pc' := 33) (lv' := [(0, .ref 50), (1, .int s), (2, .int k)]) (st' := [.int 0]) (μ' := z_ui μ 50 0 0) (by rfl) ?_
      exact hr 0 33 _ _ _ (some (.int 0)) (by decide +kernel) (z_rx_ok hH (by rfl)) (⟨zMf0 μ, rfl, Or.inr ⟨rfl, fun q => q.2.1 h1, rfl, rfl, rfl⟩⟩)
    · have h1 := cn_lt.mp h1
      refine z_rcs hc hH 2 (pc' := 18) (lv' := [(0, .ref 50), (1, .int s), (2, .int k)]) (st' := [.int 3, .int s]) (μ' := z_ui μ 50 0 0) (by rfl) ?_
      refine zq_ic hc hH (by rfl) (tg := 32) (by rfl) (fun h2 => ?_) (fun h2 => ?_)
      · have h2 := cm_gt.mp h2
        refine z_rcs hc hH 1 (pc' := 33) (lv' := [(0, .ref 50), (1, .int s), (2, .int k)]) (st' := [.int 0]) (μ' := z_ui μ 50 0 0) (by rfl) ?_
        exact hr 0 33 _ _ _ (some (.int 0)) (by decide +kernel) (z_rx_ok hH (by rfl)) (⟨zMf0 μ, rfl, Or.inr ⟨rfl, fun q => Int32.not_le.mpr h2 q.2.2.1, rfl, rfl, rfl⟩⟩)
      · have h2 := cn_gt.mp h2
        refine z_rcs hc hH 1 (pc' := 22) (lv' := [(0, .ref 50), (1, .int s), (2, .int k)]) (st' := [.int s]) (μ' := z_ui μ 50 0 0) (by rfl) ?_
        refine zq_if hc hH (by rfl) (tg := 34) (by rfl) (fun h3 => ?_) (fun h3 => ?_)
        · have h3 := cm_ne.mp h3
          exact mid hk h1 (sle h2) (fun z => absurd z h3)
        · have h3 := cn_ne.mp h3
          refine z_rcs hc hH 1 (pc' := 26) (lv' := [(0, .ref 50), (1, .int s), (2, .int k)]) (st' := [.int k]) (μ' := z_ui μ 50 0 0) (by rfl) ?_
          refine zq_call hc (z_cx_ok hH (by rfl)) (fc_X7_isRun d' (by omega) (z_ui μ 50 0 0) k) (by decide +kernel) (fun r9 μ9 hq => ?_)
          obtain ⟨hμ9, hq⟩ := hq
          rw [hμ9]
          clear hμ9 μ9
          obtain ⟨rfl, hrun⟩ | ⟨rfl, hrun⟩ := hq
          · show Z 0 29 [(0, .ref 50), (1, .int s), (2, .int k)] [.int 1] (z_ui μ 50 0 0)
            refine z_rcs hc hH 1 (pc' := 34) (lv' := [(0, .ref 50), (1, .int s), (2, .int k)]) (st' := []) (μ' := z_ui μ 50 0 0) (by rfl) ?_
            exact mid hk h1 (sle h2) (fun _ => hrun)
          · show Z 0 29 [(0, .ref 50), (1, .int s), (2, .int k)] [.int 0] (z_ui μ 50 0 0)
            refine z_rcs hc hH 2 (pc' := 33) (lv' := [(0, .ref 50), (1, .int s), (2, .int k)]) (st' := [.int 0]) (μ' := z_ui μ 50 0 0) (by rfl) ?_
            exact hr 0 33 _ _ _ (some (.int 0)) (by decide +kernel) (z_rx_ok hH (by rfl)) (⟨zMf0 μ, rfl, Or.inr ⟨rfl, fun q => hrun (q.2.2.2.1 h3), rfl, rfl, rfl⟩⟩)
  · show Z 0 9 [(0, .ref 50), (1, .int s), (2, .int k)] [.int 0] (z_ui μ 50 0 0)
    refine z_rcs hc hH 2 (pc' := 33) (lv' := [(0, .ref 50), (1, .int s), (2, .int k)]) (st' := [.int 0]) (μ' := z_ui μ 50 0 0) (by rfl) ?_
    exact hr 0 33 _ _ _ (some (.int 0)) (by decide +kernel) (z_rx_ok hH (by rfl)) (⟨zMf0 μ, rfl, Or.inr ⟨rfl, fun q => hk q.1, rfl, rfl, rfl⟩⟩)

/-! the game: dear tiles of the reference -/
set_option maxRecDepth 8000
def deF (A : Nat → Int32) (b : Bool) : Nat → Int32
  | 0 => 0
  | n + 1 => (deF A b n + A (126 + 2 * n)) + (bif b then A (127 + 2 * n) else 0)
theorem deF_cg {A B : Nat → Int32} {b : Bool} : ∀ n, (∀ p, 126 ≤ p → p < 126 + 2 * n → A p = B p) → deF A b n = deF B b n
  | 0, _ => rfl
  | n + 1, h => by
    show (deF A b n + A (126 + 2 * n)) + (bif b then A (127 + 2 * n) else 0) = _
    rw [deF_cg n (fun p h1 h2 => h p h1 (by omega)), h (126 + 2 * n) (by omega) (by omega), h (127 + 2 * n) (by omega) (by omega)]
    rfl
theorem bhd_in0 : ∀ x, x < 34 → z_in (bhd (nI x)) 34 = true := by decide +kernel
theorem bhd_in : ∀ x, x < 34 → vp_in (bhd (nI x)) 34 := fun x hx => z_in_iff.mp (bhd_in0 x hx)
theorem gc_dear (d : Nat) (hd : 3 ≤ d) (μ : zM) (j : Nat) (hj : j < 4) (hd9 : Bool) (f : Nat) (hf4 : f ≤ 4) (hS1 : μ.1 2 1 = 1) (hf : μ.1 2 3 = nI f) : z_C d mi_X4_dearTiles [.ref 2, .ref (19 + 8 * j), .int (nB hd9)] μ (zR μ (.int (deF (fun p => fr μ (21 + 8 * j) (bhd (μ.1 3 p))) hd9 (f + 1)))) := by
  have h := gc_dearTiles d hd μ j hj hd9 f hf4 hS1 hf
  match f, hf4 with
  | 0, _ => rw [show decide (nI (1 + 0) ≤ (1 : Int32)) = true from by decide +kernel, cond_true] at h; exact h
  | 1, _ => rw [show decide (nI (1 + 1) ≤ (1 : Int32)) = false from by decide +kernel, cond_false, show decide (nI (1 + 1) ≤ (2 : Int32)) = true from by decide +kernel, cond_true] at h; exact h
  | 2, _ => rw [show decide (nI (1 + 2) ≤ (1 : Int32)) = false from by decide +kernel, cond_false, show decide (nI (1 + 2) ≤ (2 : Int32)) = false from by decide +kernel, cond_false, show decide (nI (1 + 2) ≤ (3 : Int32)) = true from by decide +kernel, cond_true] at h; exact h
  | 3, _ => rw [show decide (nI (1 + 3) ≤ (1 : Int32)) = false from by decide +kernel, cond_false, show decide (nI (1 + 3) ≤ (2 : Int32)) = false from by decide +kernel, cond_false, show decide (nI (1 + 3) ≤ (3 : Int32)) = false from by decide +kernel, cond_false, show decide (nI (1 + 3) ≤ (4 : Int32)) = true from by decide +kernel, cond_true] at h; exact h
  | 4, _ => rw [show decide (nI (1 + 4) ≤ (1 : Int32)) = false from by decide +kernel, cond_false, show decide (nI (1 + 4) ≤ (2 : Int32)) = false from by decide +kernel, cond_false, show decide (nI (1 + 4) ≤ (3 : Int32)) = false from by decide +kernel, cond_false, show decide (nI (1 + 4) ≤ (4 : Int32)) = false from by decide +kernel, cond_false] at h; exact h
  | n + 5, h9 => exact absurd h9 (by omega)
def TD9 (μ : zM) (i : Nat) (μ1 : zM) : Prop := (∀ k, k < i → μ1.1 58 k = μ.1 51 k) ∧ (∀ r k, r ≠ 58 → μ1.1 r k = μ.1 r k) ∧ μ1.2 = μ.2
theorem TD9.nx {μ μ1 : zM} {i : Nat} (h : TD9 μ i μ1) : TD9 μ (i + 1) (z_ui μ1 58 i (μ1.1 51 i)) := by
  refine ⟨fun k hk => ?_, fun r k hr => ?_, h.2.2⟩
  · by_cases e : k = i
    · subst e
      rw [ui_s]; exact h.2.1 51 _ (by decide)
    · rw [ui_k e]; exact h.1 k (by omega)
  · rw [ui_o hr]; exact h.2.1 r k hr
theorem nI_w26 {i : Nat} : 126 + (2 * (nI i)) = nI (126 + 2 * i) := by rw [show (2 : Int32) = nI 2 from rfl, show (126 : Int32) = nI 126 from rfl, nI_ml, nI_add]
theorem nI_w27 {i : Nat} : 127 + (2 * (nI i)) = nI (127 + 2 * i) := by rw [show (2 : Int32) = nI 2 from rfl, show (127 : Int32) = nI 127 from rfl, nI_ml, nI_add]
def dA (μ : zM) (W : Nat → Nat) (q p : Nat) : Int32 := ofv (μ.1 51 (bhd (nI (W p))).toNatClampNeg) (μ.1 52) (μ.1 53) (bhd (nI (W p))) q
theorem TD9.of {μ μ1 : zM} (h : TD9 μ 34 μ1) (d : Nat) (hd : 2 ≤ d) {q : Nat} (hq : q ≤ 4) (e4 : μ.1 50 4 = nI q) {W : Nat → Nat} {p : Nat} (hW : W p < 34) : z_C d mi_X7_of [.ref 50, .int (bhd (nI (W p)))] μ1 (zR μ1 (.int (dA μ W q p))) := by
  have e := fc_X7_of d hd μ1 (bhd (nI (W p))) (bhd_in _ hW) q hq (by rw [h.2.1 50 4 (by decide)]; exact e4)
  rw [h.1 _ (by have := bhd_in _ hW; exact in_lt this), show μ1.1 52 = μ.1 52 from funext fun k => h.2.1 52 k (by decide), show μ1.1 53 = μ.1 53 from funext fun k => h.2.1 53 k (by decide)] at e
  exact e
theorem kn_nlt {a b : Nat} (ha : a < 2147483648) (hb : b < 2147483648) (h : a < b) : decide (nI a < nI b) = true := decide_eq_true (by rw [Int32.lt_iff_toInt_lt, nI_toInt ha, nI_toInt hb]; omega)
theorem kn_nlg {a b : Nat} (ha : a < 2147483648) (hb : b < 2147483648) (h : b ≤ a) : decide (nI a < nI b) = false := decide_eq_false (by rw [Int32.lt_iff_toInt_lt, nI_toInt ha, nI_toInt hb]; omega)
theorem gm_dear0 (d : Nat) (hd : 3 ≤ d) (μ : zM) (q f : Nat) (hq : q ≤ 4) (e4 : μ.1 50 4 = nI q) (hf4 : f ≤ 4) (hf : μ.1 50 47 = nI f) (W : Nat → Nat) (hW : ∀ p, 126 ≤ p → p < 136 → μ.1 59 p = nI (W p) ∧ W p < 34) : z_C d mi_X7_dearTiles [.ref 50, .int 0] μ (fun r μ' => r = some (.int (deF (dA μ W q) false (f + 1))) ∧ TD9 μ 34 μ') := by
  refine z_C_in (by decide) (by omega) (fun d' Z ed hc hr => ?_)
  have hH : zH mi_X7_dearTiles zc_X7_dearTiles 79 7 4 := ⟨by rfl, by rfl, by rfl, by rfl⟩
  have hM : ∀ n i, i + n = f + 1 → ∀ μ1, TD9 μ 34 μ1 → Z 0 30 [(3, .int (nI i)), (2, .int (deF (dA μ W q) false i)), (0, .ref 50), (1, .int 0)] [] μ1 := by
    intro n
    induction n with
    | zero =>
      intro i hi μ1 g1
      have hi : i = f + 1 := by omega
      refine z_rcs hc hH 2 (pc' := 32) (lv' := [(3, .int (nI i)), (2, .int (deF (dA μ W q) false i)), (0, .ref 50), (1, .int 0)]) (st' := [.ref 50, .int (nI i)]) (μ' := μ1) (by rfl) ?_
      refine zq_gfi hc hH (by rfl) (ci := 6) (f := 47) (by rfl) (by decide +kernel) (by rfl) ?_
      rw [((g1.2.1 50 47 (by decide)).trans hf)]
      refine zq_ic hc hH (by rfl) (tg := 90) (by rfl) (fun h1 => ?_) (fun h1 => ?_)
      · have h1 : (decide ((nI f) < (nI i))) = true := decide_eq_true (cm_gt.mp h1)
        refine z_rcs hc hH 1 (pc' := 91) (lv' := [(3, .int (nI i)), (2, .int (deF (dA μ W q) false i)), (0, .ref 50), (1, .int 0)]) (st' := [.int (deF (dA μ W q) false i)]) (μ' := μ1) (by rfl) ?_
        exact hr 0 91 _ _ _ (some (.int (deF (dA μ W q) false i))) (by decide +kernel) (by rfl) (⟨by rw [hi], g1⟩)
      · have h1 : (decide ((nI f) < (nI i))) = false := decide_eq_false (cn_gt.mp h1)
        exact absurd (Eq.trans (Eq.symm (kn_nlt (by omega) (by omega) (by omega))) h1) (by decide)
    | succ n ih =>
      intro i hi μ1 g1
      refine z_rcs hc hH 2 (pc' := 32) (lv' := [(3, .int (nI i)), (2, .int (deF (dA μ W q) false i)), (0, .ref 50), (1, .int 0)]) (st' := [.ref 50, .int (nI i)]) (μ' := μ1) (by rfl) ?_
      refine zq_gfi hc hH (by rfl) (ci := 6) (f := 47) (by rfl) (by decide +kernel) (by rfl) ?_
      rw [((g1.2.1 50 47 (by decide)).trans hf)]
      refine zq_ic hc hH (by rfl) (tg := 90) (by rfl) (fun h1 => ?_) (fun h1 => ?_)
      · have h1 : (decide ((nI f) < (nI i))) = true := decide_eq_true (cm_gt.mp h1)
        exact absurd (Eq.trans (Eq.symm (kn_nlg (by omega) (by omega) (by omega))) h1) (by decide)
      · have h1 : (decide ((nI f) < (nI i))) = false := decide_eq_false (cn_gt.mp h1)
        refine z_rcs hc hH 3 (pc' := 41) (lv' := [(3, .int (nI i)), (2, .int (deF (dA μ W q) false i)), (0, .ref 50), (1, .int 0)]) (st' := [.ref 50, .ref 50, .int (deF (dA μ W q) false i)]) (μ' := μ1) (by rfl) ?_
        refine zq_gfr hc hH (by rfl) (ci := 6) (f := 27) (q := 59) (by rfl) (by decide +kernel) (by rfl) (by decide +kernel) ?_
        refine z_rcs hc hH 5 (pc' := 50) (lv' := [(3, .int (nI i)), (2, .int (deF (dA μ W q) false i)), (0, .ref 50), (1, .int 0)]) (st' := [.int (126 + (2 * (nI i))), .ref 59, .ref 50, .int (deF (dA μ W q) false i)]) (μ' := μ1) (by rfl) ?_
        rw [nI_w26]
        refine zq_iald hc hH (by rfl) 136 (oka_i (by decide +kernel)) (vp_in_nI (by omega) (by decide)) ?_
        rw [nI_clamp (by omega)]
        rw [((g1.2.1 59 _ (by decide)).trans (hW (126 + 2 * i) (by omega) (by omega)).1)]
        refine zq_call hc (by rfl) (gm_behind d' (by omega) μ1 (nI (W (126 + 2 * i)))) (by decide +kernel) (fun r9 μ9 hq => ?_)
        obtain ⟨hμ9, rfl⟩ := hq
        rw [hμ9]
        clear hμ9 μ9
        show Z 0 54 [(3, .int (nI i)), (2, .int (deF (dA μ W q) false i)), (0, .ref 50), (1, .int 0)] [.int (bhd (nI (W (126 + 2 * i)))), .ref 50, .int (deF (dA μ W q) false i)] μ1
        refine zq_call hc (by rfl) (g1.of d' (by omega) hq e4 (W := W) (p := 126 + 2 * i) (hW _ (by omega) (by omega)).2) (by decide +kernel) (fun r9 μ9 hq => ?_)
        obtain ⟨hμ9, rfl⟩ := hq
        rw [hμ9]
        clear hμ9 μ9
        show Z 0 57 [(3, .int (nI i)), (2, .int (deF (dA μ W q) false i)), (0, .ref 50), (1, .int 0)] [.int (dA μ W q (126 + 2 * i)), .int (deF (dA μ W q) false i)] μ1
        refine z_rcs hc hH 6 (pc' := 30) (lv' := [(3, .int ((nI i) + 1)), (2, .int ((deF (dA μ W q) false i) + (dA μ W q (126 + 2 * i)))), (0, .ref 50), (1, .int 0)]) (st' := []) (μ' := μ1) (by rfl) ?_
        have e9 := ih (i + 1) (by omega) _ g1
        rw [nI_s1]
        have e8 : deF (dA μ W q) false (i + 1) = (deF (dA μ W q) false i) + (dA μ W q (126 + 2 * i)) := Int32.add_zero _
        rw [← e8]
        exact e9
  have hL : ∀ n k, k + n = 34 → ∀ μ1, TD9 μ k μ1 → Z 0 2 [(2, .int (nI k)), (0, .ref 50), (1, .int 0)] [] μ1 := by
    intro n
    induction n with
    | zero =>
      intro k hk μ1 g1
      have hk : k = 34 := by omega
      subst hk
      refine z_rcs hc hH 2 (pc' := 5) (lv' := [(2, .int (nI 34)), (0, .ref 50), (1, .int 0)]) (st' := [.int 34, .int (nI 34)]) (μ' := μ1) (by rfl) ?_
      refine zq_ic hc hH (by rfl) (tg := 26) (by rfl) (fun h1 => ?_) (fun h1 => ?_)
      · have h1 : (decide (34 ≤ (nI 34))) = true := decide_eq_true (cm_ge.mp h1)
        refine z_rcs hc hH 4 (pc' := 30) (lv' := [(3, .int 0), (2, .int 0), (0, .ref 50), (1, .int 0)]) (st' := []) (μ' := μ1) (by rfl) ?_
        exact hM (f + 1) 0 (by omega) _ g1
      · have h1 : (decide (34 ≤ (nI 34))) = false := decide_eq_false (cn_ge.mp h1)
        exact absurd (Eq.trans (Eq.symm (kn_le2 (m := 34) rfl (by omega) (by omega))) h1) (by decide)
    | succ n ih =>
      intro k hk μ1 g1
      refine z_rcs hc hH 2 (pc' := 5) (lv' := [(2, .int (nI k)), (0, .ref 50), (1, .int 0)]) (st' := [.int 34, .int (nI k)]) (μ' := μ1) (by rfl) ?_
      refine zq_ic hc hH (by rfl) (tg := 26) (by rfl) (fun h1 => ?_) (fun h1 => ?_)
      · have h1 : (decide (34 ≤ (nI k))) = true := decide_eq_true (cm_ge.mp h1)
        exact absurd (Eq.trans (Eq.symm (kn_le (m := 34) rfl (by omega) (by omega))) h1) (by decide)
      · have h1 : (decide (34 ≤ (nI k))) = false := decide_eq_false (cn_ge.mp h1)
        refine z_rcs hc hH 1 (pc' := 9) (lv' := [(2, .int (nI k)), (0, .ref 50), (1, .int 0)]) (st' := [.ref 50]) (μ' := μ1) (by rfl) ?_
        refine zq_gfr hc hH (by rfl) (ci := 6) (f := 26) (q := 58) (by rfl) (by decide +kernel) (by rfl) (by decide +kernel) ?_
        refine z_rcs hc hH 2 (pc' := 14) (lv' := [(2, .int (nI k)), (0, .ref 50), (1, .int 0)]) (st' := [.ref 50, .int (nI k), .ref 58]) (μ' := μ1) (by rfl) ?_
        refine zq_gfr hc hH (by rfl) (ci := 6) (f := 1) (q := 51) (by rfl) (by decide +kernel) (by rfl) (by decide +kernel) ?_
        refine z_rcs hc hH 1 (pc' := 18) (lv' := [(2, .int (nI k)), (0, .ref 50), (1, .int 0)]) (st' := [.int (nI k), .ref 51, .int (nI k), .ref 58]) (μ' := μ1) (by rfl) ?_
        refine zq_iald hc hH (by rfl) 34 (oka_i (by decide +kernel)) (vp_in_nI (by omega) (by decide)) ?_
        rw [nI_clamp (by omega)]
        refine zq_iast hc hH (by rfl) 34 (oka_i (by decide +kernel)).2 (vp_in_nI (by omega) (by decide)) ?_
        rw [nI_clamp (by omega)]
        show Z 0 20 [(2, .int (nI k)), (0, .ref 50), (1, .int 0)] [] (z_ui μ1 58 k (μ1.1 51 k))
        refine z_rcs hc hH 2 (pc' := 2) (lv' := [(2, .int ((nI k) + 1)), (0, .ref 50), (1, .int 0)]) (st' := []) (μ' := z_ui μ1 58 k (μ1.1 51 k)) (by rfl) ?_
        have e9 := ih (k + 1) (by omega) _ g1.nx
        rw [nI_s1]
        exact e9
  exact z_rcs hc hH 2 (pc' := 2) (lv' := [(2, .int (nI 0)), (0, .ref 50), (1, .int 0)]) (st' := []) (μ' := μ) (by rfl) (hL 34 0 (by omega) μ ⟨fun k hk => absurd hk (by omega), fun _ _ _ => rfl, rfl⟩)
theorem gm_dear1 (d : Nat) (hd : 3 ≤ d) (μ : zM) (q f : Nat) (hq : q ≤ 4) (e4 : μ.1 50 4 = nI q) (hf4 : f ≤ 4) (hf : μ.1 50 47 = nI f) (W : Nat → Nat) (hW : ∀ p, 126 ≤ p → p < 136 → μ.1 59 p = nI (W p) ∧ W p < 34) : z_C d mi_X7_dearTiles [.ref 50, .int 1] μ (fun r μ' => r = some (.int (deF (dA μ W q) true (f + 1))) ∧ TD9 μ 34 μ') := by
  refine z_C_in (by decide) (by omega) (fun d' Z ed hc hr => ?_)
  have hH : zH mi_X7_dearTiles zc_X7_dearTiles 79 7 4 := ⟨by rfl, by rfl, by rfl, by rfl⟩
  have hM : ∀ n i, i + n = f + 1 → ∀ μ1, TD9 μ 34 μ1 → Z 0 30 [(3, .int (nI i)), (2, .int (deF (dA μ W q) true i)), (0, .ref 50), (1, .int 1)] [] μ1 := by
    intro n
    induction n with
    | zero =>
      intro i hi μ1 g1
      have hi : i = f + 1 := by omega
      refine z_rcs hc hH 2 (pc' := 32) (lv' := [(3, .int (nI i)), (2, .int (deF (dA μ W q) true i)), (0, .ref 50), (1, .int 1)]) (st' := [.ref 50, .int (nI i)]) (μ' := μ1) (by rfl) ?_
      refine zq_gfi hc hH (by rfl) (ci := 6) (f := 47) (by rfl) (by decide +kernel) (by rfl) ?_
      rw [((g1.2.1 50 47 (by decide)).trans hf)]
      refine zq_ic hc hH (by rfl) (tg := 90) (by rfl) (fun h1 => ?_) (fun h1 => ?_)
      · have h1 : (decide ((nI f) < (nI i))) = true := decide_eq_true (cm_gt.mp h1)
        refine z_rcs hc hH 1 (pc' := 91) (lv' := [(3, .int (nI i)), (2, .int (deF (dA μ W q) true i)), (0, .ref 50), (1, .int 1)]) (st' := [.int (deF (dA μ W q) true i)]) (μ' := μ1) (by rfl) ?_
        exact hr 0 91 _ _ _ (some (.int (deF (dA μ W q) true i))) (by decide +kernel) (by rfl) (⟨by rw [hi], g1⟩)
      · have h1 : (decide ((nI f) < (nI i))) = false := decide_eq_false (cn_gt.mp h1)
        exact absurd (Eq.trans (Eq.symm (kn_nlt (by omega) (by omega) (by omega))) h1) (by decide)
    | succ n ih =>
      intro i hi μ1 g1
      refine z_rcs hc hH 2 (pc' := 32) (lv' := [(3, .int (nI i)), (2, .int (deF (dA μ W q) true i)), (0, .ref 50), (1, .int 1)]) (st' := [.ref 50, .int (nI i)]) (μ' := μ1) (by rfl) ?_
      refine zq_gfi hc hH (by rfl) (ci := 6) (f := 47) (by rfl) (by decide +kernel) (by rfl) ?_
      rw [((g1.2.1 50 47 (by decide)).trans hf)]
      refine zq_ic hc hH (by rfl) (tg := 90) (by rfl) (fun h1 => ?_) (fun h1 => ?_)
      · have h1 : (decide ((nI f) < (nI i))) = true := decide_eq_true (cm_gt.mp h1)
        exact absurd (Eq.trans (Eq.symm (kn_nlg (by omega) (by omega) (by omega))) h1) (by decide)
      · have h1 : (decide ((nI f) < (nI i))) = false := decide_eq_false (cn_gt.mp h1)
        refine z_rcs hc hH 3 (pc' := 41) (lv' := [(3, .int (nI i)), (2, .int (deF (dA μ W q) true i)), (0, .ref 50), (1, .int 1)]) (st' := [.ref 50, .ref 50, .int (deF (dA μ W q) true i)]) (μ' := μ1) (by rfl) ?_
        refine zq_gfr hc hH (by rfl) (ci := 6) (f := 27) (q := 59) (by rfl) (by decide +kernel) (by rfl) (by decide +kernel) ?_
        refine z_rcs hc hH 5 (pc' := 50) (lv' := [(3, .int (nI i)), (2, .int (deF (dA μ W q) true i)), (0, .ref 50), (1, .int 1)]) (st' := [.int (126 + (2 * (nI i))), .ref 59, .ref 50, .int (deF (dA μ W q) true i)]) (μ' := μ1) (by rfl) ?_
        rw [nI_w26]
        refine zq_iald hc hH (by rfl) 136 (oka_i (by decide +kernel)) (vp_in_nI (by omega) (by decide)) ?_
        rw [nI_clamp (by omega)]
        rw [((g1.2.1 59 _ (by decide)).trans (hW (126 + 2 * i) (by omega) (by omega)).1)]
        refine zq_call hc (by rfl) (gm_behind d' (by omega) μ1 (nI (W (126 + 2 * i)))) (by decide +kernel) (fun r9 μ9 hq => ?_)
        obtain ⟨hμ9, rfl⟩ := hq
        rw [hμ9]
        clear hμ9 μ9
        show Z 0 54 [(3, .int (nI i)), (2, .int (deF (dA μ W q) true i)), (0, .ref 50), (1, .int 1)] [.int (bhd (nI (W (126 + 2 * i)))), .ref 50, .int (deF (dA μ W q) true i)] μ1
        refine zq_call hc (by rfl) (g1.of d' (by omega) hq e4 (W := W) (p := 126 + 2 * i) (hW _ (by omega) (by omega)).2) (by decide +kernel) (fun r9 μ9 hq => ?_)
        obtain ⟨hμ9, rfl⟩ := hq
        rw [hμ9]
        clear hμ9 μ9
        show Z 0 57 [(3, .int (nI i)), (2, .int (deF (dA μ W q) true i)), (0, .ref 50), (1, .int 1)] [.int (dA μ W q (126 + 2 * i)), .int (deF (dA μ W q) true i)] μ1
        refine z_rcs hc hH 7 (pc' := 66) (lv' := [(2, .int ((deF (dA μ W q) true i) + (dA μ W q (126 + 2 * i)))), (3, .int (nI i)), (0, .ref 50), (1, .int 1)]) (st' := [.ref 50, .ref 50, .int ((deF (dA μ W q) true i) + (dA μ W q (126 + 2 * i)))]) (μ' := μ1) (by rfl) ?_
        refine zq_gfr hc hH (by rfl) (ci := 6) (f := 27) (q := 59) (by rfl) (by decide +kernel) (by rfl) (by decide +kernel) ?_
        refine z_rcs hc hH 5 (pc' := 75) (lv' := [(2, .int ((deF (dA μ W q) true i) + (dA μ W q (126 + 2 * i)))), (3, .int (nI i)), (0, .ref 50), (1, .int 1)]) (st' := [.int (127 + (2 * (nI i))), .ref 59, .ref 50, .int ((deF (dA μ W q) true i) + (dA μ W q (126 + 2 * i)))]) (μ' := μ1) (by rfl) ?_
        rw [nI_w27]
        refine zq_iald hc hH (by rfl) 136 (oka_i (by decide +kernel)) (vp_in_nI (by omega) (by decide)) ?_
        rw [nI_clamp (by omega)]
        rw [((g1.2.1 59 _ (by decide)).trans (hW (127 + 2 * i) (by omega) (by omega)).1)]
        refine zq_call hc (by rfl) (gm_behind d' (by omega) μ1 (nI (W (127 + 2 * i)))) (by decide +kernel) (fun r9 μ9 hq => ?_)
        obtain ⟨hμ9, rfl⟩ := hq
        rw [hμ9]
        clear hμ9 μ9
        show Z 0 79 [(2, .int ((deF (dA μ W q) true i) + (dA μ W q (126 + 2 * i)))), (3, .int (nI i)), (0, .ref 50), (1, .int 1)] [.int (bhd (nI (W (127 + 2 * i)))), .ref 50, .int ((deF (dA μ W q) true i) + (dA μ W q (126 + 2 * i)))] μ1
        refine zq_call hc (by rfl) (g1.of d' (by omega) hq e4 (W := W) (p := 127 + 2 * i) (hW _ (by omega) (by omega)).2) (by decide +kernel) (fun r9 μ9 hq => ?_)
        obtain ⟨hμ9, rfl⟩ := hq
        rw [hμ9]
        clear hμ9 μ9
        show Z 0 82 [(2, .int ((deF (dA μ W q) true i) + (dA μ W q (126 + 2 * i)))), (3, .int (nI i)), (0, .ref 50), (1, .int 1)] [.int (dA μ W q (127 + 2 * i)), .int ((deF (dA μ W q) true i) + (dA μ W q (126 + 2 * i)))] μ1
        refine z_rcs hc hH 4 (pc' := 30) (lv' := [(3, .int ((nI i) + 1)), (2, .int (((deF (dA μ W q) true i) + (dA μ W q (126 + 2 * i))) + (dA μ W q (127 + 2 * i)))), (0, .ref 50), (1, .int 1)]) (st' := []) (μ' := μ1) (by rfl) ?_
        have e9 := ih (i + 1) (by omega) _ g1
        rw [nI_s1]
        exact e9
  have hL : ∀ n k, k + n = 34 → ∀ μ1, TD9 μ k μ1 → Z 0 2 [(2, .int (nI k)), (0, .ref 50), (1, .int 1)] [] μ1 := by
    intro n
    induction n with
    | zero =>
      intro k hk μ1 g1
      have hk : k = 34 := by omega
      subst hk
      refine z_rcs hc hH 2 (pc' := 5) (lv' := [(2, .int (nI 34)), (0, .ref 50), (1, .int 1)]) (st' := [.int 34, .int (nI 34)]) (μ' := μ1) (by rfl) ?_
      refine zq_ic hc hH (by rfl) (tg := 26) (by rfl) (fun h1 => ?_) (fun h1 => ?_)
      · have h1 : (decide (34 ≤ (nI 34))) = true := decide_eq_true (cm_ge.mp h1)
        refine z_rcs hc hH 4 (pc' := 30) (lv' := [(3, .int 0), (2, .int 0), (0, .ref 50), (1, .int 1)]) (st' := []) (μ' := μ1) (by rfl) ?_
        exact hM (f + 1) 0 (by omega) _ g1
      · have h1 : (decide (34 ≤ (nI 34))) = false := decide_eq_false (cn_ge.mp h1)
        exact absurd (Eq.trans (Eq.symm (kn_le2 (m := 34) rfl (by omega) (by omega))) h1) (by decide)
    | succ n ih =>
      intro k hk μ1 g1
      refine z_rcs hc hH 2 (pc' := 5) (lv' := [(2, .int (nI k)), (0, .ref 50), (1, .int 1)]) (st' := [.int 34, .int (nI k)]) (μ' := μ1) (by rfl) ?_
      refine zq_ic hc hH (by rfl) (tg := 26) (by rfl) (fun h1 => ?_) (fun h1 => ?_)
      · have h1 : (decide (34 ≤ (nI k))) = true := decide_eq_true (cm_ge.mp h1)
        exact absurd (Eq.trans (Eq.symm (kn_le (m := 34) rfl (by omega) (by omega))) h1) (by decide)
      · have h1 : (decide (34 ≤ (nI k))) = false := decide_eq_false (cn_ge.mp h1)
        refine z_rcs hc hH 1 (pc' := 9) (lv' := [(2, .int (nI k)), (0, .ref 50), (1, .int 1)]) (st' := [.ref 50]) (μ' := μ1) (by rfl) ?_
        refine zq_gfr hc hH (by rfl) (ci := 6) (f := 26) (q := 58) (by rfl) (by decide +kernel) (by rfl) (by decide +kernel) ?_
        refine z_rcs hc hH 2 (pc' := 14) (lv' := [(2, .int (nI k)), (0, .ref 50), (1, .int 1)]) (st' := [.ref 50, .int (nI k), .ref 58]) (μ' := μ1) (by rfl) ?_
        refine zq_gfr hc hH (by rfl) (ci := 6) (f := 1) (q := 51) (by rfl) (by decide +kernel) (by rfl) (by decide +kernel) ?_
        refine z_rcs hc hH 1 (pc' := 18) (lv' := [(2, .int (nI k)), (0, .ref 50), (1, .int 1)]) (st' := [.int (nI k), .ref 51, .int (nI k), .ref 58]) (μ' := μ1) (by rfl) ?_
        refine zq_iald hc hH (by rfl) 34 (oka_i (by decide +kernel)) (vp_in_nI (by omega) (by decide)) ?_
        rw [nI_clamp (by omega)]
        refine zq_iast hc hH (by rfl) 34 (oka_i (by decide +kernel)).2 (vp_in_nI (by omega) (by decide)) ?_
        rw [nI_clamp (by omega)]
        show Z 0 20 [(2, .int (nI k)), (0, .ref 50), (1, .int 1)] [] (z_ui μ1 58 k (μ1.1 51 k))
        refine z_rcs hc hH 2 (pc' := 2) (lv' := [(2, .int ((nI k) + 1)), (0, .ref 50), (1, .int 1)]) (st' := []) (μ' := z_ui μ1 58 k (μ1.1 51 k)) (by rfl) ?_
        have e9 := ih (k + 1) (by omega) _ g1.nx
        rw [nI_s1]
        exact e9
  exact z_rcs hc hH 2 (pc' := 2) (lv' := [(2, .int (nI 0)), (0, .ref 50), (1, .int 1)]) (st' := []) (μ' := μ) (by rfl) (hL 34 0 (by omega) μ ⟨fun k hk => absurd hk (by omega), fun _ _ _ => rfl, rfl⟩)
theorem gm_dearH (d : Nat) (hd : 695 ≤ d) (μ : zM) (hH : a_H μ) (b : Bool) (q f : Nat) (hq : q ≤ 4) (e4 : μ.1 50 4 = nI q) (hf4 : f ≤ 4) (hf : μ.1 50 47 = nI f) (W : Nat → Nat) (hW : ∀ p, 126 ≤ p → p < 136 → μ.1 59 p = nI (W p) ∧ W p < 34) : z_C d mi_X7_dearTiles [.ref 50, .int (nB b)] μ (fun r μ' => (r = some (.int (deF (dA μ W q) b (f + 1))) ∧ TD9 μ 34 μ') ∧ a_H μ') := by
  cases b with
  | false => exact z_C_mono (zC_and d (gm_dear0 d (by omega) μ q f hq e4 hf4 hf W hW) (a_use (i := 120) (K := ak_120) rfl hd [.ref 50, .int 0] μ (aArg_pre ⟨⟨50, by decide, rfl⟩, ⟨_, rfl, by decide, by decide⟩, trivial⟩ rfl) hH)) (fun r μ' q => ⟨q.1, q.2.1⟩)
  | true => exact z_C_mono (zC_and d (gm_dear1 d (by omega) μ q f hq e4 hf4 hf W hW) (a_use (i := 120) (K := ak_120) rfl hd [.ref 50, .int 1] μ (aArg_pre ⟨⟨50, by decide, rfl⟩, ⟨_, rfl, by decide, by decide⟩, trivial⟩ rfl) hH)) (fun r μ' q => ⟨q.1, q.2.1⟩)

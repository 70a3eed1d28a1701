/-! exact contracts: the model's desk -/
theorem z_ui_rd (μ : zM) (r k : Nat) (x : Int32) (r' k' : Nat) : (z_ui μ r k x).1 r' k' = if r' = r ∧ k' = k then x else μ.1 r' k' := by
  by_cases hr : r' = r
  · subst hr
    rw [z_ui_at]
    by_cases hk : k' = k
    · rw [if_pos hk, if_pos ⟨rfl, hk⟩]
    · rw [if_neg hk, if_neg (fun h => hk h.2)]
  · rw [z_ui_ne hr, if_neg (fun h => hr h.1)]
theorem z_ui_2 (μ : zM) (r k : Nat) (x : Int32) : (z_ui μ r k x).2 = μ.2 := rfl
def sm (f : Nat → Int32) : Nat → Int32
  | 0 => 0
  | n + 1 => sm f n + f n
theorem ge_nI {i n : Nat} (h : i < n) (hn : n < 2 ^ 31) : z_cmp .ge (nI i) (nI n) = false := cn_ge.mpr (nI_ge h hn)
theorem ge_nIt {i n : Nat} (h : n ≤ i) (hi : i < 2 ^ 31) : z_cmp .ge (nI i) (nI n) = true := cm_ge.mpr (nI_le h hi)
theorem zh_X7_inHand : zH mi_X7_inHand zt_X7_inHand 79 7 3 := hh_X7_inHand
theorem fc_X7_inHand (d : Nat) (hd : 1 ≤ d) (μ : zM) : z_C d mi_X7_inHand [.ref 50] μ (zR μ (.int (sm (μ.1 51) 34))) := by
  refine z_C_in (by decide) (by omega) (fun d' Z ed hc hr => ?_)
  have hH := zh_X7_inHand
  have lp : ∀ (n i : Nat), i + n = 34 → Z 0 4 [(2, .int (nI i)), (1, .int (sm (μ.1 51) i)), (0, .ref 50)] [] μ := by
    intro n
    induction n with
    | zero =>
      intro i hi
      have hi : i = 34 := by omega
      subst hi
      refine z_rcs hc hH 2 (pc' := 7) (lv' := [(2, .int (nI 34)), (1, .int (sm (μ.1 51) 34)), (0, .ref 50)]) (st' := [.int 34, .int (nI 34)]) (μ' := μ) (by rfl) ?_
      refine zq_ic hc hH (by rfl) (tg := 25) (by rfl) (fun _ => ?_) (fun h9 => (zb_t (ge_nIt (n := 34) (i := 34) (by decide) (by decide)) h9).elim)
      refine z_rcs hc hH 1 (pc' := 26) (lv' := [(2, .int (nI 34)), (1, .int (sm (μ.1 51) 34)), (0, .ref 50)]) (st' := [.int (sm (μ.1 51) 34)]) (μ' := μ) (by rfl) ?_
      exact hr 0 26 _ _ _ (some (.int (sm (μ.1 51) 34))) (by decide +kernel) (z_rx_ok hH (by rfl)) (⟨rfl, rfl⟩)
    | succ n ih =>
      intro i hi
      have hin : vp_in (nI i) 34 := vp_in_nI (by omega) (by decide)
      refine z_rcs hc hH 2 (pc' := 7) (lv' := [(2, .int (nI i)), (1, .int (sm (μ.1 51) i)), (0, .ref 50)]) (st' := [.int 34, .int (nI i)]) (μ' := μ) (by rfl) ?_
      refine zq_ic hc hH (by rfl) (tg := 25) (by rfl) (fun h9 => (zb_t h9 (ge_nI (n := 34) (i := i) (by omega) (by decide))).elim) (fun _ => ?_)
      refine z_rcs hc hH 4 (pc' := 16) (lv' := [(2, .int (nI i)), (1, .int (sm (μ.1 51) i)), (0, .ref 50)]) (st' := [.int (nI i), .ref 51, .int (sm (μ.1 51) i)]) (μ' := μ) (by rfl) ?_
      refine zq_iald hc hH (by rfl) 34 (by decide +kernel) (hin) ?_
      refine z_rcs hc hH 4 (pc' := 4) (lv' := [(2, .int ((nI i) + 1)), (1, .int ((sm (μ.1 51) i) + (μ.1 51 (nI i).toNatClampNeg))), (0, .ref 50)]) (st' := []) (μ' := μ) (by rfl) ?_
      rw [nI_clamp (by omega), nI_1]
      exact ih (i + 1) (by omega)
  refine z_rcs hc hH 4 (pc' := 4) (lv' := [(2, .int 0), (1, .int 0), (0, .ref 50)]) (st' := []) (μ' := μ) (by rfl) ?_
  exact lp 34 0 rfl
/-- the model's reckoning holds the desk -/
def zTD (μ μ' : zM) : Prop := (∀ k, k < 34 → μ'.1 51 k = μ.1 74 k ∧ μ'.1 58 k = μ.1 74 k) ∧ μ'.1 50 4 = μ.1 50 66 ∧ (∀ i, i < (μ.1 50 66).toNatClampNeg → μ'.1 52 i = μ.1 75 i ∧ μ'.1 53 i = μ.1 76 i) ∧ (∀ r k, r ≠ 51 → r ≠ 52 → r ≠ 53 → r ≠ 58 → ¬ (r = 50 ∧ k = 4) → μ'.1 r k = μ.1 r k) ∧ μ'.2 = μ.2
def zTD1 (μ : zM) (i : Nat) (μ' : zM) : Prop := (∀ k, k < i → μ'.1 51 k = μ.1 74 k ∧ μ'.1 58 k = μ.1 74 k) ∧ (∀ r k, r ≠ 51 → r ≠ 58 → μ'.1 r k = μ.1 r k) ∧ μ'.2 = μ.2
theorem zTD1.nx {μ μ' : zM} {i : Nat} (h : zTD1 μ i μ') : zTD1 μ (i + 1) (z_ui (z_ui μ' 51 i (μ'.1 74 i)) 58 i ((z_ui μ' 51 i (μ'.1 74 i)).1 74 i)) := by
  obtain ⟨h1, h2, h3⟩ := h
  refine ⟨fun k hk => ?_, fun r k r1 r2 => ?_, h3⟩
  · simp only [z_ui_rd]
    have e := h2 74 i (by decide) (by decide)
    by_cases hki : k = i
    · subst hki
      simp [e]
    · have := h1 k (by omega)
      simp [hki, this]
  · simp only [z_ui_rd]
    simp [r1, r2, h2 r k r1 r2]
def zTD2 (μ : zM) (i : Nat) (μ' : zM) : Prop := (∀ k, k < 34 → μ'.1 51 k = μ.1 74 k ∧ μ'.1 58 k = μ.1 74 k) ∧ μ'.1 50 4 = μ.1 50 66 ∧ (∀ k, k < i → μ'.1 52 k = μ.1 75 k ∧ μ'.1 53 k = μ.1 76 k) ∧ (∀ r k, r ≠ 51 → r ≠ 52 → r ≠ 53 → r ≠ 58 → ¬ (r = 50 ∧ k = 4) → μ'.1 r k = μ.1 r k) ∧ μ'.2 = μ.2
theorem zTD2.nx {μ μ' : zM} {i : Nat} (h : zTD2 μ i μ') : zTD2 μ (i + 1) (z_ui (z_ui μ' 52 i (μ'.1 75 i)) 53 i ((z_ui μ' 52 i (μ'.1 75 i)).1 76 i)) := by
  obtain ⟨h1, h2, h3, h4, h5⟩ := h
  refine ⟨fun k hk => ?_, ?_, fun k hk => ?_, fun r k r1 r2 r3 r4 r5 => ?_, h5⟩
  · simp only [z_ui_rd]
    simpa using h1 k hk
  · simp only [z_ui_rd]
    simpa using h2
  · simp only [z_ui_rd]
    have e1 := h4 75 i (by decide) (by decide) (by decide) (by decide) (by omega)
    have e2 := h4 76 i (by decide) (by decide) (by decide) (by decide) (by omega)
    by_cases hki : k = i
    · subst hki
      simp [e1, e2]
    · have := h3 k (by omega)
      simp [hki, this]
  · simp only [z_ui_rd]
    simp [r2, r3, h4 r k r1 r2 r3 r4 r5]
theorem zh_X7_takeDesk : zH mi_X7_takeDesk zt_X7_takeDesk 79 7 2 := hh_X7_takeDesk
theorem fc_X7_takeDesk (d : Nat) (hd : 1 ≤ d) (μ : zM) (s : Nat) (hs : s ≤ 4) (es : μ.1 50 66 = nI s) : z_C d mi_X7_takeDesk [.ref 50] μ (fun r μ' => r = none ∧ zTD μ μ') := by
  refine z_C_in (by decide) (by omega) (fun d' Z ed hc hr => ?_)
  have hH := zh_X7_takeDesk
  have lp2 : ∀ (n i : Nat), i + n = s → ∀ μ1, zTD2 μ i μ1 → Z 0 48 [(1, .int (nI i)), (0, .ref 50)] [] μ1 := by
    intro n
    induction n with
    | zero =>
      intro i hi μ1 h1
      have hi : i = s := by omega
      subst hi
      refine z_rcs hc hH 3 (pc' := 53) (lv' := [(1, .int (nI i)), (0, .ref 50)]) (st' := [.int (μ1.1 50 66), .int (nI i)]) (μ' := μ1) (by rfl) ?_
      refine zq_ic hc hH (by rfl) (tg := 86) (by rfl) (fun _ => ?_) (fun h9 => (zb_t (by rw [h1.2.2.2.1 50 66 (by decide) (by decide) (by decide) (by decide) (by decide), es]; exact ge_nIt (Nat.le_refl _) (by omega)) h9).elim)
      exact hr 0 86 _ _ _ none (by decide +kernel) (by rfl) (⟨rfl, h1.1, h1.2.1, by rw [es, nI_clamp (by omega)]; exact h1.2.2.1, h1.2.2.2⟩)
    | succ n ih =>
      intro i hi μ1 h1
      have hin4 : vp_in (nI i) 4 := vp_in_nI (by omega) (by decide)
      have hin8 : vp_in (nI i) 8 := vp_in_nI (by omega) (by decide)
      refine z_rcs hc hH 3 (pc' := 53) (lv' := [(1, .int (nI i)), (0, .ref 50)]) (st' := [.int (μ1.1 50 66), .int (nI i)]) (μ' := μ1) (by rfl) ?_
      refine zq_ic hc hH (by rfl) (tg := 86) (by rfl) (fun h9 => (zb_t h9 (by rw [h1.2.2.2.1 50 66 (by decide) (by decide) (by decide) (by decide) (by decide), es]; exact ge_nI (by omega) (by omega))).elim) (fun _ => ?_)
      refine z_rcs hc hH 6 (pc' := 66) (lv' := [(1, .int (nI i)), (0, .ref 50)]) (st' := [.int (nI i), .ref 75, .int (nI i), .ref 52]) (μ' := μ1) (by rfl) ?_
      refine zq_iald hc hH (by rfl) 4 (by decide +kernel) (hin4) ?_
      refine zq_iast hc hH (by rfl) 8 (by decide +kernel) (hin8) ?_
      refine z_rcs hc hH 6 (pc' := 78) (lv' := [(1, .int (nI i)), (0, .ref 50)]) (st' := [.int (nI i), .ref 76, .int (nI i), .ref 53]) (μ' := z_ui μ1 52 ((nI i).toNatClampNeg) (μ1.1 75 (nI i).toNatClampNeg)) (by rfl) ?_
      refine zq_iald hc hH (by rfl) 4 (by decide +kernel) (hin4) ?_
      refine zq_iast hc hH (by rfl) 8 (by decide +kernel) (hin8) ?_
      refine z_rcs hc hH 2 (pc' := 48) (lv' := [(1, .int ((nI i) + 1)), (0, .ref 50)]) (st' := []) (μ' := z_ui (z_ui μ1 52 ((nI i).toNatClampNeg) (μ1.1 75 (nI i).toNatClampNeg)) 53 ((nI i).toNatClampNeg) ((z_ui μ1 52 ((nI i).toNatClampNeg) (μ1.1 75 (nI i).toNatClampNeg)).1 76 (nI i).toNatClampNeg)) (by rfl) ?_
      have q := ih (i + 1) (by omega) _ h1.nx
      rw [nI_clamp (by omega), nI_1]
      exact q
  have lp1 : ∀ (n i : Nat), i + n = 34 → ∀ μ1, zTD1 μ i μ1 → Z 0 2 [(1, .int (nI i)), (0, .ref 50)] [] μ1 := by
    intro n
    induction n with
    | zero =>
      intro i hi μ1 h1
      have hi : i = 34 := by omega
      subst hi
      refine z_rcs hc hH 2 (pc' := 5) (lv' := [(1, .int (nI 34)), (0, .ref 50)]) (st' := [.int 34, .int (nI 34)]) (μ' := μ1) (by rfl) ?_
      refine zq_ic hc hH (by rfl) (tg := 38) (by rfl) (fun _ => ?_) (fun h9 => (zb_t (ge_nIt (n := 34) (i := 34) (by decide) (by decide)) h9).elim)
      refine z_rcs hc hH 6 (pc' := 48) (lv' := [(1, .int 0), (0, .ref 50)]) (st' := []) (μ' := z_ui μ1 50 4 (μ1.1 50 66)) (by rfl) ?_
      refine lp2 s 0 (by omega) _ ?_
      obtain ⟨a1, a2, a3⟩ := h1
      refine ⟨fun k hk => ?_, ?_, fun k hk => absurd hk (by omega), fun r k r1 r2 r3 r4 r5 => ?_, a3⟩
      · simp only [z_ui_rd]
        simpa using a1 k hk
      · simp only [z_ui_rd]
        simpa using a2 50 66 (by decide) (by decide)
      · simp only [z_ui_rd]
        rw [if_neg r5]
        exact a2 r k r1 r4
    | succ n ih =>
      intro i hi μ1 h1
      have hin : vp_in (nI i) 34 := vp_in_nI (by omega) (by decide)
      refine z_rcs hc hH 2 (pc' := 5) (lv' := [(1, .int (nI i)), (0, .ref 50)]) (st' := [.int 34, .int (nI i)]) (μ' := μ1) (by rfl) ?_
      refine zq_ic hc hH (by rfl) (tg := 38) (by rfl) (fun h9 => (zb_t h9 (ge_nI (n := 34) (i := i) (by omega) (by decide))).elim) (fun _ => ?_)
      refine z_rcs hc hH 6 (pc' := 18) (lv' := [(1, .int (nI i)), (0, .ref 50)]) (st' := [.int (nI i), .ref 74, .int (nI i), .ref 51]) (μ' := μ1) (by rfl) ?_
      refine zq_iald hc hH (by rfl) 34 (by decide +kernel) (hin) ?_
      refine zq_iast hc hH (by rfl) 34 (by decide +kernel) (hin) ?_
      refine z_rcs hc hH 6 (pc' := 30) (lv' := [(1, .int (nI i)), (0, .ref 50)]) (st' := [.int (nI i), .ref 74, .int (nI i), .ref 58]) (μ' := z_ui μ1 51 ((nI i).toNatClampNeg) (μ1.1 74 (nI i).toNatClampNeg)) (by rfl) ?_
      refine zq_iald hc hH (by rfl) 34 (by decide +kernel) (hin) ?_
      refine zq_iast hc hH (by rfl) 34 (by decide +kernel) (hin) ?_
      refine z_rcs hc hH 2 (pc' := 2) (lv' := [(1, .int ((nI i) + 1)), (0, .ref 50)]) (st' := []) (μ' := z_ui (z_ui μ1 51 ((nI i).toNatClampNeg) (μ1.1 74 (nI i).toNatClampNeg)) 58 ((nI i).toNatClampNeg) ((z_ui μ1 51 ((nI i).toNatClampNeg) (μ1.1 74 (nI i).toNatClampNeg)).1 74 (nI i).toNatClampNeg)) (by rfl) ?_
      have q := ih (i + 1) (by omega) _ h1.nx
      rw [nI_clamp (by omega), nI_1]
      exact q
  refine z_rcs hc hH 2 (pc' := 2) (lv' := [(1, .int 0), (0, .ref 50)]) (st' := []) (μ' := μ) (by rfl) ?_
  exact lp1 34 0 rfl μ ⟨fun k hk => absurd hk (by omega), fun _ _ _ _ => rfl, rfl⟩
theorem zh_X7_has : zH mi_X7_has zt_X7_has 79 7 3 := hh_X7_has
theorem fc_X7_has (d : Nat) (hd : 1 ≤ d) (μ : zM) (lo k : Int32) : z_C d mi_X7_has [.int 0, .int lo, .int k] μ (zB μ (lo ≤ k ∧ k ≤ lo + 2)) := by
  refine z_C_in (by decide) (by omega) (fun d' Z ed hc hr => ?_)
  have hH := zh_X7_has
  refine z_rcs hc hH 4 (pc' := 6) (lv' := [(0, .int 0), (1, .int lo), (2, .int k)]) (st' := [.int lo, .int k]) (μ' := μ) (by rfl) ?_
  refine zq_ic hc hH (by rfl) (tg := 20) (by rfl) (fun h1 => ?_) (fun h1 => ?_)
  · have h1 := cm_lt.mp h1
    refine z_rcs hc hH 2 (pc' := 34) (lv' := [(0, .int 0), (1, .int lo), (2, .int k)]) (st' := [.int 0]) (μ' := μ) (by rfl) ?_
    exact hr 0 34 _ _ _ (some (.int 0)) (by decide +kernel) (z_rx_ok hH (by rfl)) (⟨rfl, Or.inr ⟨rfl, fun q => by first | exact absurd q.1 (Int32.not_le.mpr h1) | exact h1 q.1⟩⟩)
  · have h1 := cn_lt.mp h1
    refine z_rcs hc hH 4 (pc' := 13) (lv' := [(0, .int 0), (1, .int lo), (2, .int k)]) (st' := [.int (lo + 2), .int k]) (μ' := μ) (by rfl) ?_
    refine zq_ic hc hH (by rfl) (tg := 20) (by rfl) (fun h2 => ?_) (fun h2 => ?_)
    · have h2 := cm_gt.mp h2
      refine z_rcs hc hH 2 (pc' := 34) (lv' := [(0, .int 0), (1, .int lo), (2, .int k)]) (st' := [.int 0]) (μ' := μ) (by rfl) ?_
      exact hr 0 34 _ _ _ (some (.int 0)) (by decide +kernel) (z_rx_ok hH (by rfl)) (⟨rfl, Or.inr ⟨rfl, fun q => by first | exact absurd q.2 (Int32.not_le.mpr h2) | exact h2 q.2⟩⟩)
    · have h2 := cn_gt.mp h2
      refine z_rcs hc hH 2 (pc' := 34) (lv' := [(0, .int 0), (1, .int lo), (2, .int k)]) (st' := [.int 1]) (μ' := μ) (by rfl) ?_
      exact hr 0 34 _ _ _ (some (.int 1)) (by decide +kernel) (z_rx_ok hH (by rfl)) (⟨rfl, Or.inl ⟨rfl, by simpa using h1, by simpa using h2⟩⟩)
/-- what a SET holds of a KIND -/
def ct (s l k : Int32) : Int32 := if s = 0 then (if l ≤ k ∧ k ≤ l + 2 then 1 else 0) else if l = k then (if s = 1 then 3 else 4) else 0
def ofv (w : Int32) (so lo : Nat → Int32) (k : Int32) : Nat → Int32
  | 0 => w
  | i + 1 => ofv w so lo k i + ct (so i) (lo i) k
theorem ct_z1 {s l k : Int32} (h0 : s = 0) (h : l ≤ k ∧ k ≤ l + 2) : ct s l k = 1 := by unfold ct; rw [if_pos h0, if_pos h]
theorem ct_z0 {s l k : Int32} (h0 : s = 0) (h : ¬ (l ≤ k ∧ k ≤ l + 2)) : ct s l k = 0 := by unfold ct; rw [if_pos h0, if_neg h]
theorem ct_n {s l k : Int32} (h0 : ¬ s = 0) (h : ¬ l = k) : ct s l k = 0 := by unfold ct; rw [if_neg h0, if_neg h]
theorem ct_3 {s l k : Int32} (h0 : ¬ s = 0) (h : l = k) (h1 : s = 1) : ct s l k = 3 := by unfold ct; rw [if_neg h0, if_pos h, if_pos h1]
theorem ct_4 {s l k : Int32} (h0 : ¬ s = 0) (h : l = k) (h1 : ¬ s = 1) : ct s l k = 4 := by unfold ct; rw [if_neg h0, if_pos h, if_neg h1]
theorem zh_X7_of : zH mi_X7_of zt_X7_of 79 7 4 := hh_X7_of
theorem fc_X7_of (d : Nat) (hd : 2 ≤ d) (μ : zM) (k : Int32) (hk : vp_in k 34) (s : Nat) (hs : s ≤ 4) (es : μ.1 50 4 = nI s) : z_C d mi_X7_of [.ref 50, .int k] μ (zR μ (.int (ofv (μ.1 58 k.toNatClampNeg) (μ.1 52) (μ.1 53) k s))) := by
  refine z_C_in (by decide) (by omega) (fun d' Z ed hc hr => ?_)
  have hH := zh_X7_of
  have lp : ∀ (n i : Nat), i + n = s → Z 0 9 [(3, .int (nI i)), (2, .int (ofv (μ.1 58 k.toNatClampNeg) (μ.1 52) (μ.1 53) k i)), (0, .ref 50), (1, .int k)] [] μ := by
    intro n
    induction n with
    | zero =>
      intro i hi
      have hi : i = s := by omega
      subst hi
      refine z_rcs hc hH 3 (pc' := 14) (lv' := [(3, .int (nI i)), (2, .int (ofv (μ.1 58 k.toNatClampNeg) (μ.1 52) (μ.1 53) k i)), (0, .ref 50), (1, .int k)]) (st' := [.int (μ.1 50 4), .int (nI i)]) (μ' := μ) (by rfl) ?_
      refine zq_ic hc hH (by rfl) (tg := 85) (by rfl) (fun _ => ?_) (fun h9 => (zb_t (by rw [es]; exact ge_nIt (Nat.le_refl _) (by omega)) h9).elim)
      refine z_rcs hc hH 1 (pc' := 86) (lv' := [(3, .int (nI i)), (2, .int (ofv (μ.1 58 k.toNatClampNeg) (μ.1 52) (μ.1 53) k i)), (0, .ref 50), (1, .int k)]) (st' := [.int (ofv (μ.1 58 k.toNatClampNeg) (μ.1 52) (μ.1 53) k i)]) (μ' := μ) (by rfl) ?_
      exact hr 0 86 _ _ _ (some (.int (ofv (μ.1 58 k.toNatClampNeg) (μ.1 52) (μ.1 53) k i))) (by decide +kernel) (z_rx_ok hH (by rfl)) (⟨rfl, rfl⟩)
    | succ n ih =>
      intro i hi
      have hin : vp_in (nI i) 8 := vp_in_nI (by omega) (by decide)
      have q := ih (i + 1) (by omega)
      have ec : (nI i).toNatClampNeg = i := nI_clamp (by omega)
      refine z_rcs hc hH 3 (pc' := 14) (lv' := [(3, .int (nI i)), (2, .int (ofv (μ.1 58 k.toNatClampNeg) (μ.1 52) (μ.1 53) k i)), (0, .ref 50), (1, .int k)]) (st' := [.int (μ.1 50 4), .int (nI i)]) (μ' := μ) (by rfl) ?_
      refine zq_ic hc hH (by rfl) (tg := 85) (by rfl) (fun h9 => (zb_t h9 (by rw [es]; exact ge_nI (by omega) (by omega))).elim) (fun _ => ?_)
      refine z_rcs hc hH 3 (pc' := 22) (lv' := [(3, .int (nI i)), (2, .int (ofv (μ.1 58 k.toNatClampNeg) (μ.1 52) (μ.1 53) k i)), (0, .ref 50), (1, .int k)]) (st' := [.int (nI i), .ref 52]) (μ' := μ) (by rfl) ?_
      refine zq_iald hc hH (by rfl) 8 (by decide +kernel) (hin) ?_
      refine zq_if hc hH (by rfl) (tg := 51) (by rfl) (fun h1 => ?_) (fun h1 => ?_)
      · have h1 := cm_ne.mp h1
        refine z_rcs hc hH 3 (pc' := 56) (lv' := [(3, .int (nI i)), (2, .int (ofv (μ.1 58 k.toNatClampNeg) (μ.1 52) (μ.1 53) k i)), (0, .ref 50), (1, .int k)]) (st' := [.int (nI i), .ref 53]) (μ' := μ) (by rfl) ?_
        refine zq_iald hc hH (by rfl) 8 (by decide +kernel) (hin) ?_
        refine z_rcs hc hH 1 (pc' := 58) (lv' := [(3, .int (nI i)), (2, .int (ofv (μ.1 58 k.toNatClampNeg) (μ.1 52) (μ.1 53) k i)), (0, .ref 50), (1, .int k)]) (st' := [.int k, .int (μ.1 53 (nI i).toNatClampNeg)]) (μ' := μ) (by rfl) ?_
        refine zq_ic hc hH (by rfl) (tg := 79) (by rfl) (fun h2 => ?_) (fun h2 => ?_)
        · have h2 := cm_ne.mp h2
          refine z_rcs hc hH 2 (pc' := 9) (lv' := [(3, .int ((nI i) + 1)), (2, .int (ofv (μ.1 58 k.toNatClampNeg) (μ.1 52) (μ.1 53) k i)), (0, .ref 50), (1, .int k)]) (st' := []) (μ' := μ) (by rfl) ?_
          have e9 : ct (μ.1 52 i) (μ.1 53 i) k = 0 := ct_n (by rw [← ec]; exact h1) (by rw [← ec]; exact h2)
          have q2 : Z 0 9 [(3, .int (nI (i + 1))), (2, .int (ofv (μ.1 58 k.toNatClampNeg) (μ.1 52) (μ.1 53) k i + ct (μ.1 52 i) (μ.1 53 i) k)), (0, .ref 50), (1, .int k)] [] μ := q
          rw [e9, Int32.add_zero] at q2
          rw [nI_1]
          exact q2
        · have h2 := cn_ne.mp h2
          refine z_rcs hc hH 4 (pc' := 67) (lv' := [(3, .int (nI i)), (2, .int (ofv (μ.1 58 k.toNatClampNeg) (μ.1 52) (μ.1 53) k i)), (0, .ref 50), (1, .int k)]) (st' := [.int (nI i), .ref 52, .int (ofv (μ.1 58 k.toNatClampNeg) (μ.1 52) (μ.1 53) k i)]) (μ' := μ) (by rfl) ?_
          refine zq_iald hc hH (by rfl) 8 (by decide +kernel) (hin) ?_
          refine z_rcs hc hH 1 (pc' := 69) (lv' := [(3, .int (nI i)), (2, .int (ofv (μ.1 58 k.toNatClampNeg) (μ.1 52) (μ.1 53) k i)), (0, .ref 50), (1, .int k)]) (st' := [.int 1, .int (μ.1 52 (nI i).toNatClampNeg), .int (ofv (μ.1 58 k.toNatClampNeg) (μ.1 52) (μ.1 53) k i)]) (μ' := μ) (by rfl) ?_
          refine zq_ic hc hH (by rfl) (tg := 76) (by rfl) (fun h3 => ?_) (fun h3 => ?_)
          · have h3 := cm_ne.mp h3
            refine z_rcs hc hH 5 (pc' := 9) (lv' := [(3, .int ((nI i) + 1)), (2, .int ((ofv (μ.1 58 k.toNatClampNeg) (μ.1 52) (μ.1 53) k i) + 4)), (0, .ref 50), (1, .int k)]) (st' := []) (μ' := μ) (by rfl) ?_
            have e9 : ct (μ.1 52 i) (μ.1 53 i) k = 4 := ct_4 (by rw [← ec]; exact h1) (by rw [← ec]; exact h2) (by rw [← ec]; exact h3)
            have q2 : Z 0 9 [(3, .int (nI (i + 1))), (2, .int (ofv (μ.1 58 k.toNatClampNeg) (μ.1 52) (μ.1 53) k i + ct (μ.1 52 i) (μ.1 53 i) k)), (0, .ref 50), (1, .int k)] [] μ := q
            rw [e9] at q2
            rw [nI_1]
            exact q2
          · have h3 := cn_ne.mp h3
            refine z_rcs hc hH 6 (pc' := 9) (lv' := [(3, .int ((nI i) + 1)), (2, .int ((ofv (μ.1 58 k.toNatClampNeg) (μ.1 52) (μ.1 53) k i) + 3)), (0, .ref 50), (1, .int k)]) (st' := []) (μ' := μ) (by rfl) ?_
            have e9 : ct (μ.1 52 i) (μ.1 53 i) k = 3 := ct_3 (by rw [← ec]; exact h1) (by rw [← ec]; exact h2) (by rw [← ec]; exact h3)
            have q2 : Z 0 9 [(3, .int (nI (i + 1))), (2, .int (ofv (μ.1 58 k.toNatClampNeg) (μ.1 52) (μ.1 53) k i + ct (μ.1 52 i) (μ.1 53 i) k)), (0, .ref 50), (1, .int k)] [] μ := q
            rw [e9] at q2
            rw [nI_1]
            exact q2
      · have h1 := cn_ne.mp h1
        refine z_rcs hc hH 5 (pc' := 33) (lv' := [(3, .int (nI i)), (2, .int (ofv (μ.1 58 k.toNatClampNeg) (μ.1 52) (μ.1 53) k i)), (0, .ref 50), (1, .int k)]) (st' := [.int (nI i), .ref 53, .int 0, .int (ofv (μ.1 58 k.toNatClampNeg) (μ.1 52) (μ.1 53) k i)]) (μ' := μ) (by rfl) ?_
        refine zq_iald hc hH (by rfl) 8 (by decide +kernel) (hin) ?_
        refine z_rcs hc hH 1 (pc' := 35) (lv' := [(3, .int (nI i)), (2, .int (ofv (μ.1 58 k.toNatClampNeg) (μ.1 52) (μ.1 53) k i)), (0, .ref 50), (1, .int k)]) (st' := [.int k, .int (μ.1 53 (nI i).toNatClampNeg), .int 0, .int (ofv (μ.1 58 k.toNatClampNeg) (μ.1 52) (μ.1 53) k i)]) (μ' := μ) (by rfl) ?_
        refine zq_call hc (z_cx_ok hH (by rfl)) (fc_X7_has d' (by omega) μ _ k) (by decide +kernel) (fun r9 μ9 hq => ?_)
        obtain ⟨hμ9, hq⟩ := hq
        rw [hμ9]
        clear hμ9 μ9
        obtain ⟨rfl, hh⟩ | ⟨rfl, hh⟩ := hq
        · show Z 0 38 [(3, .int (nI i)), (2, .int (ofv (μ.1 58 k.toNatClampNeg) (μ.1 52) (μ.1 53) k i)), (0, .ref 50), (1, .int k)] [.int 1, .int (ofv (μ.1 58 k.toNatClampNeg) (μ.1 52) (μ.1 53) k i)] μ
          refine z_rcs hc hH 8 (pc' := 9) (lv' := [(3, .int ((nI i) + 1)), (2, .int ((ofv (μ.1 58 k.toNatClampNeg) (μ.1 52) (μ.1 53) k i) + 1)), (0, .ref 50), (1, .int k)]) (st' := []) (μ' := μ) (by rfl) ?_
          have e9 : ct (μ.1 52 i) (μ.1 53 i) k = 1 := ct_z1 (by rw [← ec]; exact h1) (by rw [← ec]; exact hh)
          have q2 : Z 0 9 [(3, .int (nI (i + 1))), (2, .int (ofv (μ.1 58 k.toNatClampNeg) (μ.1 52) (μ.1 53) k i + ct (μ.1 52 i) (μ.1 53 i) k)), (0, .ref 50), (1, .int k)] [] μ := q
          rw [e9] at q2
          rw [nI_1]
          exact q2
        · show Z 0 38 [(3, .int (nI i)), (2, .int (ofv (μ.1 58 k.toNatClampNeg) (μ.1 52) (μ.1 53) k i)), (0, .ref 50), (1, .int k)] [.int 0, .int (ofv (μ.1 58 k.toNatClampNeg) (μ.1 52) (μ.1 53) k i)] μ
          refine z_rcs hc hH 7 (pc' := 9) (lv' := [(3, .int ((nI i) + 1)), (2, .int ((ofv (μ.1 58 k.toNatClampNeg) (μ.1 52) (μ.1 53) k i) + 0)), (0, .ref 50), (1, .int k)]) (st' := []) (μ' := μ) (by rfl) ?_
          have e9 : ct (μ.1 52 i) (μ.1 53 i) k = 0 := ct_z0 (by rw [← ec]; exact h1) (by rw [← ec]; exact hh)
          have q2 : Z 0 9 [(3, .int (nI (i + 1))), (2, .int (ofv (μ.1 58 k.toNatClampNeg) (μ.1 52) (μ.1 53) k i + ct (μ.1 52 i) (μ.1 53 i) k)), (0, .ref 50), (1, .int k)] [] μ := q
          rw [e9] at q2
          rw [nI_1]
          exact q2
  refine z_rcs hc hH 3 (pc' := 5) (lv' := [(0, .ref 50), (1, .int k)]) (st' := [.int k, .ref 58]) (μ' := μ) (by rfl) ?_
  refine zq_iald hc hH (by rfl) 34 (by decide +kernel) (hk) ?_
  refine z_rcs hc hH 3 (pc' := 9) (lv' := [(3, .int 0), (2, .int (μ.1 58 k.toNatClampNeg)), (0, .ref 50), (1, .int k)]) (st' := []) (μ' := μ) (by rfl) ?_
  exact lp s 0 (by omega)

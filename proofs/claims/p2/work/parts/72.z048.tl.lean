/-! the wall by a number, of both sides -/
set_option maxRecDepth 8000
def jE (x : Int64) (i : Nat) : Int32 := ((x.toUInt64 >>> ((33 : Int32).toInt64.toUInt64 &&& Int64.toUInt64 63)).toInt64 - (x.toUInt64 >>> ((33 : Int32).toInt64.toUInt64 &&& Int64.toUInt64 63)).toInt64 / (nI (i + 1) + 1).toInt64 * (nI (i + 1) + 1).toInt64).toInt32
def jN (x : Int64) (i : Nat) : Nat := (jE x i).toNatClampNeg
theorem jE_n (x : Int64) (i : Nat) (hi : i < 135) : ¬ (nI (i + 1) + 1).toInt64 = 0 ∧ jN x i < 136 ∧ jE x i = nI (jN x i) := by
  obtain ⟨h1, j, h2, h3⟩ := dl_j x i hi
  have h3 : jE x i = nI j := h3
  have e : jN x i = j := by unfold jN; rw [h3, nI_clamp (by omega)]
  exact ⟨h1, by rw [e]; exact h2, by rw [e]; exact h3⟩
abbrev nxL (x : Int64) : Int64 := x * 6364136223846793005 + 1442695040888963407
def swW (f : Nat → Int32) (a b k : Nat) : Int32 := if k = b then f a else if k = a then f b else f k
def wsh : Nat → Int64 → (Nat → Int32) → Nat → Int32
  | 0, _, f => f
  | i + 1, x, f => wsh i (nxL x) (swW f (i + 1) (jN (nxL x) i))
def wlF (sd : Int64) : Nat → Int32 := wsh 135 sd (fun k => nI (k / 4))
def WR1 (r i : Nat) (μ0 μ1 : zM) : Prop := (∀ k, k < i → μ1.1 r k = nI (k / 4)) ∧ (∀ r' k, r' ≠ r → μ1.1 r' k = μ0.1 r' k) ∧ μ1.2 = μ0.2
theorem WR1.nx {r i : Nat} {μ0 μ1 : zM} (h : WR1 r i μ0 μ1) : WR1 r (i + 1) μ0 (z_ui μ1 r i (nI (i / 4))) := by
  refine ⟨fun k hk => ?_, fun r' k hr => by rw [ui_o hr]; exact h.2.1 r' k hr, h.2.2⟩
  by_cases e : k = i
  · rw [e, ui_s]
  · rw [ui_k e]; exact h.1 k (by omega)
def WRl (r : Nat) (f : Nat → Int32) (μ0 μ1 : zM) : Prop := (∀ k, k < 136 → μ1.1 r k = f k) ∧ (∀ r' k, r' ≠ r → μ1.1 r' k = μ0.1 r' k) ∧ μ1.2 = μ0.2
theorem WRl.nx {r i j : Nat} {f : Nat → Int32} {μ0 μ1 : zM} (h : WRl r f μ0 μ1) (hi : i < 136) (hj : j < 136) : WRl r (swW f i j) μ0 (z_ui (z_ui μ1 r i (μ1.1 r j)) r j (μ1.1 r i)) := by
  refine ⟨fun k hk => ?_, fun r' k hr => by rw [ui_o hr, ui_o hr]; exact h.2.1 r' k hr, h.2.2⟩
  unfold swW
  by_cases e : k = j
  · rw [if_pos e, e, ui_s]; exact h.1 i hi
  · rw [if_neg e, ui_k e]
    by_cases e2 : k = i
    · rw [if_pos e2, e2, ui_s]; exact h.1 j hj
    · rw [if_neg e2, ui_k e2]; exact h.1 k hk
theorem zh_X4_build : zH mi_X4_build zc_X4_build 79 4 8 := ⟨by rfl, by rfl, by rfl, by rfl⟩
theorem wc1 (d' : Nat) (Z : zK) (hc : z_clo z_x0 mi_X4_build (z_C d') Z) (sd : Int64) (μ0 : zM) (K : ∀ μ1, WR1 3 136 μ0 μ1 → Z 0 24 [(3, .int (nI 136)), (0, .ref 2), (1, .long sd)] [] μ1) : ∀ n i, i + n = 136 → ∀ μ1, WR1 3 i μ0 μ1 → Z 0 2 [(3, .int (nI i)), (0, .ref 2), (1, .long sd)] [] μ1 := by
  have hH := zh_X4_build
  intro n
  induction n with
  | zero =>
    intro i hi μ1 g1
    have hi : i = 136 := by omega
    subst hi
    refine z_rcs hc hH 2 (pc' := 6) (lv' := [(3, .int (nI 136)), (0, .ref 2), (1, .long sd)]) (st' := [.int 136, .int (nI 136)]) (μ' := μ1) (by rfl) ?_
    refine zq_ic hc hH (by rfl) (tg := 24) (by rfl) (fun _ => ?_) (fun h9 => (zb_t (ge_nIt (n := 136) (i := 136) (by decide) (by decide)) h9).elim)
    exact K μ1 g1
  | succ n ih =>
    intro i hi μ1 g1
    refine z_rcs hc hH 2 (pc' := 6) (lv' := [(3, .int (nI i)), (0, .ref 2), (1, .long sd)]) (st' := [.int 136, .int (nI i)]) (μ' := μ1) (by rfl) ?_
    refine zq_ic hc hH (by rfl) (tg := 24) (by rfl) (fun h9 => (zb_t h9 (ge_nI (n := 136) (i := i) (by omega) (by decide))).elim) (fun _ => ?_)
    refine z_rcs hc hH 6 (pc' := 17) (lv' := [(3, .int (nI i)), (0, .ref 2), (1, .long sd)]) (st' := [.int ((nI i) / 4), .int (nI i), .ref 3]) (μ' := μ1) (by rfl) ?_
    rw [nI_d4 i (by omega)]
    refine zq_iast hc hH (by rfl) 136 (by decide +kernel) (vp_in_nI (by omega) (by decide)) ?_
    refine z_rcs hc hH 2 (pc' := 2) (lv' := [(3, .int ((nI i) + 1)), (0, .ref 2), (1, .long sd)]) (st' := []) (μ' := z_ui μ1 3 ((nI i).toNatClampNeg) (nI (i / 4))) (by rfl) ?_
    rw [nI_1, nI_clamp (by omega)]
    exact ih (i + 1) (by omega) _ g1.nx
theorem wc2 (d' : Nat) (Z : zK) (hc : z_clo z_x0 mi_X4_build (z_C d') Z) (sd : Int64) (μ0 : zM) (fz : Nat → Int32) (K : ∀ (x : Int64) (kv jv : Int32) μ1, WRl 3 fz μ0 μ1 → Z 0 97 [(5, .int (nI 0)), (7, .int kv), (6, .int jv), (3, .long x), (0, .ref 2), (1, .long sd)] [] μ1) : ∀ i, i < 135 → ∀ (x : Int64) (f : Nat → Int32), wsh i x f = fz → ∀ (kv jv : Int32) μ1, WRl 3 f μ0 μ1 → Z 0 31 [(5, .int (nI i)), (7, .int kv), (6, .int jv), (3, .long x), (0, .ref 2), (1, .long sd)] [] μ1 := by
  have hH := zh_X4_build
  intro i
  induction i with
  | zero =>
    intro hi x f hf kv jv μ1 g1
    have hf : f = fz := hf
    subst hf
    refine z_rcs hc hH 1 (pc' := 33) (lv' := [(5, .int (nI 0)), (7, .int kv), (6, .int jv), (3, .long x), (0, .ref 2), (1, .long sd)]) (st' := [.int (nI 0)]) (μ' := μ1) (by rfl) ?_
    refine zq_if hc hH (by rfl) (tg := 97) (by rfl) (fun _ => ?_) (fun h9 => (zb_t (by decide) h9).elim)
    exact K x kv jv μ1 g1
  | succ i ih =>
    intro hi x f hf kv jv μ1 g1
    refine z_rcs hc hH 1 (pc' := 33) (lv' := [(5, .int (nI (i + 1))), (7, .int kv), (6, .int jv), (3, .long x), (0, .ref 2), (1, .long sd)]) (st' := [.int (nI (i + 1))]) (μ' := μ1) (by rfl) ?_
    refine zq_if hc hH (by rfl) (tg := 97) (by rfl) (fun h9 => (zb_t h9 (le_nI0 (by omega))).elim) (fun _ => ?_)
    refine z_rcs hc hH 6 (pc' := 46) (lv' := [(3, .long ((x * 6364136223846793005) + 1442695040888963407)), (5, .int (nI (i + 1))), (7, .int kv), (6, .int jv), (0, .ref 2), (1, .long sd)]) (st' := []) (μ' := μ1) (by rfl) ?_
    generalize hx1 : (x * 6364136223846793005) + 1442695040888963407 = x1
    have hx1 : x1 = nxL x := hx1.symm
    refine z_rcs hc hH 7 (pc' := 55) (lv' := [(3, .long x1), (5, .int (nI (i + 1))), (7, .int kv), (6, .int jv), (0, .ref 2), (1, .long sd)]) (st' := [.long (((nI (i + 1)) + 1).toInt64), .long ((x1.toUInt64 >>> ((33 : Int32).toInt64.toUInt64 &&& Int64.toUInt64 63)).toInt64)]) (μ' := μ1) (by rfl) ?_
    obtain ⟨hne, hj, ej⟩ := jE_n x1 i (by omega)
    refine zq_lrem hc hH (by rfl) hne ?_
    refine z_rcs hc hH 1 (pc' := 57) (lv' := [(3, .long x1), (5, .int (nI (i + 1))), (7, .int kv), (6, .int jv), (0, .ref 2), (1, .long sd)]) (st' := [.int ((((x1.toUInt64 >>> ((33 : Int32).toInt64.toUInt64 &&& Int64.toUInt64 63)).toInt64) - ((x1.toUInt64 >>> ((33 : Int32).toInt64.toUInt64 &&& Int64.toUInt64 63)).toInt64) / (((nI (i + 1)) + 1).toInt64) * (((nI (i + 1)) + 1).toInt64)).toInt32)]) (μ' := μ1) (by rfl) ?_
    show Z 0 57 [(3, .long x1), (5, .int (nI (i + 1))), (7, .int kv), (6, .int jv), (0, .ref 2), (1, .long sd)] [.int (jE x1 i)] μ1
    rw [ej]
    refine z_rcs hc hH 4 (pc' := 65) (lv' := [(6, .int (nI (jN x1 i))), (3, .long x1), (5, .int (nI (i + 1))), (7, .int kv), (0, .ref 2), (1, .long sd)]) (st' := [.int (nI (i + 1)), .ref 3]) (μ' := μ1) (by rfl) ?_
    refine zq_iald hc hH (by rfl) 136 (by decide +kernel) (vp_in_nI (by omega) (by decide)) ?_
    refine z_rcs hc hH 7 (pc' := 80) (lv' := [(7, .int (μ1.1 3 (nI (i + 1)).toNatClampNeg)), (6, .int (nI (jN x1 i))), (3, .long x1), (5, .int (nI (i + 1))), (0, .ref 2), (1, .long sd)]) (st' := [.int (nI (jN x1 i)), .ref 3, .int (nI (i + 1)), .ref 3]) (μ' := μ1) (by rfl) ?_
    refine zq_iald hc hH (by rfl) 136 (by decide +kernel) (vp_in_nI (by omega) (by decide)) ?_
    refine zq_iast hc hH (by rfl) 136 (by decide +kernel) (vp_in_nI (by omega) (by decide)) ?_
    refine z_rcs hc hH 4 (pc' := 90) (lv' := [(7, .int (μ1.1 3 (nI (i + 1)).toNatClampNeg)), (6, .int (nI (jN x1 i))), (3, .long x1), (5, .int (nI (i + 1))), (0, .ref 2), (1, .long sd)]) (st' := [.int (μ1.1 3 (nI (i + 1)).toNatClampNeg), .int (nI (jN x1 i)), .ref 3]) (μ' := z_ui μ1 3 ((nI (i + 1)).toNatClampNeg) (μ1.1 3 (nI (jN x1 i)).toNatClampNeg)) (by rfl) ?_
    refine zq_iast hc hH (by rfl) 136 (by decide +kernel) (vp_in_nI (by omega) (by decide)) ?_
    refine z_rcs hc hH 2 (pc' := 31) (lv' := [(5, .int ((nI (i + 1)) + (-1))), (7, .int (μ1.1 3 (nI (i + 1)).toNatClampNeg)), (6, .int (nI (jN x1 i))), (3, .long x1), (0, .ref 2), (1, .long sd)]) (st' := []) (μ' := z_ui (z_ui μ1 3 ((nI (i + 1)).toNatClampNeg) (μ1.1 3 (nI (jN x1 i)).toNatClampNeg)) 3 ((nI (jN x1 i)).toNatClampNeg) (μ1.1 3 (nI (i + 1)).toNatClampNeg)) (by rfl) ?_
    rw [nI_m1, nI_clamp (by omega), nI_clamp (by omega)]
    refine ih (by omega) x1 (swW f (i + 1) (jN x1 i)) (by rw [hx1]; exact hf) _ _ _ (by
      have e := g1.nx (i := i + 1) (by omega) hj
      exact e)
theorem wc3 (d' : Nat) (Z : zK) (hc : z_clo z_x0 mi_X4_build (z_C d') Z) (sd : Int64) (μ0 : zM) (K : ∀ (x : Int64) (kv jv : Int32) μ1, WRl 3 (wlF sd) μ0 μ1 → Z 0 97 [(5, .int (nI 0)), (7, .int kv), (6, .int jv), (3, .long x), (0, .ref 2), (1, .long sd)] [] μ1) (μ1 : zM) (g1 : WR1 3 136 μ0 μ1) : Z 0 24 [(3, .int (nI 136)), (0, .ref 2), (1, .long sd)] [] μ1 := by
  have hH := zh_X4_build
  have g1 : WRl 3 (fun k => nI (k / 4)) μ0 μ1 := g1
  refine z_rcs hc hH 4 (pc' := 31) (lv' := [(5, .int 135), (3, .long sd), (0, .ref 2), (1, .long sd)]) (st' := []) (μ' := μ1) (by rfl) ?_
  show Z 0 31 [(5, .int (nI (134 + 1))), (3, .long sd), (0, .ref 2), (1, .long sd)] [] μ1
  refine z_rcs hc hH 1 (pc' := 33) (lv' := [(5, .int (nI (134 + 1))), (3, .long sd), (0, .ref 2), (1, .long sd)]) (st' := [.int (nI (134 + 1))]) (μ' := μ1) (by rfl) ?_
  refine zq_if hc hH (by rfl) (tg := 97) (by rfl) (fun h9 => (zb_t h9 (le_nI0 (i := 134) (by omega))).elim) (fun _ => ?_)
  refine z_rcs hc hH 6 (pc' := 46) (lv' := [(3, .long ((sd * 6364136223846793005) + 1442695040888963407)), (5, .int (nI (134 + 1))), (0, .ref 2), (1, .long sd)]) (st' := []) (μ' := μ1) (by rfl) ?_
  generalize hx1 : (sd * 6364136223846793005) + 1442695040888963407 = x1
  have hx1 : x1 = nxL sd := hx1.symm
  refine z_rcs hc hH 7 (pc' := 55) (lv' := [(3, .long x1), (5, .int (nI (134 + 1))), (0, .ref 2), (1, .long sd)]) (st' := [.long (((nI (134 + 1)) + 1).toInt64), .long ((x1.toUInt64 >>> ((33 : Int32).toInt64.toUInt64 &&& Int64.toUInt64 63)).toInt64)]) (μ' := μ1) (by rfl) ?_
  obtain ⟨hne, hj, ej⟩ := jE_n x1 134 (by omega)
  refine zq_lrem hc hH (by rfl) hne ?_
  refine z_rcs hc hH 1 (pc' := 57) (lv' := [(3, .long x1), (5, .int (nI (134 + 1))), (0, .ref 2), (1, .long sd)]) (st' := [.int ((((x1.toUInt64 >>> ((33 : Int32).toInt64.toUInt64 &&& Int64.toUInt64 63)).toInt64) - ((x1.toUInt64 >>> ((33 : Int32).toInt64.toUInt64 &&& Int64.toUInt64 63)).toInt64) / (((nI (134 + 1)) + 1).toInt64) * (((nI (134 + 1)) + 1).toInt64)).toInt32)]) (μ' := μ1) (by rfl) ?_
  show Z 0 57 [(3, .long x1), (5, .int (nI (134 + 1))), (0, .ref 2), (1, .long sd)] [.int (jE x1 134)] μ1
  rw [ej]
  refine z_rcs hc hH 4 (pc' := 65) (lv' := [(6, .int (nI (jN x1 134))), (3, .long x1), (5, .int (nI (134 + 1))), (0, .ref 2), (1, .long sd)]) (st' := [.int (nI (134 + 1)), .ref 3]) (μ' := μ1) (by rfl) ?_
  refine zq_iald hc hH (by rfl) 136 (by decide +kernel) (vp_in_nI (by omega) (by decide)) ?_
  refine z_rcs hc hH 7 (pc' := 80) (lv' := [(7, .int (μ1.1 3 (nI (134 + 1)).toNatClampNeg)), (6, .int (nI (jN x1 134))), (3, .long x1), (5, .int (nI (134 + 1))), (0, .ref 2), (1, .long sd)]) (st' := [.int (nI (jN x1 134)), .ref 3, .int (nI (134 + 1)), .ref 3]) (μ' := μ1) (by rfl) ?_
  refine zq_iald hc hH (by rfl) 136 (by decide +kernel) (vp_in_nI (by omega) (by decide)) ?_
  refine zq_iast hc hH (by rfl) 136 (by decide +kernel) (vp_in_nI (by omega) (by decide)) ?_
  refine z_rcs hc hH 4 (pc' := 90) (lv' := [(7, .int (μ1.1 3 (nI (134 + 1)).toNatClampNeg)), (6, .int (nI (jN x1 134))), (3, .long x1), (5, .int (nI (134 + 1))), (0, .ref 2), (1, .long sd)]) (st' := [.int (μ1.1 3 (nI (134 + 1)).toNatClampNeg), .int (nI (jN x1 134)), .ref 3]) (μ' := z_ui μ1 3 ((nI (134 + 1)).toNatClampNeg) (μ1.1 3 (nI (jN x1 134)).toNatClampNeg)) (by rfl) ?_
  refine zq_iast hc hH (by rfl) 136 (by decide +kernel) (vp_in_nI (by omega) (by decide)) ?_
  refine z_rcs hc hH 2 (pc' := 31) (lv' := [(5, .int ((nI (134 + 1)) + (-1))), (7, .int (μ1.1 3 (nI (134 + 1)).toNatClampNeg)), (6, .int (nI (jN x1 134))), (3, .long x1), (0, .ref 2), (1, .long sd)]) (st' := []) (μ' := z_ui (z_ui μ1 3 ((nI (134 + 1)).toNatClampNeg) (μ1.1 3 (nI (jN x1 134)).toNatClampNeg)) 3 ((nI (jN x1 134)).toNatClampNeg) (μ1.1 3 (nI (134 + 1)).toNatClampNeg)) (by rfl) ?_
  rw [nI_m1, nI_clamp (by omega), nI_clamp (by omega)]
  refine wc2 d' Z hc sd μ0 (wlF sd) K 134 (by omega) x1 (swW (fun k => nI (k / 4)) (134 + 1) (jN x1 134)) (by rw [hx1]; rfl) _ _ _ (by
    have e := g1.nx (i := 134 + 1) (by omega) hj
    exact e)
theorem wm1 (d' : Nat) (Z : zK) (hc : z_clo z_x0 mi_X7_deal (z_C d') Z) (sd : Int64) (μ0 : zM) (K : ∀ μ1, WR1 59 136 μ0 μ1 → Z 0 51 [(5, .int (nI 136)), (3, .long sd), (0, .ref 50), (1, .long sd)] [] μ1) : ∀ n i, i + n = 136 → ∀ μ1, WR1 59 i μ0 μ1 → Z 0 26 [(5, .int (nI i)), (3, .long sd), (0, .ref 50), (1, .long sd)] [] μ1 := by
  have hH := zh_X7_deal
  intro n
  induction n with
  | zero =>
    intro i hi μ1 g1
    have hi : i = 136 := by omega
    subst hi
    refine z_rcs hc hH 2 (pc' := 31) (lv' := [(5, .int (nI 136)), (3, .long sd), (0, .ref 50), (1, .long sd)]) (st' := [.int 136, .int (nI 136)]) (μ' := μ1) (by rfl) ?_
    refine zq_ic hc hH (by rfl) (tg := 51) (by rfl) (fun _ => ?_) (fun h9 => (zb_t (ge_nIt (n := 136) (i := 136) (by decide) (by decide)) h9).elim)
    exact K μ1 g1
  | succ n ih =>
    intro i hi μ1 g1
    refine z_rcs hc hH 2 (pc' := 31) (lv' := [(5, .int (nI i)), (3, .long sd), (0, .ref 50), (1, .long sd)]) (st' := [.int 136, .int (nI i)]) (μ' := μ1) (by rfl) ?_
    refine zq_ic hc hH (by rfl) (tg := 51) (by rfl) (fun h9 => (zb_t h9 (ge_nI (n := 136) (i := i) (by omega) (by decide))).elim) (fun _ => ?_)
    refine z_rcs hc hH 6 (pc' := 44) (lv' := [(5, .int (nI i)), (3, .long sd), (0, .ref 50), (1, .long sd)]) (st' := [.int ((nI i) / 4), .int (nI i), .ref 59]) (μ' := μ1) (by rfl) ?_
    rw [nI_d4 i (by omega)]
    refine zq_iast hc hH (by rfl) 136 (by decide +kernel) (vp_in_nI (by omega) (by decide)) ?_
    refine z_rcs hc hH 2 (pc' := 26) (lv' := [(5, .int ((nI i) + 1)), (3, .long sd), (0, .ref 50), (1, .long sd)]) (st' := []) (μ' := z_ui μ1 59 ((nI i).toNatClampNeg) (nI (i / 4))) (by rfl) ?_
    rw [nI_1, nI_clamp (by omega)]
    exact ih (i + 1) (by omega) _ g1.nx
theorem wm2 (d' : Nat) (Z : zK) (hc : z_clo z_x0 mi_X7_deal (z_C d') Z) (sd : Int64) (μ0 : zM) (fz : Nat → Int32) (K : ∀ (x : Int64) (kv jv : Int32) μ1, WRl 59 fz μ0 μ1 → Z 0 122 [(5, .int (nI 0)), (7, .int kv), (6, .int jv), (3, .long x), (0, .ref 50), (1, .long sd)] [] μ1) : ∀ i, i < 135 → ∀ (x : Int64) (f : Nat → Int32), wsh i x f = fz → ∀ (kv jv : Int32) μ1, WRl 59 f μ0 μ1 → Z 0 56 [(5, .int (nI i)), (7, .int kv), (6, .int jv), (3, .long x), (0, .ref 50), (1, .long sd)] [] μ1 := by
  have hH := zh_X7_deal
  intro i
  induction i with
  | zero =>
    intro hi x f hf kv jv μ1 g1
    have hf : f = fz := hf
    subst hf
    refine z_rcs hc hH 1 (pc' := 58) (lv' := [(5, .int (nI 0)), (7, .int kv), (6, .int jv), (3, .long x), (0, .ref 50), (1, .long sd)]) (st' := [.int (nI 0)]) (μ' := μ1) (by rfl) ?_
    refine zq_if hc hH (by rfl) (tg := 122) (by rfl) (fun _ => ?_) (fun h9 => (zb_t (by decide) h9).elim)
    exact K x kv jv μ1 g1
  | succ i ih =>
    intro hi x f hf kv jv μ1 g1
    refine z_rcs hc hH 1 (pc' := 58) (lv' := [(5, .int (nI (i + 1))), (7, .int kv), (6, .int jv), (3, .long x), (0, .ref 50), (1, .long sd)]) (st' := [.int (nI (i + 1))]) (μ' := μ1) (by rfl) ?_
    refine zq_if hc hH (by rfl) (tg := 122) (by rfl) (fun h9 => (zb_t h9 (le_nI0 (by omega))).elim) (fun _ => ?_)
    refine z_rcs hc hH 6 (pc' := 71) (lv' := [(3, .long ((x * 6364136223846793005) + 1442695040888963407)), (5, .int (nI (i + 1))), (7, .int kv), (6, .int jv), (0, .ref 50), (1, .long sd)]) (st' := []) (μ' := μ1) (by rfl) ?_
    generalize hx1 : (x * 6364136223846793005) + 1442695040888963407 = x1
    have hx1 : x1 = nxL x := hx1.symm
    refine z_rcs hc hH 7 (pc' := 80) (lv' := [(3, .long x1), (5, .int (nI (i + 1))), (7, .int kv), (6, .int jv), (0, .ref 50), (1, .long sd)]) (st' := [.long (((nI (i + 1)) + 1).toInt64), .long ((x1.toUInt64 >>> ((33 : Int32).toInt64.toUInt64 &&& Int64.toUInt64 63)).toInt64)]) (μ' := μ1) (by rfl) ?_
    obtain ⟨hne, hj, ej⟩ := jE_n x1 i (by omega)
    refine zq_lrem hc hH (by rfl) hne ?_
    refine z_rcs hc hH 1 (pc' := 82) (lv' := [(3, .long x1), (5, .int (nI (i + 1))), (7, .int kv), (6, .int jv), (0, .ref 50), (1, .long sd)]) (st' := [.int ((((x1.toUInt64 >>> ((33 : Int32).toInt64.toUInt64 &&& Int64.toUInt64 63)).toInt64) - ((x1.toUInt64 >>> ((33 : Int32).toInt64.toUInt64 &&& Int64.toUInt64 63)).toInt64) / (((nI (i + 1)) + 1).toInt64) * (((nI (i + 1)) + 1).toInt64)).toInt32)]) (μ' := μ1) (by rfl) ?_
    show Z 0 82 [(3, .long x1), (5, .int (nI (i + 1))), (7, .int kv), (6, .int jv), (0, .ref 50), (1, .long sd)] [.int (jE x1 i)] μ1
    rw [ej]
    refine z_rcs hc hH 4 (pc' := 90) (lv' := [(6, .int (nI (jN x1 i))), (3, .long x1), (5, .int (nI (i + 1))), (7, .int kv), (0, .ref 50), (1, .long sd)]) (st' := [.int (nI (i + 1)), .ref 59]) (μ' := μ1) (by rfl) ?_
    refine zq_iald hc hH (by rfl) 136 (by decide +kernel) (vp_in_nI (by omega) (by decide)) ?_
    refine z_rcs hc hH 7 (pc' := 105) (lv' := [(7, .int (μ1.1 59 (nI (i + 1)).toNatClampNeg)), (6, .int (nI (jN x1 i))), (3, .long x1), (5, .int (nI (i + 1))), (0, .ref 50), (1, .long sd)]) (st' := [.int (nI (jN x1 i)), .ref 59, .int (nI (i + 1)), .ref 59]) (μ' := μ1) (by rfl) ?_
    refine zq_iald hc hH (by rfl) 136 (by decide +kernel) (vp_in_nI (by omega) (by decide)) ?_
    refine zq_iast hc hH (by rfl) 136 (by decide +kernel) (vp_in_nI (by omega) (by decide)) ?_
    refine z_rcs hc hH 4 (pc' := 115) (lv' := [(7, .int (μ1.1 59 (nI (i + 1)).toNatClampNeg)), (6, .int (nI (jN x1 i))), (3, .long x1), (5, .int (nI (i + 1))), (0, .ref 50), (1, .long sd)]) (st' := [.int (μ1.1 59 (nI (i + 1)).toNatClampNeg), .int (nI (jN x1 i)), .ref 59]) (μ' := z_ui μ1 59 ((nI (i + 1)).toNatClampNeg) (μ1.1 59 (nI (jN x1 i)).toNatClampNeg)) (by rfl) ?_
    refine zq_iast hc hH (by rfl) 136 (by decide +kernel) (vp_in_nI (by omega) (by decide)) ?_
    refine z_rcs hc hH 2 (pc' := 56) (lv' := [(5, .int ((nI (i + 1)) + (-1))), (7, .int (μ1.1 59 (nI (i + 1)).toNatClampNeg)), (6, .int (nI (jN x1 i))), (3, .long x1), (0, .ref 50), (1, .long sd)]) (st' := []) (μ' := z_ui (z_ui μ1 59 ((nI (i + 1)).toNatClampNeg) (μ1.1 59 (nI (jN x1 i)).toNatClampNeg)) 59 ((nI (jN x1 i)).toNatClampNeg) (μ1.1 59 (nI (i + 1)).toNatClampNeg)) (by rfl) ?_
    rw [nI_m1, nI_clamp (by omega), nI_clamp (by omega)]
    refine ih (by omega) x1 (swW f (i + 1) (jN x1 i)) (by rw [hx1]; exact hf) _ _ _ (by
      have e := g1.nx (i := i + 1) (by omega) hj
      exact e)
theorem wm3 (d' : Nat) (Z : zK) (hc : z_clo z_x0 mi_X7_deal (z_C d') Z) (sd : Int64) (μ0 : zM) (K : ∀ (x : Int64) (kv jv : Int32) μ1, WRl 59 (wlF sd) μ0 μ1 → Z 0 122 [(5, .int (nI 0)), (7, .int kv), (6, .int jv), (3, .long x), (0, .ref 50), (1, .long sd)] [] μ1) (μ1 : zM) (g1 : WR1 59 136 μ0 μ1) : Z 0 51 [(5, .int (nI 136)), (3, .long sd), (0, .ref 50), (1, .long sd)] [] μ1 := by
  have hH := zh_X7_deal
  have g1 : WRl 59 (fun k => nI (k / 4)) μ0 μ1 := g1
  refine z_rcs hc hH 2 (pc' := 56) (lv' := [(5, .int 135), (3, .long sd), (0, .ref 50), (1, .long sd)]) (st' := []) (μ' := μ1) (by rfl) ?_
  show Z 0 56 [(5, .int (nI (134 + 1))), (3, .long sd), (0, .ref 50), (1, .long sd)] [] μ1
  refine z_rcs hc hH 1 (pc' := 58) (lv' := [(5, .int (nI (134 + 1))), (3, .long sd), (0, .ref 50), (1, .long sd)]) (st' := [.int (nI (134 + 1))]) (μ' := μ1) (by rfl) ?_
  refine zq_if hc hH (by rfl) (tg := 122) (by rfl) (fun h9 => (zb_t h9 (le_nI0 (i := 134) (by omega))).elim) (fun _ => ?_)
  refine z_rcs hc hH 6 (pc' := 71) (lv' := [(3, .long ((sd * 6364136223846793005) + 1442695040888963407)), (5, .int (nI (134 + 1))), (0, .ref 50), (1, .long sd)]) (st' := []) (μ' := μ1) (by rfl) ?_
  generalize hx1 : (sd * 6364136223846793005) + 1442695040888963407 = x1
  have hx1 : x1 = nxL sd := hx1.symm
  refine z_rcs hc hH 7 (pc' := 80) (lv' := [(3, .long x1), (5, .int (nI (134 + 1))), (0, .ref 50), (1, .long sd)]) (st' := [.long (((nI (134 + 1)) + 1).toInt64), .long ((x1.toUInt64 >>> ((33 : Int32).toInt64.toUInt64 &&& Int64.toUInt64 63)).toInt64)]) (μ' := μ1) (by rfl) ?_
  obtain ⟨hne, hj, ej⟩ := jE_n x1 134 (by omega)
  refine zq_lrem hc hH (by rfl) hne ?_
  refine z_rcs hc hH 1 (pc' := 82) (lv' := [(3, .long x1), (5, .int (nI (134 + 1))), (0, .ref 50), (1, .long sd)]) (st' := [.int ((((x1.toUInt64 >>> ((33 : Int32).toInt64.toUInt64 &&& Int64.toUInt64 63)).toInt64) - ((x1.toUInt64 >>> ((33 : Int32).toInt64.toUInt64 &&& Int64.toUInt64 63)).toInt64) / (((nI (134 + 1)) + 1).toInt64) * (((nI (134 + 1)) + 1).toInt64)).toInt32)]) (μ' := μ1) (by rfl) ?_
  show Z 0 82 [(3, .long x1), (5, .int (nI (134 + 1))), (0, .ref 50), (1, .long sd)] [.int (jE x1 134)] μ1
  rw [ej]
  refine z_rcs hc hH 4 (pc' := 90) (lv' := [(6, .int (nI (jN x1 134))), (3, .long x1), (5, .int (nI (134 + 1))), (0, .ref 50), (1, .long sd)]) (st' := [.int (nI (134 + 1)), .ref 59]) (μ' := μ1) (by rfl) ?_
  refine zq_iald hc hH (by rfl) 136 (by decide +kernel) (vp_in_nI (by omega) (by decide)) ?_
  refine z_rcs hc hH 7 (pc' := 105) (lv' := [(7, .int (μ1.1 59 (nI (134 + 1)).toNatClampNeg)), (6, .int (nI (jN x1 134))), (3, .long x1), (5, .int (nI (134 + 1))), (0, .ref 50), (1, .long sd)]) (st' := [.int (nI (jN x1 134)), .ref 59, .int (nI (134 + 1)), .ref 59]) (μ' := μ1) (by rfl) ?_
  refine zq_iald hc hH (by rfl) 136 (by decide +kernel) (vp_in_nI (by omega) (by decide)) ?_
  refine zq_iast hc hH (by rfl) 136 (by decide +kernel) (vp_in_nI (by omega) (by decide)) ?_
  refine z_rcs hc hH 4 (pc' := 115) (lv' := [(7, .int (μ1.1 59 (nI (134 + 1)).toNatClampNeg)), (6, .int (nI (jN x1 134))), (3, .long x1), (5, .int (nI (134 + 1))), (0, .ref 50), (1, .long sd)]) (st' := [.int (μ1.1 59 (nI (134 + 1)).toNatClampNeg), .int (nI (jN x1 134)), .ref 59]) (μ' := z_ui μ1 59 ((nI (134 + 1)).toNatClampNeg) (μ1.1 59 (nI (jN x1 134)).toNatClampNeg)) (by rfl) ?_
  refine zq_iast hc hH (by rfl) 136 (by decide +kernel) (vp_in_nI (by omega) (by decide)) ?_
  refine z_rcs hc hH 2 (pc' := 56) (lv' := [(5, .int ((nI (134 + 1)) + (-1))), (7, .int (μ1.1 59 (nI (134 + 1)).toNatClampNeg)), (6, .int (nI (jN x1 134))), (3, .long x1), (0, .ref 50), (1, .long sd)]) (st' := []) (μ' := z_ui (z_ui μ1 59 ((nI (134 + 1)).toNatClampNeg) (μ1.1 59 (nI (jN x1 134)).toNatClampNeg)) 59 ((nI (jN x1 134)).toNatClampNeg) (μ1.1 59 (nI (134 + 1)).toNatClampNeg)) (by rfl) ?_
  rw [nI_m1, nI_clamp (by omega), nI_clamp (by omega)]
  refine wm2 d' Z hc sd μ0 (wlF sd) K 134 (by omega) x1 (swW (fun k => nI (k / 4)) (134 + 1) (jN x1 134)) (by rw [hx1]; rfl) _ _ _ (by
    have e := g1.nx (i := 134 + 1) (by omega) hj
    exact e)
theorem gc_build (d : Nat) (hd : 1 ≤ d) (μ : zM) (sd : Int64) : z_C d mi_X4_build [.ref 2, .long sd] μ (fun r μ' => r = none ∧ ∃ μ1, WRl 3 (wlF sd) μ μ1 ∧ μ' = z_ui (z_ui (z_ui μ1 2 1 1) 2 2 52) 2 3 0) := by
  refine z_C_in (by decide) (by omega) (fun d' Z ed hc hr => ?_)
  have hH := zh_X4_build
  refine z_rcs hc hH 2 (pc' := 2) (lv' := [(3, .int (nI 0)), (0, .ref 2), (1, .long sd)]) (st' := []) (μ' := μ) (by rfl) ?_
  refine wc1 d' Z hc sd μ (fun μ1 g1 => wc3 d' Z hc sd μ (fun x kv jv μ2 g2 => ?_) μ1 g1) 136 0 (by omega) μ ⟨fun k hk => absurd hk (by omega), fun _ _ _ => rfl, rfl⟩
  refine z_rcs hc hH 9 (pc' := 113) (lv' := [(5, .int (nI 0)), (7, .int kv), (6, .int jv), (3, .long x), (0, .ref 2), (1, .long sd)]) (st' := []) (μ' := z_ui (z_ui (z_ui μ2 2 1 1) 2 2 52) 2 3 0) (by rfl) ?_
  exact hr 0 113 _ _ _ none (by decide +kernel) (by rfl) (⟨rfl, μ2, g2, rfl⟩)

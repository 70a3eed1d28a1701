/-! deal -/
theorem zq_lrem {xs : Nat × (Nat → Int32)} {j : Nat} {C : Nat → List Value → zM → zQ → Prop} {Z : zK} {code : zT} {np oc nL : Nat} {b pc : Nat} {lv : zL} {μ : zM} (h : z_clo xs j C Z) (hH : zH j code np oc nL) (hi : z_tk code.2.1 pc = some .lrem) {x y : Int64} {t : List Value} (hy : ¬ y = 0) (k : Z b (pc + 1) lv (.long (x - x / y * y) :: t) μ) : Z b pc lv (.long y :: .long x :: t) μ := by
  refine zq_st h hH hi ?_ k
  show (match (bif y == 0 then none else some (Value.long (x - x / y * y) :: t)) with | some st' => some (pc + 1, lv, st', μ) | none => _) = _
  rw [beq_eq_false_iff_ne.mpr hy]
  rfl
theorem nI_d4 : ∀ i, i < 136 → nI i / 4 = nI (i / 4) := by decide +kernel
theorem nI_d13 : ∀ i, i < 52 → nI i / 13 = nI (i / 13) := by decide +kernel
theorem nI_m1 (i : Nat) : nI (i + 1) + (-1) = nI i := by rw [← nI_1, Int32.add_assoc, show (1 : Int32) + (-1) = 0 from rfl, Int32.add_zero]
theorem le_nI0 {i : Nat} (h : i + 1 < 2 ^ 31) : z_cmp .le (nI (i + 1)) 0 = false := cn_le.mpr (fun q => by
  rw [Int32.le_iff_toInt_le, nI_toInt h] at q
  have q : ((i + 1 : Nat) : Int) ≤ 0 := q
  omega)
/-- the place that a tile of the wall changes with -/
theorem dl_j (x : Int64) (i : Nat) (hi : i < 135) : ¬ (nI (i + 1) + 1).toInt64 = 0 ∧ ∃ j, j < 136 ∧ ((x.toUInt64 >>> ((33 : Int32).toInt64.toUInt64 &&& Int64.toUInt64 63)).toInt64 - (x.toUInt64 >>> ((33 : Int32).toInt64.toUInt64 &&& Int64.toUInt64 63)).toInt64 / (nI (i + 1) + 1).toInt64 * (nI (i + 1) + 1).toInt64).toInt32 = nI j := by
  have hX : bL 0 2147483647 (x.toUInt64 >>> ((33 : Int32).toInt64.toUInt64 &&& Int64.toUInt64 63)).toInt64 := bL_s33 (s := ((33 : Int32).toInt64.toUInt64 &&& Int64.toUInt64 63)) (by decide) rfl
  have hY : bL ((i + 2 : Nat) : Int) ((i + 2 : Nat) : Int) (nI (i + 1) + 1).toInt64 := bL_i2l rfl (by rw [nI_1]; exact bd_nI (by omega) ⟨by omega, by omega⟩)
  refine ⟨bL_ne hY (Or.inl (by omega)), ?_⟩
  generalize (x.toUInt64 >>> ((33 : Int32).toInt64.toUInt64 &&& Int64.toUInt64 63)).toInt64 = X at hX ⊢
  generalize (nI (i + 1) + 1).toInt64 = Y at hY ⊢
  have hR : bL 0 (i + 1) (X - X / Y * Y) := bL_remn rfl hX hY ⟨by omega, by omega, by omega⟩
  have hI : bI 0 (i + 1) (X - X / Y * Y).toInt32 := bI_l2i rfl hR ⟨by omega, by omega⟩
  exact a_nI (n := 136) hI.1 (by have := hI.2; omega) (by decide)
def DA (r : Nat) (μ0 μ1 : zM) : Prop := a_H μ1 ∧ a_Fz [(r, 9999)] μ0 μ1
theorem DA.ui {r k : Nat} {x : Int32} {μ0 μ1 : zM} (h : DA r μ0 μ1) (hx : a_bi (a_bd r k) x) : DA r μ0 (z_ui μ1 r k x) := ⟨a_H_ui h.1 hx, a_Fz_ui h.2 (a_mda_md (by unfold a_mda; simp) _)⟩
theorem HR1 {μ μ' : zM} {a c : Nat} (h0 : 0 ≤ hI μ (34 * a + c)) (h1 : hI μ (34 * a + c) ≤ 20) (e : ∀ j, μ'.1 60 j = if j = 34 * a + c then μ.1 60 j + 1 else μ.1 60 j) : HR μ μ' a c 1 := by
  refine ⟨?_, fun j hj => by unfold hI; rw [e, if_neg hj]⟩
  show (μ'.1 60 (34 * a + c)).toInt = _
  rw [e, if_pos rfl]
  have b : bI (hI μ (34 * a + c) + 1) (hI μ (34 * a + c) + 1) (μ.1 60 (34 * a + c) + 1) := bI_add rfl (a := hI μ (34 * a + c)) (b := hI μ (34 * a + c)) ⟨Int.le_refl _, Int.le_refl _⟩ (c := 1) (d := 1) ⟨by decide, by decide⟩ ⟨by omega, by omega, by omega, by omega⟩
  have := b.1
  have := b.2
  omega
/-- how many tiles a SEAT has after i -/
def gd (i s : Nat) : Int := if i ≤ 13 * s then 0 else if i ≤ 13 * s + 13 then (i : Int) - 13 * s else 13
def DD (D : Nat) (μ0 : zM) (i : Nat) (μ1 : zM) : Prop := DA 60 μ0 μ1 ∧ (∀ j, j < 136 → 0 ≤ hI μ1 j) ∧ ∀ s, s < 4 → hs μ1 ((D + s) % 4) ≤ gd i s
theorem DD.step {D i c : Nat} {μ0 μ1 : zM} (h : DD D μ0 i μ1) (hD : D < 4) (hi : i < 52) (hc : c < 34) : DD D μ0 (i + 1) (z_giv μ1 ((D + i / 13) % 4) c 1) := by
  obtain ⟨h1, h2, h3⟩ := h
  have ha : (D + i / 13) % 4 < 4 := Nat.mod_lt _ (by decide)
  have b0 := h2 (34 * ((D + i / 13) % 4) + c) (by omega)
  have b1 := h3 (i / 13) (by omega)
  have b2 : hI μ1 (34 * ((D + i / 13) % 4) + c) ≤ hs μ1 ((D + i / 13) % 4) := si_le (f := fun k => hI μ1 (34 * ((D + i / 13) % 4) + k)) (fun k hk => h2 _ (by omega)) hc
  have b3 : gd i (i / 13) ≤ 13 := by unfold gd; split; · decide
                                     split <;> omega
  have hr := HR1 b0 (by omega) (giv_60 μ1 ((D + i / 13) % 4) c 1)
  refine ⟨h1.ui (bI_top _), fun j hj => ?_, fun s hs4 => ?_⟩
  · by_cases e : j = 34 * ((D + i / 13) % 4) + c
    · rw [e, hr.1]; omega
    · rw [hr.2 j e]; exact h2 j hj
  · by_cases e : s = i / 13
    · subst e
      rw [hr.sum hc]
      have : gd i (i / 13) + 1 ≤ gd (i + 1) (i / 13) := by
        unfold gd
        rw [if_neg (show ¬ i + 1 ≤ 13 * (i / 13) by omega), if_pos (show i + 1 ≤ 13 * (i / 13) + 13 by omega)]
        split
        · omega
        · rw [if_pos (by omega)]; omega
      omega
    · rw [hr.sum' hc (by omega)]
      have : gd i s ≤ gd (i + 1) s := by
        unfold gd
        split
        · split
          · omega
          · split <;> omega
        · split
          · split
            · omega
            · split <;> omega
          · split
            · omega
            · split <;> omega
      have := h3 s hs4
      omega
def md_dE : List (Nat × Nat) := [(64, 9999), (66, 9999), (67, 9999), (68, 9999), (69, 9999), (70, 9999), (71, 9999)]
def DE (μ0 : zM) (i : Nat) (μ1 : zM) : Prop := a_H μ1 ∧ a_Fz md_dE μ0 μ1 ∧ ∀ j, j < i → μ1.1 64 j = 0 ∧ μ1.1 66 j = 0
theorem zh_X7_deal : zH mi_X7_deal zt_X7_deal 79 7 8 := hh_X7_deal
theorem dl26 (d' : Nat) (Z : zK) (hd : 703 ≤ d') (μ : zM) (hc : z_clo z_x0 mi_X7_deal (z_C d') Z) (hr : z_ret mi_X7_deal (zPG μ) Z) (x sd : Int64) (μ0 : zM) (K : ∀ μ1, DA 59 μ0 μ1 → Z 0 51 [(5, .int (nI 136)), (3, .long x), (0, .ref 50), (1, .long sd)] [] μ1) : ∀ n i, i + n = 136 → ∀ μ1, DA 59 μ0 μ1 → Z 0 26 [(5, .int (nI i)), (3, .long x), (0, .ref 50), (1, .long sd)] [] μ1 := by
  have hH := zh_X7_deal
  intro n
  induction n with
  | zero =>
    intro i hi μ1 g1
    have hi : i = 136 := by omega
    subst hi
    refine z_rcs hc hH 2 (pc' := 31) (lv' := [(5, .int (nI 136)), (3, .long x), (0, .ref 50), (1, .long sd)]) (st' := [.int 136, .int (nI 136)]) (μ' := μ1) (by rfl) ?_
    refine zq_ic hc hH (by rfl) (tg := 51) (by rfl) (fun _ => ?_) (fun h9 => (zb_t (ge_nIt (n := 136) (i := 136) (by decide) (by decide)) h9).elim)
    exact K μ1 g1
  | succ n ih =>
    intro i hi μ1 g1
    refine z_rcs hc hH 2 (pc' := 31) (lv' := [(5, .int (nI i)), (3, .long x), (0, .ref 50), (1, .long sd)]) (st' := [.int 136, .int (nI i)]) (μ' := μ1) (by rfl) ?_
    refine zq_ic hc hH (by rfl) (tg := 51) (by rfl) (fun h9 => (zb_t h9 (ge_nI (n := 136) (i := i) (by omega) (by decide))).elim) (fun _ => ?_)
    refine z_rcs hc hH 6 (pc' := 44) (lv' := [(5, .int (nI i)), (3, .long x), (0, .ref 50), (1, .long sd)]) (st' := [.int ((nI i) / 4), .int (nI i), .ref 59]) (μ' := μ1) (by rfl) ?_
    rw [nI_d4 i (by omega)]
    refine zq_iast hc hH (by rfl) 136 (by decide +kernel) (vp_in_nI (by omega) (by decide)) ?_
    have g2 : DA 59 μ0 (z_ui μ1 59 ((nI i).toNatClampNeg) (nI (i / 4))) := g1.ui (show bI 0 33 _ from bd_nI (by omega) ⟨by omega, by omega⟩)
    generalize z_ui μ1 59 ((nI i).toNatClampNeg) (nI (i / 4)) = μ2 at g2 ⊢
    refine z_rcs hc hH 2 (pc' := 26) (lv' := [(5, .int ((nI i) + 1)), (3, .long x), (0, .ref 50), (1, .long sd)]) (st' := []) (μ' := μ2) (by rfl) ?_
    rw [nI_1]
    exact ih (i + 1) (by omega) μ2 g2
theorem dl56 (d' : Nat) (Z : zK) (hd : 703 ≤ d') (μ : zM) (hc : z_clo z_x0 mi_X7_deal (z_C d') Z) (hr : z_ret mi_X7_deal (zPG μ) Z) (sd : Int64) (μ0 : zM) (K : ∀ (x : Int64) (kv jv : Int32) μ1, DA 59 μ0 μ1 → Z 0 122 [(5, .int (nI 0)), (7, .int kv), (6, .int jv), (3, .long x), (0, .ref 50), (1, .long sd)] [] μ1) : ∀ i, i < 135 → ∀ (x : Int64) (kv jv : Int32) μ1, DA 59 μ0 μ1 → Z 0 56 [(5, .int (nI i)), (7, .int kv), (6, .int jv), (3, .long x), (0, .ref 50), (1, .long sd)] [] μ1 := by
  have hH := zh_X7_deal
  intro i
  induction i with
  | zero =>
    intro hi x kv jv μ1 g1
    refine z_rcs hc hH 1 (pc' := 58) (lv' := [(5, .int (nI 0)), (7, .int kv), (6, .int jv), (3, .long x), (0, .ref 50), (1, .long sd)]) (st' := [.int (nI 0)]) (μ' := μ1) (by rfl) ?_
    refine zq_if hc hH (by rfl) (tg := 122) (by rfl) (fun _ => ?_) (fun h9 => (zb_t (by decide) h9).elim)
    exact K x kv jv μ1 g1
  | succ i ih =>
    intro hi x kv jv μ1 g1
    refine z_rcs hc hH 1 (pc' := 58) (lv' := [(5, .int (nI (i + 1))), (7, .int kv), (6, .int jv), (3, .long x), (0, .ref 50), (1, .long sd)]) (st' := [.int (nI (i + 1))]) (μ' := μ1) (by rfl) ?_
    refine zq_if hc hH (by rfl) (tg := 122) (by rfl) (fun h9 => (zb_t h9 (le_nI0 (by omega))).elim) (fun _ => ?_)
    refine z_rcs hc hH 6 (pc' := 71) (lv' := [(3, .long ((x * 6364136223846793005) + 1442695040888963407)), (5, .int (nI (i + 1))), (7, .int kv), (6, .int jv), (0, .ref 50), (1, .long sd)]) (st' := []) (μ' := μ1) (by rfl) ?_
    generalize (x * 6364136223846793005) + 1442695040888963407 = x1
    refine z_rcs hc hH 7 (pc' := 80) (lv' := [(3, .long x1), (5, .int (nI (i + 1))), (7, .int kv), (6, .int jv), (0, .ref 50), (1, .long sd)]) (st' := [.long (((nI (i + 1)) + 1).toInt64), .long ((x1.toUInt64 >>> ((33 : Int32).toInt64.toUInt64 &&& Int64.toUInt64 63)).toInt64)]) (μ' := μ1) (by rfl) ?_
    obtain ⟨hne, j, hj, ej⟩ := dl_j x1 i (by omega)
    refine zq_lrem hc hH (by rfl) hne ?_
    refine z_rcs hc hH 1 (pc' := 82) (lv' := [(3, .long x1), (5, .int (nI (i + 1))), (7, .int kv), (6, .int jv), (0, .ref 50), (1, .long sd)]) (st' := [.int ((((x1.toUInt64 >>> ((33 : Int32).toInt64.toUInt64 &&& Int64.toUInt64 63)).toInt64) - ((x1.toUInt64 >>> ((33 : Int32).toInt64.toUInt64 &&& Int64.toUInt64 63)).toInt64) / (((nI (i + 1)) + 1).toInt64) * (((nI (i + 1)) + 1).toInt64)).toInt32)]) (μ' := μ1) (by rfl) ?_
    rw [ej]
    refine z_rcs hc hH 4 (pc' := 90) (lv' := [(6, .int (nI j)), (3, .long x1), (5, .int (nI (i + 1))), (7, .int kv), (0, .ref 50), (1, .long sd)]) (st' := [.int (nI (i + 1)), .ref 59]) (μ' := μ1) (by rfl) ?_
    refine zq_iald hc hH (by rfl) 136 (by decide +kernel) (vp_in_nI (by omega) (by decide)) ?_
    have bk : bI 0 33 (μ1.1 59 (nI (i + 1)).toNatClampNeg) := g1.1 59 _
    generalize μ1.1 59 (nI (i + 1)).toNatClampNeg = kk at bk ⊢
    refine z_rcs hc hH 7 (pc' := 105) (lv' := [(7, .int kk), (6, .int (nI j)), (3, .long x1), (5, .int (nI (i + 1))), (0, .ref 50), (1, .long sd)]) (st' := [.int (nI j), .ref 59, .int (nI (i + 1)), .ref 59]) (μ' := μ1) (by rfl) ?_
    refine zq_iald hc hH (by rfl) 136 (by decide +kernel) (vp_in_nI (by omega) (by decide)) ?_
    refine zq_iast hc hH (by rfl) 136 (by decide +kernel) (vp_in_nI (by omega) (by decide)) ?_
    have g2 : DA 59 μ0 (z_ui μ1 59 ((nI (i + 1)).toNatClampNeg) (μ1.1 59 (nI j).toNatClampNeg)) := g1.ui (show bI 0 33 _ from g1.1 59 _)
    generalize z_ui μ1 59 ((nI (i + 1)).toNatClampNeg) (μ1.1 59 (nI j).toNatClampNeg) = μ2 at g2 ⊢
    refine z_rcs hc hH 4 (pc' := 115) (lv' := [(7, .int kk), (6, .int (nI j)), (3, .long x1), (5, .int (nI (i + 1))), (0, .ref 50), (1, .long sd)]) (st' := [.int kk, .int (nI j), .ref 59]) (μ' := μ2) (by rfl) ?_
    refine zq_iast hc hH (by rfl) 136 (by decide +kernel) (vp_in_nI (by omega) (by decide)) ?_
    have g3 : DA 59 μ0 (z_ui μ2 59 ((nI j).toNatClampNeg) kk) := g2.ui (show bI 0 33 _ from bk)
    generalize z_ui μ2 59 ((nI j).toNatClampNeg) kk = μ3 at g3 ⊢
    refine z_rcs hc hH 2 (pc' := 56) (lv' := [(5, .int ((nI (i + 1)) + (-1))), (7, .int kk), (6, .int (nI j)), (3, .long x1), (0, .ref 50), (1, .long sd)]) (st' := []) (μ' := μ3) (by rfl) ?_
    rw [nI_m1]
    exact ih (by omega) x1 kk (nI j) μ3 g3
theorem dl51 (d' : Nat) (Z : zK) (hd : 703 ≤ d') (μ : zM) (hc : z_clo z_x0 mi_X7_deal (z_C d') Z) (hr : z_ret mi_X7_deal (zPG μ) Z) (x sd : Int64) (μ0 μ1 : zM) (g1 : DA 59 μ0 μ1) (K : ∀ (x : Int64) (kv jv : Int32) μ1, DA 59 μ0 μ1 → Z 0 122 [(5, .int (nI 0)), (7, .int kv), (6, .int jv), (3, .long x), (0, .ref 50), (1, .long sd)] [] μ1) : Z 0 51 [(5, .int (nI 136)), (3, .long x), (0, .ref 50), (1, .long sd)] [] μ1 := by
  have hH := zh_X7_deal
  refine z_rcs hc hH 2 (pc' := 56) (lv' := [(5, .int 135), (3, .long x), (0, .ref 50), (1, .long sd)]) (st' := []) (μ' := μ1) (by rfl) ?_
  show Z 0 56 [(5, .int (nI (134 + 1))), (3, .long x), (0, .ref 50), (1, .long sd)] [] μ1
  refine z_rcs hc hH 1 (pc' := 58) (lv' := [(5, .int (nI (134 + 1))), (3, .long x), (0, .ref 50), (1, .long sd)]) (st' := [.int (nI (134 + 1))]) (μ' := μ1) (by rfl) ?_
  refine zq_if hc hH (by rfl) (tg := 122) (by rfl) (fun h9 => (zb_t h9 (le_nI0 (i := 134) (by omega))).elim) (fun _ => ?_)
  refine z_rcs hc hH 6 (pc' := 71) (lv' := [(3, .long ((x * 6364136223846793005) + 1442695040888963407)), (5, .int (nI (134 + 1))), (0, .ref 50), (1, .long sd)]) (st' := []) (μ' := μ1) (by rfl) ?_
  generalize (x * 6364136223846793005) + 1442695040888963407 = x1
  refine z_rcs hc hH 7 (pc' := 80) (lv' := [(3, .long x1), (5, .int (nI (134 + 1))), (0, .ref 50), (1, .long sd)]) (st' := [.long (((nI (134 + 1)) + 1).toInt64), .long ((x1.toUInt64 >>> ((33 : Int32).toInt64.toUInt64 &&& Int64.toUInt64 63)).toInt64)]) (μ' := μ1) (by rfl) ?_
  obtain ⟨hne, j, hj, ej⟩ := dl_j x1 134 (by omega)
  refine zq_lrem hc hH (by rfl) hne ?_
  refine z_rcs hc hH 1 (pc' := 82) (lv' := [(3, .long x1), (5, .int (nI (134 + 1))), (0, .ref 50), (1, .long sd)]) (st' := [.int ((((x1.toUInt64 >>> ((33 : Int32).toInt64.toUInt64 &&& Int64.toUInt64 63)).toInt64) - ((x1.toUInt64 >>> ((33 : Int32).toInt64.toUInt64 &&& Int64.toUInt64 63)).toInt64) / (((nI (134 + 1)) + 1).toInt64) * (((nI (134 + 1)) + 1).toInt64)).toInt32)]) (μ' := μ1) (by rfl) ?_
  rw [ej]
  refine z_rcs hc hH 4 (pc' := 90) (lv' := [(6, .int (nI j)), (3, .long x1), (5, .int (nI (134 + 1))), (0, .ref 50), (1, .long sd)]) (st' := [.int (nI (134 + 1)), .ref 59]) (μ' := μ1) (by rfl) ?_
  refine zq_iald hc hH (by rfl) 136 (by decide +kernel) (vp_in_nI (by omega) (by decide)) ?_
  have bk : bI 0 33 (μ1.1 59 (nI (134 + 1)).toNatClampNeg) := g1.1 59 _
  generalize μ1.1 59 (nI (134 + 1)).toNatClampNeg = kk at bk ⊢
  refine z_rcs hc hH 7 (pc' := 105) (lv' := [(7, .int kk), (6, .int (nI j)), (3, .long x1), (5, .int (nI (134 + 1))), (0, .ref 50), (1, .long sd)]) (st' := [.int (nI j), .ref 59, .int (nI (134 + 1)), .ref 59]) (μ' := μ1) (by rfl) ?_
  refine zq_iald hc hH (by rfl) 136 (by decide +kernel) (vp_in_nI (by omega) (by decide)) ?_
  refine zq_iast hc hH (by rfl) 136 (by decide +kernel) (vp_in_nI (by omega) (by decide)) ?_
  have g2 : DA 59 μ0 (z_ui μ1 59 ((nI (134 + 1)).toNatClampNeg) (μ1.1 59 (nI j).toNatClampNeg)) := g1.ui (show bI 0 33 _ from g1.1 59 _)
  generalize z_ui μ1 59 ((nI (134 + 1)).toNatClampNeg) (μ1.1 59 (nI j).toNatClampNeg) = μ2 at g2 ⊢
  refine z_rcs hc hH 4 (pc' := 115) (lv' := [(7, .int kk), (6, .int (nI j)), (3, .long x1), (5, .int (nI (134 + 1))), (0, .ref 50), (1, .long sd)]) (st' := [.int kk, .int (nI j), .ref 59]) (μ' := μ2) (by rfl) ?_
  refine zq_iast hc hH (by rfl) 136 (by decide +kernel) (vp_in_nI (by omega) (by decide)) ?_
  have g3 : DA 59 μ0 (z_ui μ2 59 ((nI j).toNatClampNeg) kk) := g2.ui (show bI 0 33 _ from bk)
  generalize z_ui μ2 59 ((nI j).toNatClampNeg) kk = μ3 at g3 ⊢
  refine z_rcs hc hH 2 (pc' := 56) (lv' := [(5, .int ((nI (134 + 1)) + (-1))), (7, .int kk), (6, .int (nI j)), (3, .long x1), (0, .ref 50), (1, .long sd)]) (st' := []) (μ' := μ3) (by rfl) ?_
  rw [nI_m1]
  exact dl56 d' Z hd μ hc hr sd μ0 K 134 (by omega) x1 kk (nI j) μ3 g3
theorem dl125 (d' : Nat) (Z : zK) (hd : 703 ≤ d') (μ : zM) (hc : z_clo z_x0 mi_X7_deal (z_C d') Z) (hr : z_ret mi_X7_deal (zPG μ) Z) (x sd : Int64) (kv jv : Int32) (μ0 : zM) (K : ∀ μ1, DA 60 μ0 μ1 → (∀ j, j < 136 → μ1.1 60 j = 0) → Z 0 149 [(5, .int (nI 136)), (7, .int kv), (6, .int jv), (3, .long x), (0, .ref 50), (1, .long sd)] [] μ1) : ∀ n i, i + n = 136 → ∀ μ1, DA 60 μ0 μ1 → (∀ j, j < i → μ1.1 60 j = 0) → Z 0 125 [(5, .int (nI i)), (7, .int kv), (6, .int jv), (3, .long x), (0, .ref 50), (1, .long sd)] [] μ1 := by
  have hH := zh_X7_deal
  intro n
  induction n with
  | zero =>
    intro i hi μ1 g1 z1
    have hi : i = 136 := by omega
    subst hi
    refine z_rcs hc hH 4 (pc' := 132) (lv' := [(5, .int (nI 136)), (7, .int kv), (6, .int jv), (3, .long x), (0, .ref 50), (1, .long sd)]) (st' := [.int 136, .int (nI 136)]) (μ' := μ1) (by rfl) ?_
    refine zq_ic hc hH (by rfl) (tg := 149) (by rfl) (fun _ => ?_) (fun h9 => (zb_t (ge_nIt (n := 136) (i := 136) (by decide) (by decide)) h9).elim)
    exact K μ1 g1 z1
  | succ n ih =>
    intro i hi μ1 g1 z1
    refine z_rcs hc hH 4 (pc' := 132) (lv' := [(5, .int (nI i)), (7, .int kv), (6, .int jv), (3, .long x), (0, .ref 50), (1, .long sd)]) (st' := [.int 136, .int (nI i)]) (μ' := μ1) (by rfl) ?_
    refine zq_ic hc hH (by rfl) (tg := 149) (by rfl) (fun h9 => (zb_t h9 (ge_nI (n := 136) (i := i) (by omega) (by decide))).elim) (fun _ => ?_)
    refine z_rcs hc hH 4 (pc' := 142) (lv' := [(5, .int (nI i)), (7, .int kv), (6, .int jv), (3, .long x), (0, .ref 50), (1, .long sd)]) (st' := [.int 0, .int (nI i), .ref 60]) (μ' := μ1) (by rfl) ?_
    refine zq_iast hc hH (by rfl) 136 (by decide +kernel) (vp_in_nI (by omega) (by decide)) ?_
    rw [nI_clamp (n := i) (by omega)]
    have g2 : DA 60 μ0 (z_ui μ1 60 i 0) := g1.ui (bI_top _)
    have z2 : ∀ j, j < i + 1 → (z_ui μ1 60 i 0).1 60 j = 0 := fun j hj => by
      rw [z_ui_rd]
      by_cases e : j = i
      · rw [if_pos ⟨rfl, e⟩]
      · rw [if_neg (fun z => e z.2)]; exact z1 j (by omega)
    generalize z_ui μ1 60 i 0 = μ2 at g2 z2 ⊢
    refine z_rcs hc hH 2 (pc' := 125) (lv' := [(5, .int ((nI i) + 1)), (7, .int kv), (6, .int jv), (3, .long x), (0, .ref 50), (1, .long sd)]) (st' := []) (μ' := μ2) (by rfl) ?_
    rw [nI_1]
    exact ih (i + 1) (by omega) μ2 g2 z2
theorem dl152 (d' : Nat) (Z : zK) (hd : 703 ≤ d') (μ : zM) (hc : z_clo z_x0 mi_X7_deal (z_C d') Z) (hr : z_ret mi_X7_deal (zPG μ) Z) (x sd : Int64) (kv jv : Int32) (μ0 : zM) (D : Nat) (hD : D < 4) (eD : μ0.1 50 40 = nI D) (K : ∀ μ1, DD D μ0 52 μ1 → Z 0 189 [(5, .int (nI 52)), (7, .int kv), (6, .int jv), (3, .long x), (0, .ref 50), (1, .long sd)] [] μ1) : ∀ n i, i + n = 52 → ∀ μ1, DD D μ0 i μ1 → Z 0 152 [(5, .int (nI i)), (7, .int kv), (6, .int jv), (3, .long x), (0, .ref 50), (1, .long sd)] [] μ1 := by
  have hH := zh_X7_deal
  intro n
  induction n with
  | zero =>
    intro i hi μ1 g1
    have hi : i = 52 := by omega
    subst hi
    refine z_rcs hc hH 2 (pc' := 156) (lv' := [(5, .int (nI 52)), (7, .int kv), (6, .int jv), (3, .long x), (0, .ref 50), (1, .long sd)]) (st' := [.int 52, .int (nI 52)]) (μ' := μ1) (by rfl) ?_
    refine zq_ic hc hH (by rfl) (tg := 189) (by rfl) (fun _ => ?_) (fun h9 => (zb_t (ge_nIt (n := 52) (i := 52) (by decide) (by decide)) h9).elim)
    exact K μ1 g1
  | succ n ih =>
    intro i hi μ1 g1
    have e1 : μ1.1 50 40 = nI D := (a_Fz_at g1.1.2 50 40 (by decide)).trans eD
    refine z_rcs hc hH 2 (pc' := 156) (lv' := [(5, .int (nI i)), (7, .int kv), (6, .int jv), (3, .long x), (0, .ref 50), (1, .long sd)]) (st' := [.int 52, .int (nI i)]) (μ' := μ1) (by rfl) ?_
    refine zq_ic hc hH (by rfl) (tg := 189) (by rfl) (fun h9 => (zb_t h9 (ge_nI (n := 52) (i := i) (by omega) (by decide))).elim) (fun _ => ?_)
    refine z_rcs hc hH 9 (pc' := 172) (lv' := [(5, .int (nI i)), (7, .int kv), (6, .int jv), (3, .long x), (0, .ref 50), (1, .long sd)]) (st' := [.int (((μ1.1 50 40) + ((nI i) / 13)) - ((μ1.1 50 40) + ((nI i) / 13)) / 4 * 4), .ref 50]) (μ' := μ1) (by rfl) ?_
    rw [e1, nI_d13 i (by omega), nI_add, nI_r4 _ (by omega)]
    refine z_rcs hc hH 3 (pc' := 178) (lv' := [(5, .int (nI i)), (7, .int kv), (6, .int jv), (3, .long x), (0, .ref 50), (1, .long sd)]) (st' := [.int (nI i), .ref 59, .int (nI ((D + i / 13) % 4)), .ref 50]) (μ' := μ1) (by rfl) ?_
    refine zq_iald hc hH (by rfl) 136 (by decide +kernel) (vp_in_nI (by omega) (by decide)) ?_
    rw [nI_clamp (n := i) (by omega)]
    obtain ⟨c, hc4, ec⟩ := a_nI (x := μ1.1 59 i) (n := 34) (g1.1.1 59 i).1 (by have : (μ1.1 59 i).toInt ≤ 33 := (g1.1.1 59 i).2; omega) (by decide)
    rw [ec]
    refine z_rcs hc hH 1 (pc' := 180) (lv' := [(5, .int (nI i)), (7, .int kv), (6, .int jv), (3, .long x), (0, .ref 50), (1, .long sd)]) (st' := [.int 1, .int (nI c), .int (nI ((D + i / 13) % 4)), .ref 50]) (μ' := μ1) (by rfl) ?_
    refine zq_call hc (z_cx_ok hH (by rfl)) (fc_X7_gives d' (by omega) μ1 ((D + i / 13) % 4) c 1 (Nat.mod_lt _ (by decide)) hc4) (by decide +kernel) (fun r8 μ8 hq => ?_)
    obtain ⟨rfl, rfl⟩ := hq
    have g2 := g1.step hD (by omega) hc4
    generalize z_giv μ1 ((D + i / 13) % 4) c 1 = μ2 at g2 ⊢
    show Z 0 183 [(5, .int (nI i)), (7, .int kv), (6, .int jv), (3, .long x), (0, .ref 50), (1, .long sd)] [] μ2
    refine z_rcs hc hH 2 (pc' := 152) (lv' := [(5, .int ((nI i) + 1)), (7, .int kv), (6, .int jv), (3, .long x), (0, .ref 50), (1, .long sd)]) (st' := []) (μ' := μ2) (by rfl) ?_
    rw [nI_1]
    exact ih (i + 1) (by omega) μ2 g2
theorem dl192 (d' : Nat) (Z : zK) (hd : 703 ≤ d') (μ : zM) (hc : z_clo z_x0 mi_X7_deal (z_C d') Z) (hr : z_ret mi_X7_deal (zPG μ) Z) (x sd : Int64) (kv jv : Int32) (μ0 : zM) (K : ∀ μ1, DE μ0 4 μ1 → Z 0 260 [(5, .int (nI 4)), (7, .int kv), (6, .int jv), (3, .long x), (0, .ref 50), (1, .long sd)] [] μ1) : ∀ n i, i + n = 4 → ∀ μ1, DE μ0 i μ1 → Z 0 192 [(5, .int (nI i)), (7, .int kv), (6, .int jv), (3, .long x), (0, .ref 50), (1, .long sd)] [] μ1 := by
  have hH := zh_X7_deal
  intro n
  induction n with
  | zero =>
    intro i hi μ1 g1
    have hi : i = 4 := by omega
    subst hi
    refine z_rcs hc hH 2 (pc' := 195) (lv' := [(5, .int (nI 4)), (7, .int kv), (6, .int jv), (3, .long x), (0, .ref 50), (1, .long sd)]) (st' := [.int 4, .int (nI 4)]) (μ' := μ1) (by rfl) ?_
    refine zq_ic hc hH (by rfl) (tg := 260) (by rfl) (fun _ => ?_) (fun h9 => (zb_t (ge_nIt (n := 4) (i := 4) (by decide) (by decide)) h9).elim)
    exact K μ1 g1
  | succ n ih =>
    intro i hi μ1 g1
    have ini : vp_in (nI i) 4 := vp_in_nI (by omega) (by decide)
    refine z_rcs hc hH 2 (pc' := 195) (lv' := [(5, .int (nI i)), (7, .int kv), (6, .int jv), (3, .long x), (0, .ref 50), (1, .long sd)]) (st' := [.int 4, .int (nI i)]) (μ' := μ1) (by rfl) ?_
    refine zq_ic hc hH (by rfl) (tg := 260) (by rfl) (fun h9 => (zb_t h9 (ge_nI (n := 4) (i := i) (by omega) (by decide))).elim) (fun _ => ?_)
    refine z_rcs hc hH 4 (pc' := 205) (lv' := [(5, .int (nI i)), (7, .int kv), (6, .int jv), (3, .long x), (0, .ref 50), (1, .long sd)]) (st' := [.int 0, .int (nI i), .ref 64]) (μ' := μ1) (by rfl) ?_
    refine zq_iast hc hH (by rfl) 4 (by decide +kernel) (ini) ?_
    refine z_rcs hc hH 4 (pc' := 213) (lv' := [(5, .int (nI i)), (7, .int kv), (6, .int jv), (3, .long x), (0, .ref 50), (1, .long sd)]) (st' := [.int 0, .int (nI i), .ref 66]) (μ' := z_ui μ1 64 ((nI i).toNatClampNeg) 0) (by rfl) ?_
    refine zq_iast hc hH (by rfl) 4 (by decide +kernel) (ini) ?_
    refine z_rcs hc hH 4 (pc' := 221) (lv' := [(5, .int (nI i)), (7, .int kv), (6, .int jv), (3, .long x), (0, .ref 50), (1, .long sd)]) (st' := [.int 0, .int (nI i), .ref 67]) (μ' := z_ui (z_ui μ1 64 ((nI i).toNatClampNeg) 0) 66 ((nI i).toNatClampNeg) 0) (by rfl) ?_
    refine zq_iast hc hH (by rfl) 4 (by decide +kernel) (ini) ?_
    refine z_rcs hc hH 4 (pc' := 229) (lv' := [(5, .int (nI i)), (7, .int kv), (6, .int jv), (3, .long x), (0, .ref 50), (1, .long sd)]) (st' := [.int 0, .int (nI i), .ref 68]) (μ' := z_ui (z_ui (z_ui μ1 64 ((nI i).toNatClampNeg) 0) 66 ((nI i).toNatClampNeg) 0) 67 ((nI i).toNatClampNeg) 0) (by rfl) ?_
    refine zq_iast hc hH (by rfl) 4 (by decide +kernel) (ini) ?_
    refine z_rcs hc hH 4 (pc' := 237) (lv' := [(5, .int (nI i)), (7, .int kv), (6, .int jv), (3, .long x), (0, .ref 50), (1, .long sd)]) (st' := [.int 0, .int (nI i), .ref 69]) (μ' := z_ui (z_ui (z_ui (z_ui μ1 64 ((nI i).toNatClampNeg) 0) 66 ((nI i).toNatClampNeg) 0) 67 ((nI i).toNatClampNeg) 0) 68 ((nI i).toNatClampNeg) 0) (by rfl) ?_
    refine zq_bast hc hH (by rfl) 4 (by decide +kernel) (ini) (by rfl) ?_
    refine z_rcs hc hH 4 (pc' := 245) (lv' := [(5, .int (nI i)), (7, .int kv), (6, .int jv), (3, .long x), (0, .ref 50), (1, .long sd)]) (st' := [.int 0, .int (nI i), .ref 70]) (μ' := z_ui (z_ui (z_ui (z_ui (z_ui μ1 64 ((nI i).toNatClampNeg) 0) 66 ((nI i).toNatClampNeg) 0) 67 ((nI i).toNatClampNeg) 0) 68 ((nI i).toNatClampNeg) 0) 69 ((nI i).toNatClampNeg) 0) (by rfl) ?_
    refine zq_bast hc hH (by rfl) 4 (by decide +kernel) (ini) (by rfl) ?_
    refine z_rcs hc hH 4 (pc' := 253) (lv' := [(5, .int (nI i)), (7, .int kv), (6, .int jv), (3, .long x), (0, .ref 50), (1, .long sd)]) (st' := [.int 0, .int (nI i), .ref 71]) (μ' := z_ui (z_ui (z_ui (z_ui (z_ui (z_ui μ1 64 ((nI i).toNatClampNeg) 0) 66 ((nI i).toNatClampNeg) 0) 67 ((nI i).toNatClampNeg) 0) 68 ((nI i).toNatClampNeg) 0) 69 ((nI i).toNatClampNeg) 0) 70 ((nI i).toNatClampNeg) 0) (by rfl) ?_
    refine zq_bast hc hH (by rfl) 4 (by decide +kernel) (ini) (by rfl) ?_
    rw [nI_clamp (n := i) (by omega)]
    have g2 : DE μ0 (i + 1) (z_ui (z_ui (z_ui (z_ui (z_ui (z_ui (z_ui μ1 64 i 0) 66 i 0) 67 i 0) 68 i 0) 69 i 0) 70 i 0) 71 i 0) := by
      refine ⟨a_H_ui (a_H_ui (a_H_ui (a_H_ui (a_H_ui (a_H_ui (a_H_ui g1.1 (show bI 0 4 0 from ⟨by decide, by decide⟩)) (show bI 0 135 0 from ⟨by decide, by decide⟩)) (bI_top _)) (bI_top _)) (show bI 0 1 0 from ⟨by decide, by decide⟩)) (show bI 0 1 0 from ⟨by decide, by decide⟩)) (show bI 0 1 0 from ⟨by decide, by decide⟩), a_Fz_ui (a_Fz_ui (a_Fz_ui (a_Fz_ui (a_Fz_ui (a_Fz_ui (a_Fz_ui g1.2.1 (a_mda_md (by decide) _)) (a_mda_md (by decide) _)) (a_mda_md (by decide) _)) (a_mda_md (by decide) _)) (a_mda_md (by decide) _)) (a_mda_md (by decide) _)) (a_mda_md (by decide) _), fun j hj => ?_⟩
      simp only [z_ui_rd]
      by_cases e : j = i
      · simp [e]
      · simp [e]; exact g1.2.2 j (by omega)
    generalize z_ui (z_ui (z_ui (z_ui (z_ui (z_ui (z_ui μ1 64 i 0) 66 i 0) 67 i 0) 68 i 0) 69 i 0) 70 i 0) 71 i 0 = μ2 at g2 ⊢
    refine z_rcs hc hH 2 (pc' := 192) (lv' := [(5, .int ((nI i) + 1)), (7, .int kv), (6, .int jv), (3, .long x), (0, .ref 50), (1, .long sd)]) (st' := []) (μ' := μ2) (by rfl) ?_
    rw [nI_1]
    exact ih (i + 1) (by omega) μ2 g2
theorem GH_0 {D : Nat} {μ0 μ1 μ2 : zM} (hD : D < 4) (h1 : DD D μ0 52 μ1) (h2 : DE μ1 4 μ2) : GH μ2 (fun _ => 13) ∧ sM μ2 = 0 ∧ sR μ2 = 0 := by
  have r60 : ∀ j, μ2.1 60 j = μ1.1 60 j := fun j => a_Fz_at h2.2.1 60 j (a_md_row (by decide))
  have m0 : ∀ s, s < 4 → mI μ2 s = 0 := fun s hs => by unfold mI; rw [(h2.2.2 s hs).1]; rfl
  have q0 : ∀ s, s < 4 → rI μ2 s = 0 := fun s hs => by unfold rI; rw [(h2.2.2 s hs).2]; rfl
  refine ⟨⟨fun j hj => by unfold hI; rw [r60]; exact h1.2.1 j hj, fun s hs4 => ?_⟩, ?_, ?_⟩
  · rw [hs_row r60, m0 s hs4]
    have q := h1.2.2 ((s + 4 - D) % 4) (Nat.mod_lt _ (by decide))
    rw [show (D + (s + 4 - D) % 4) % 4 = s by omega] at q
    have : gd 52 ((s + 4 - D) % 4) ≤ 13 := by
      unfold gd
      split
      · decide
      · split <;> omega
    show hs μ1 s + 3 * 0 ≤ 13
    omega
  · unfold sM; rw [m0 0 (by decide), m0 1 (by decide), m0 2 (by decide), m0 3 (by decide)]; rfl
  · unfold sR; rw [q0 0 (by decide), q0 1 (by decide), q0 2 (by decide), q0 3 (by decide)]; rfl
set_option maxRecDepth 2000 in
theorem dl260 (d' : Nat) (Z : zK) (hd : 703 ≤ d') (μ : zM) (hc : z_clo z_x0 mi_X7_deal (z_C d') Z) (hr : z_ret mi_X7_deal (zPG μ) Z) (x sd : Int64) (kv jv : Int32) (D : Nat) (hD : D < 4) (μ1 : zM) (hH1 : a_H μ1) (hG1 : GW μ1) (f1 : a_Fz md_G μ μ1) (eD : μ1.1 50 40 = nI D) (gh : GH μ1 (fun _ => 13) ∧ sM μ1 = 0 ∧ sR μ1 = 0) : Z 0 260 [(5, .int (nI 4)), (7, .int kv), (6, .int jv), (3, .long x), (0, .ref 50), (1, .long sd)] [] μ1 := by
  have hH := zh_X7_deal
  refine z_rcs hc hH 21 (pc' := 296) (lv' := [(5, .int (nI 4)), (7, .int kv), (6, .int jv), (3, .long x), (0, .ref 50), (1, .long sd)]) (st' := []) (μ' := z_ui (z_ui (z_ui (z_ui (z_ui (z_ui (z_ui μ1 50 46 52) 50 47 0) 50 48 0) 50 53 0) 50 56 1) 50 59 0) 50 55 1) (by rfl) ?_
  have H2 : a_H (z_ui (z_ui (z_ui (z_ui (z_ui (z_ui (z_ui μ1 50 46 52) 50 47 0) 50 48 0) 50 53 0) 50 56 1) 50 59 0) 50 55 1) := a_H_ui (a_H_ui (a_H_ui (a_H_ui (a_H_ui (a_H_ui (a_H_ui hH1 ⟨by decide, by decide⟩) ⟨by decide, by decide⟩) ⟨by decide, by decide⟩) ⟨by decide, by decide⟩) ⟨by decide, by decide⟩) ⟨by decide, by decide⟩) ⟨by decide, by decide⟩
  have g2 : GW (z_ui (z_ui (z_ui (z_ui (z_ui (z_ui (z_ui μ1 50 46 52) 50 47 0) 50 48 0) 50 53 0) 50 56 1) 50 59 0) 50 55 1) := GW_ne (GW_ne (GW_ne (GW_ne (GW_ne (GW_ne (GW_ne hG1 (by decide)) (by decide)) (by decide)) (by decide)) (by decide)) (by decide)) (by decide)
  have f2 : a_Fz [(50, 46), (50, 47), (50, 48), (50, 53), (50, 56), (50, 59), (50, 55)] μ1 (z_ui (z_ui (z_ui (z_ui (z_ui (z_ui (z_ui μ1 50 46 52) 50 47 0) 50 48 0) 50 53 0) 50 56 1) 50 59 0) 50 55 1) := a_Fz_ui (a_Fz_ui (a_Fz_ui (a_Fz_ui (a_Fz_ui (a_Fz_ui (a_Fz_ui (a_Fz_rf _ _) (by decide)) (by decide)) (by decide)) (by decide)) (by decide)) (by decide)) (by decide)
  have e46 : (z_ui (z_ui (z_ui (z_ui (z_ui (z_ui (z_ui μ1 50 46 52) 50 47 0) 50 48 0) 50 53 0) 50 56 1) 50 59 0) 50 55 1).1 50 46 = nI 52 := by rw [z_ui_rd, if_neg (by omega), z_ui_rd, if_neg (by omega), z_ui_rd, if_neg (by omega), z_ui_rd, if_neg (by omega), z_ui_rd, if_neg (by omega), z_ui_rd, if_neg (by omega), z_ui_rd, if_pos ⟨rfl, rfl⟩]; rfl
  have e47 : (z_ui (z_ui (z_ui (z_ui (z_ui (z_ui (z_ui μ1 50 46 52) 50 47 0) 50 48 0) 50 53 0) 50 56 1) 50 59 0) 50 55 1).1 50 47 = 0 := by rw [z_ui_rd, if_neg (by omega), z_ui_rd, if_neg (by omega), z_ui_rd, if_neg (by omega), z_ui_rd, if_neg (by omega), z_ui_rd, if_neg (by omega), z_ui_rd, if_pos ⟨rfl, rfl⟩]
  have e48 : (z_ui (z_ui (z_ui (z_ui (z_ui (z_ui (z_ui μ1 50 46 52) 50 47 0) 50 48 0) 50 53 0) 50 56 1) 50 59 0) 50 55 1).1 50 48 = 0 := by rw [z_ui_rd, if_neg (by omega), z_ui_rd, if_neg (by omega), z_ui_rd, if_neg (by omega), z_ui_rd, if_neg (by omega), z_ui_rd, if_pos ⟨rfl, rfl⟩]
  generalize z_ui (z_ui (z_ui (z_ui (z_ui (z_ui (z_ui μ1 50 46 52) 50 47 0) 50 48 0) 50 53 0) 50 56 1) 50 59 0) 50 55 1 = μ2 at H2 g2 f2 e46 e47 e48 ⊢
  have r60 : ∀ j, μ2.1 60 j = μ1.1 60 j := fun j => a_Fz_at f2 60 j (a_md_row (by decide))
  have r64 : ∀ j, μ2.1 64 j = μ1.1 64 j := fun j => a_Fz_at f2 64 j (a_md_row (by decide))
  have r66 : ∀ j, μ2.1 66 j = μ1.1 66 j := fun j => a_Fz_at f2 66 j (a_md_row (by decide))
  have eD2 : μ2.1 50 40 = nI D := (a_Fz_at f2 50 40 (by decide)).trans eD
  refine z_rcs hc hH 4 (pc' := 302) (lv' := [(5, .int (nI 4)), (7, .int kv), (6, .int jv), (3, .long x), (0, .ref 50), (1, .long sd)]) (st' := [.int 0, .int (μ2.1 50 40), .ref 50]) (μ' := μ2) (by rfl) ?_
  rw [eD2]
  refine zq_call hc (z_cx_ok hH (by rfl)) (fc_X7_draws0 d' (by omega) μ2 D 52 hD (by decide) e46 H2) (by decide +kernel) (fun r7 μ7 hq => ?_)
  obtain ⟨rfl, k1, k2, k3, k4, k5, k6, k7, c, hc4, k8, k9⟩ := hq
  have hG : GP μ7 := by
    have eM : sM μ2 = 0 := by rw [← gh.2.1]; unfold sM mI; simp only [r64]
    have eR : sR μ2 = 0 := by rw [← gh.2.2]; unfold sR rI; simp only [r66]
    refine GP_drawn hD hc4 k2 H2 (gh.1.keep r60 r64) k3 k4 k8 k9 ?_ (by rw [k7, e48, e47]) ?_
    · rw [k6, e47]; decide
    · rw [k6, k7, e48, eM, eR]; decide
  have hE : zPG μ (some (.int 1)) μ7 := ⟨⟨1, rfl⟩, ⟨k1, GW_keep g2 k2 (by decide), fun _ => hG⟩, a_Fz_tr (by decide) (a_Fz_tr (by decide) f1 f2) k2⟩
  show Z 0 305 [(5, .int (nI 4)), (7, .int kv), (6, .int jv), (3, .long x), (0, .ref 50), (1, .long sd)] [] μ7
  refine z_rcs hc hH 1 (pc' := 306) (lv' := [(5, .int (nI 4)), (7, .int kv), (6, .int jv), (3, .long x), (0, .ref 50), (1, .long sd)]) (st' := [.int 1]) (μ' := μ7) (by rfl) ?_
  exact hr 0 306 _ _ _ (some (.int 1)) (by decide +kernel) (by rfl) hE
set_option maxRecDepth 2000 in
theorem fc_X7_deal (d : Nat) (hd : 704 ≤ d) (μ : zM) (sd : Int64) (hi : GI μ) : z_C d mi_X7_deal [.ref 50, .long sd] μ (zPG μ) := by
  refine z_C_in (by decide) (by omega) (fun d' Z ed hc hr => ?_)
  have hH := zh_X7_deal
  refine z_rcs hc hH 3 (pc' := 5) (lv' := [(0, .ref 50), (1, .long sd)]) (st' := []) (μ' := z_ui μ 50 0 0) (by rfl) ?_
  have h0 := hi.put
  have f0 := fG0 μ
  obtain ⟨D, hD, eD⟩ := dealer_nI h0.1
  generalize z_ui μ 50 0 0 = μ0 at h0 f0 eD ⊢
  refine z_rcs hc hH 2 (pc' := 9) (lv' := [(0, .ref 50), (1, .long sd)]) (st' := [.int (μ0.1 50 44)]) (μ' := μ0) (by rfl) ?_
  refine zq_if hc hH (by rfl) (tg := 19) (by rfl) (fun h1 => ?_) (fun h1 => ?_)
  · have h1 := cm_ne.mp h1
    refine z_rcs hc hH 1 (pc' := 20) (lv' := [(0, .ref 50), (1, .long sd)]) (st' := [.int 0]) (μ' := μ0) (by rfl) ?_
    exact hr 0 20 _ _ _ (some (.int 0)) (by decide +kernel) (z_rx_ok hH (by rfl)) (⟨⟨0, rfl⟩, h0, f0⟩)
  · have h1 := cn_ne.mp h1
    refine z_rcs hc hH 2 (pc' := 16) (lv' := [(0, .ref 50), (1, .long sd)]) (st' := [.int (μ0.1 50 54)]) (μ' := μ0) (by rfl) ?_
    refine zq_if hc hH (by rfl) (tg := 21) (by rfl) (fun h2 => ?_) (fun h2 => ?_)
    · have h2 := cm_eq9.mp h2
      refine z_rcs hc hH 4 (pc' := 26) (lv' := [(5, .int 0), (3, .long sd), (0, .ref 50), (1, .long sd)]) (st' := []) (μ' := μ0) (by rfl) ?_
      have hd : 703 ≤ d' := by omega
      refine dl26 d' Z hd μ hc hr sd sd μ0 (fun μ1 g1 => ?_) 136 0 (by omega) μ0 ⟨h0.1, a_Fz_rf _ _⟩
      refine dl51 d' Z hd μ hc hr sd sd μ0 μ1 g1 (fun x kv jv μ2 g2 => ?_)
      clear g1 μ1
      have eD2 : μ2.1 50 40 = nI D := (a_Fz_at g2.2 50 40 (by decide)).trans eD
      refine z_rcs hc hH 2 (pc' := 125) (lv' := [(5, .int 0), (7, .int kv), (6, .int jv), (3, .long x), (0, .ref 50), (1, .long sd)]) (st' := []) (μ' := μ2) (by rfl) ?_
      refine dl125 d' Z hd μ hc hr x sd kv jv μ2 (fun μ3 g3 z3 => ?_) 136 0 (by omega) μ2 ⟨g2.1, a_Fz_rf _ _⟩ (fun j hj => absurd hj (by omega))
      have eD3 : μ3.1 50 40 = nI D := (a_Fz_at g3.2 50 40 (by decide)).trans eD2
      refine z_rcs hc hH 2 (pc' := 152) (lv' := [(5, .int 0), (7, .int kv), (6, .int jv), (3, .long x), (0, .ref 50), (1, .long sd)]) (st' := []) (μ' := μ3) (by rfl) ?_
      refine dl152 d' Z hd μ hc hr x sd kv jv μ3 D hD eD3 (fun μ4 g4 => ?_) 52 0 (by omega) μ3 ⟨⟨g3.1, a_Fz_rf _ _⟩, fun j hj => by unfold hI; rw [z3 j hj]; decide, fun s hs4 => ?_⟩
      rotate_left
      · have e : hs μ3 ((D + s) % 4) = 0 := by
          unfold hs
          rw [si_congr (f := fun _ => 0) (fun k hk => by unfold hI; rw [z3 _ (by have := Nat.mod_lt (D + s) (show 0 < 4 by decide); omega)]; rfl)]
          rfl
        rw [e]
        unfold gd
        rw [if_pos (by omega)]
        exact Int.le_refl _
      have eD4 : μ4.1 50 40 = nI D := (a_Fz_at g4.1.2 50 40 (by decide)).trans eD3
      refine z_rcs hc hH 2 (pc' := 192) (lv' := [(5, .int 0), (7, .int kv), (6, .int jv), (3, .long x), (0, .ref 50), (1, .long sd)]) (st' := []) (μ' := μ4) (by rfl) ?_
      refine dl192 d' Z hd μ hc hr x sd kv jv μ4 (fun μ5 g5 => ?_) 4 0 (by omega) μ4 ⟨g4.1.1, a_Fz_rf _ _, fun j hj => absurd hj (by omega)⟩
      have eD5 : μ5.1 50 40 = nI D := (a_Fz_at g5.2.1 50 40 (by decide)).trans eD4
      have fA : a_Fz md_G μ μ5 := a_Fz_tr (by decide) (a_Fz_tr (by decide) (a_Fz_tr (by decide) (a_Fz_tr (by decide) f0 g2.2) g3.2) g4.1.2) g5.2.1
      have gA : GW μ5 := GW_keep (GW_keep (GW_keep (GW_keep h0.2.1 g2.2 (by decide)) g3.2 (by decide)) g4.1.2 (by decide)) g5.2.1 (by decide)
      exact dl260 d' Z hd μ hc hr x sd kv jv D hD μ5 g5.1 gA fA eD5 (GH_0 hD g4 g5)
    · have h2 := cn_eq.mp h2
      refine z_rcs hc hH 1 (pc' := 20) (lv' := [(0, .ref 50), (1, .long sd)]) (st' := [.int 0]) (μ' := μ0) (by rfl) ?_
      exact hr 0 20 _ _ _ (some (.int 0)) (by decide +kernel) (z_rx_ok hH (by rfl)) (⟨⟨0, rfl⟩, h0, f0⟩)

/-! the game: deal of the class -/
set_option maxRecDepth 8000
def SDx (f : Nat → Int32) (μ : zM) (s p : Nat) : Prop := (∀ k, k < 34 → μ.1 (20 + 8 * s) k = nI (cW f (13 * p) k 13) ∧ μ.1 (21 + 8 * s) k = nI (cW f (13 * p) k 13)) ∧ μ.1 (19 + 8 * s) 4 = 0 ∧ μ.1 (19 + 8 * s) 5 = nI 13 ∧ μ.1 (18 + 8 * s) 2 = 0 ∧ μ.1 (18 + 8 * s) 5 = 0 ∧ μ.1 (18 + 8 * s) 6 = 0 ∧ μ.1 (18 + 8 * s) 7 = 0 ∧ μ.1 (18 + 8 * s) 8 = 0 ∧ μ.1 (18 + 8 * s) 9 = 0 ∧ μ.2.1 (18 + 8 * s) 3 = 0
/-- SETS, discards, points, records as before -/
def DFr (μ0 μ1 : zM) : Prop := (∀ r k, (r < 18 ∨ 49 < r ∨ r % 8 = 6 ∨ r % 8 = 7 ∨ r % 8 = 0 ∨ r % 8 = 1 ∨ (r % 8 = 2 ∧ k = 4)) → μ1.1 r k = μ0.1 r k) ∧ ∀ r k, (r < 18 ∨ 49 < r ∨ k ≠ 3) → μ1.2.1 r k = μ0.2.1 r k
def CDR (μb : zM) (f : Nat → Int32) (dl I : Nat) (μ1 : zM) : Prop := (∀ p, p < I → SDx f μ1 ((dl + p) % 4) p) ∧ DFr μb μ1
def PTR (f : Nat → Int32) (u I j : Nat) (μs μ1 : zM) : Prop := (∀ k, k < 34 → μ1.1 (20 + 8 * u) k = nI (cW f (13 * I) k j) ∧ μ1.1 (21 + 8 * u) k = nI (cW f (13 * I) k j)) ∧ μ1.1 (19 + 8 * u) 5 = nI j ∧ (∀ r k, r ≠ 20 + 8 * u → r ≠ 21 + 8 * u → ¬ (r = 19 + 8 * u ∧ k = 5) → μ1.1 r k = μs.1 r k) ∧ μ1.2 = μs.2
theorem pS_20 {μ : zM} {j k k' : Nat} {n : Int32} : (pS μ j k n).1 (20 + 8 * j) k' = if k' = k then μ.1 (20 + 8 * j) k + n else μ.1 (20 + 8 * j) k' := by
  unfold pS
  rw [ui_o (by omega), ui_o (by omega)]
  by_cases e : k' = k
  · rw [if_pos e, e, ui_s]
  · rw [if_neg e, ui_k e]
theorem pS_21 {μ : zM} {j k k' : Nat} {n : Int32} : (pS μ j k n).1 (21 + 8 * j) k' = if k' = k then μ.1 (21 + 8 * j) k + n else μ.1 (21 + 8 * j) k' := by
  unfold pS
  rw [ui_o (by omega)]
  by_cases e : k' = k
  · rw [if_pos e, e, ui_s]
  · rw [if_neg e, ui_k e, ui_o (by omega)]
theorem pS_5 {μ : zM} {j k : Nat} {n : Int32} : (pS μ j k n).1 (19 + 8 * j) 5 = μ.1 (19 + 8 * j) 5 + n := by unfold pS; rw [ui_s]
theorem cW_s {f : Nat → Int32} {a k n v : Nat} (hv : v < 34) (hk : k < 34) (hf : f (a + n) = nI v) : cW f a k (n + 1) = cW f a k n + (if k = v then 1 else 0) := by
  show cW f a k n + (if f (a + n) = nI k then 1 else 0) = _
  rw [hf]
  by_cases e : k = v
  · rw [if_pos e, if_pos (by rw [e])]
  · rw [if_neg e, if_neg (fun q => e ((nI_eq (a := v) (b := k) (by omega) (by omega)).mp q).symm)]
theorem PTR.nx {f : Nat → Int32} {u I j v : Nat} {μs μ1 : zM} (h : PTR f u I j μs μ1) (hv : v < 34) (hf : f (13 * I + j) = nI v) : PTR f u I (j + 1) μs (pS μ1 u v 1) := by
  refine ⟨fun k hk => ?_, by rw [pS_5, h.2.1, nI_s1], fun r k h1 h2 h3 => by rw [pS_g (by omega)]; exact h.2.2.1 r k h1 h2 h3, h.2.2.2⟩
  rw [pS_20, pS_21, cW_s hv hk hf]
  by_cases e : k = v
  · rw [if_pos e, if_pos e, if_pos e, ← e, (h.1 k hk).1, (h.1 k hk).2, nI_s1]; exact ⟨rfl, rfl⟩
  · rw [if_neg e, if_neg e, if_neg e, Nat.add_zero]; exact h.1 k hk
theorem sHm_o {μ : zM} {j r k : Nat} (h : r ≠ 18 + 8 * j) : (sHm μ j).1 r k = μ.1 r k := by unfold sHm; rw [ui_o h, ui_o h, ui_o h, ui_o h, ui_o h, uj_i, ui_o h]
theorem sHm_4 {μ : zM} {j r : Nat} : (sHm μ j).1 r 4 = μ.1 r 4 := by unfold sHm; rw [ui_k (by decide), ui_k (by decide), ui_k (by decide), ui_k (by decide), ui_k (by decide), uj_i, ui_k (by decide)]
theorem sHm_j {μ : zM} {j r k : Nat} (h : r ≠ 18 + 8 * j ∨ k ≠ 3) : (sHm μ j).2.1 r k = μ.2.1 r k := by
  unfold sHm
  rw [ui_j, ui_j, ui_j, ui_j, ui_j]
  rcases h with h | h
  · rw [uj_o h, ui_j]
  · rw [uj_k h, ui_j]
theorem sHm_s {μ : zM} {j : Nat} : (sHm μ j).1 (18 + 8 * j) 2 = 0 ∧ (sHm μ j).1 (18 + 8 * j) 5 = 0 ∧ (sHm μ j).1 (18 + 8 * j) 6 = 0 ∧ (sHm μ j).1 (18 + 8 * j) 7 = 0 ∧ (sHm μ j).1 (18 + 8 * j) 8 = 0 ∧ (sHm μ j).1 (18 + 8 * j) 9 = 0 ∧ (sHm μ j).2.1 (18 + 8 * j) 3 = 0 := by
  unfold sHm
  refine ⟨?_, ?_, ?_, ?_, ?_, ?_, ?_⟩
  · rw [ui_k (by decide), ui_k (by decide), ui_k (by decide), ui_k (by decide), ui_k (by decide), uj_i, ui_s]
  · rw [ui_k (by decide), ui_k (by decide), ui_k (by decide), ui_k (by decide), ui_s]
  · rw [ui_k (by decide), ui_k (by decide), ui_k (by decide), ui_s]
  · rw [ui_k (by decide), ui_k (by decide), ui_s]
  · rw [ui_k (by decide), ui_s]
  · rw [ui_s]
  · rw [ui_j, ui_j, ui_j, ui_j, ui_j, uj_s]
theorem eMt.pt {f : Nat → Int32} {u I : Nat} {μ1 μe : zM} (h : eMt μ1 u μe) : PTR f u I 0 (sHm μe u) (sHm μe u) := ⟨fun k hk => by rw [sHm_o (by omega), sHm_o (by omega)]; exact h.1 k hk, by rw [sHm_o (by omega)]; exact h.2.2.1, fun _ _ _ _ _ => rfl, rfl⟩
theorem CDR.nx {μb : zM} {f : Nat → Int32} {dl I u : Nat} {μ1 μe μ2 : zM} (h : CDR μb f dl I μ1) (he : eMt μ1 u μe) (hp : PTR f u I 13 (sHm μe u) μ2) (hu : (dl + I) % 4 = u) (hI : I < 4) : CDR μb f dl (I + 1) μ2 := by
  have hu4 : u < 4 := by omega
  have rd : ∀ r k, r ≠ 20 + 8 * u → r ≠ 21 + 8 * u → ¬ (r = 19 + 8 * u ∧ (k = 4 ∨ k = 5)) → (r ≠ 18 + 8 * u ∨ k = 4) → μ2.1 r k = μ1.1 r k := fun r k h1 h2 h3 h4 => by
    rw [hp.2.2.1 r k h1 h2 (fun q => h3 ⟨q.1, Or.inr q.2⟩)]
    rcases h4 with h4 | h4
    · rw [sHm_o h4]; exact he.2.2.2.1 r k h1 h2 h3
    · rw [h4, sHm_4]; rw [h4] at h3; exact he.2.2.2.1 r 4 h1 h2 h3
  have rj : ∀ r k, (r ≠ 18 + 8 * u ∨ k ≠ 3) → μ2.2.1 r k = μ1.2.1 r k := fun r k h1 => by rw [hp.2.2.2, sHm_j h1, he.2.2.2.2]
  refine ⟨fun p hp2 => ?_, fun r k hr => ?_, fun r k hr => ?_⟩
  · by_cases e : p = I
    · subst e
      rw [hu]
      have z := sHm_s (μ := μe) (j := u)
      refine ⟨hp.1, ?_, hp.2.1, ?_, ?_, ?_, ?_, ?_, ?_, ?_⟩
      · rw [hp.2.2.1 _ _ (by omega) (by omega) (by omega), sHm_o (by omega)]; exact he.2.1
      · rw [hp.2.2.1 _ _ (by omega) (by omega) (by omega)]; exact z.1
      · rw [hp.2.2.1 _ _ (by omega) (by omega) (by omega)]; exact z.2.1
      · rw [hp.2.2.1 _ _ (by omega) (by omega) (by omega)]; exact z.2.2.1
      · rw [hp.2.2.1 _ _ (by omega) (by omega) (by omega)]; exact z.2.2.2.1
      · rw [hp.2.2.1 _ _ (by omega) (by omega) (by omega)]; exact z.2.2.2.2.1
      · rw [hp.2.2.1 _ _ (by omega) (by omega) (by omega)]; exact z.2.2.2.2.2.1
      · rw [hp.2.2.2]; exact z.2.2.2.2.2.2
    · have g := h.1 p (by omega)
      have hne : (dl + p) % 4 ≠ u := by omega
      generalize (dl + p) % 4 = v at g hne ⊢
      refine ⟨fun k hk => ?_, ?_, ?_, ?_, ?_, ?_, ?_, ?_, ?_, ?_⟩
      · rw [rd _ _ (by omega) (by omega) (by omega) (by omega), rd _ _ (by omega) (by omega) (by omega) (by omega)]; exact g.1 k hk
      · rw [rd _ _ (by omega) (by omega) (by omega) (by omega)]; exact g.2.1
      · rw [rd _ _ (by omega) (by omega) (by omega) (by omega)]; exact g.2.2.1
      · rw [rd _ _ (by omega) (by omega) (by omega) (by omega)]; exact g.2.2.2.1
      · rw [rd _ _ (by omega) (by omega) (by omega) (by omega)]; exact g.2.2.2.2.1
      · rw [rd _ _ (by omega) (by omega) (by omega) (by omega)]; exact g.2.2.2.2.2.1
      · rw [rd _ _ (by omega) (by omega) (by omega) (by omega)]; exact g.2.2.2.2.2.2.1
      · rw [rd _ _ (by omega) (by omega) (by omega) (by omega)]; exact g.2.2.2.2.2.2.2.1
      · rw [rd _ _ (by omega) (by omega) (by omega) (by omega)]; exact g.2.2.2.2.2.2.2.2.1
      · rw [rj _ _ (by omega)]; exact g.2.2.2.2.2.2.2.2.2
  · rw [rd r k (by omega) (by omega) (by omega) (by omega)]; exact h.2.1 r k hr
  · rw [rj r k (by omega)]; exact h.2.2 r k hr
theorem nI_13 {I j : Nat} : (13 * (nI I)) + (nI j) = nI (13 * I + j) := by rw [show (13 : Int32) = nI 13 from rfl, nI_ml, nI_add]
def DLX (dl : Nat) (sd : Int64) (μ μ3 : zM) : Prop := ∃ μb, CDR μb (wlF sd) dl 4 μ3 ∧ (∀ k, k < 136 → μb.1 3 k = wlF sd k) ∧ μb.1 2 1 = 1 ∧ μb.1 2 2 = 52 ∧ μb.1 2 3 = 0 ∧ (∀ r k, r ≠ 3 → (r ≠ 2 ∨ (k ≠ 1 ∧ k ≠ 2 ∧ k ≠ 3)) → μb.1 r k = μ.1 r k) ∧ μb.2 = μ.2
theorem zhx_X6_deal : zH mi_X6_deal zc_X6_deal 79 6 6 := ⟨by rfl, by rfl, by rfl, by rfl⟩
theorem dx51 (d' : Nat) (Z : zK) (hc : z_clo z_x0 mi_X6_deal (z_C d') Z) (hd : 3 ≤ d') (sd s0 : Int64) (u I : Nat) (hu4 : u < 4) (hI : I < 4) (μs : zM) (hS1 : μs.1 2 1 = 1) (hW : ∀ k, k < 136 → μs.1 3 k = wlF s0 k) (K : ∀ μ2, PTR (wlF s0) u I 13 μs μ2 → Z 0 87 [(5, .int (nI 13)), (4, .ref (18 + 8 * u)), (3, .int (nI I)), (0, .ref 0), (1, .long sd)] [] μ2) : ∀ n j, j + n = 13 → ∀ μ1, PTR (wlF s0) u I j μs μ1 → Z 0 51 [(5, .int (nI j)), (4, .ref (18 + 8 * u)), (3, .int (nI I)), (0, .ref 0), (1, .long sd)] [] μ1 := by
  have hH := zhx_X6_deal
  intro n
  induction n with
  | zero =>
    intro j hj μ1 g1
    have hj : j = 13 := by omega
    subst hj
    refine z_rcs hc hH 2 (pc' := 55) (lv' := [(5, .int (nI 13)), (4, .ref (18 + 8 * u)), (3, .int (nI I)), (0, .ref 0), (1, .long sd)]) (st' := [.int 13, .int (nI 13)]) (μ' := μ1) (by rfl) ?_
    refine zq_ic hc hH (by rfl) (tg := 87) (by rfl) (fun h1 => ?_) (fun h1 => ?_)
    · have h1 : (decide (13 ≤ (nI 13))) = true := decide_eq_true (cm_ge.mp h1)
      exact K μ1 g1
    · have h1 : (decide (13 ≤ (nI 13))) = false := decide_eq_false (cn_ge.mp h1)
      exact absurd (Eq.trans (Eq.symm (kn_le2 (m := 13) rfl (by omega) (by omega))) h1) (by decide)
  | succ n ih =>
    intro j hj μ1 g1
    refine z_rcs hc hH 2 (pc' := 55) (lv' := [(5, .int (nI j)), (4, .ref (18 + 8 * u)), (3, .int (nI I)), (0, .ref 0), (1, .long sd)]) (st' := [.int 13, .int (nI j)]) (μ' := μ1) (by rfl) ?_
    refine zq_ic hc hH (by rfl) (tg := 87) (by rfl) (fun h1 => ?_) (fun h1 => ?_)
    · have h1 : (decide (13 ≤ (nI j))) = true := decide_eq_true (cm_ge.mp h1)
      exact absurd (Eq.trans (Eq.symm (kn_le (m := 13) rfl (by omega) (by omega))) h1) (by decide)
    · have h1 : (decide (13 ≤ (nI j))) = false := decide_eq_false (cn_ge.mp h1)
      refine z_rcs hc hH 1 (pc' := 60) (lv' := [(5, .int (nI j)), (4, .ref (18 + 8 * u)), (3, .int (nI I)), (0, .ref 0), (1, .long sd)]) (st' := [.ref (18 + 8 * u)]) (μ' := μ1) (by rfl) ?_
      refine zq_gfr hc hH (by rfl) (ci := 1) (f := 0) (q := 19 + 8 * u) (by rfl) (sj (P := fun i => okf 79 1 0 (18 + 8 * i)) hu4 (by decide +kernel)) (by rfl) (sj (P := fun i => Nat.beq (z_gr (18 + 8 * i) 0) (19 + 8 * i)) hu4 (by decide +kernel)) ?_
      refine z_rcs hc hH 1 (pc' := 64) (lv' := [(5, .int (nI j)), (4, .ref (18 + 8 * u)), (3, .int (nI I)), (0, .ref 0), (1, .long sd)]) (st' := [.ref 0, .ref (19 + 8 * u)]) (μ' := μ1) (by rfl) ?_
      refine zq_gfr hc hH (by rfl) (ci := 5) (f := 1) (q := 2) (by rfl) (by decide +kernel) (by rfl) (by decide +kernel) ?_
      refine z_rcs hc hH 5 (pc' := 74) (lv' := [(5, .int (nI j)), (4, .ref (18 + 8 * u)), (3, .int (nI I)), (0, .ref 0), (1, .long sd)]) (st' := [.int ((13 * (nI I)) + (nI j)), .ref 2, .ref (19 + 8 * u)]) (μ' := μ1) (by rfl) ?_
      rw [nI_13]
      have ek : μ1.1 3 (13 * I + j) = nI (wlN s0 (13 * I + j)) := by rw [g1.2.2.1 3 _ (by omega) (by omega) (by omega), hW _ (by omega)]; exact (wlN_e s0 (by omega)).1
      refine zq_call hc (by rfl) (gc_kindAtN d' (by omega) μ1 (13 * I + j) (by omega) (by rw [g1.2.2.1 2 1 (by omega) (by omega) (by omega)]; exact hS1)) (by decide +kernel) (fun r9 μ9 hq => ?_)
      obtain ⟨hμ9, rfl⟩ := hq
      rw [hμ9]
      clear hμ9 μ9
      rw [ek]
      show Z 0 77 [(5, .int (nI j)), (4, .ref (18 + 8 * u)), (3, .int (nI I)), (0, .ref 0), (1, .long sd)] [.int (nI (wlN s0 (13 * I + j))), .ref (19 + 8 * u)] μ1
      refine z_rcs hc hH 1 (pc' := 78) (lv' := [(5, .int (nI j)), (4, .ref (18 + 8 * u)), (3, .int (nI I)), (0, .ref 0), (1, .long sd)]) (st' := [.int 1, .int (nI (wlN s0 (13 * I + j))), .ref (19 + 8 * u)]) (μ' := μ1) (by rfl) ?_
      refine zq_call hc (z_clv (by rfl) (by rfl) (by rfl) (by rfl) (by rfl) (by rfl) (sj (P := fun i => okr 79 2 (19 + 8 * i)) hu4 (by decide +kernel)) (by rfl) (by rfl)) (gc_put d' (by omega) μ1 u hu4 (wlN s0 (13 * I + j)) (wlN_e s0 (by omega)).2 1) (by decide +kernel) (fun r9 μ9 hq => ?_)
      obtain ⟨rfl, rfl⟩ := hq
      show Z 0 81 [(5, .int (nI j)), (4, .ref (18 + 8 * u)), (3, .int (nI I)), (0, .ref 0), (1, .long sd)] [] (pS μ1 u (wlN s0 (13 * I + j)) 1)
      refine z_rcs hc hH 2 (pc' := 51) (lv' := [(5, .int ((nI j) + 1)), (4, .ref (18 + 8 * u)), (3, .int (nI I)), (0, .ref 0), (1, .long sd)]) (st' := []) (μ' := pS μ1 u (wlN s0 (13 * I + j)) 1) (by rfl) ?_
      rw [nI_s1]
      exact ih (j + 1) (by omega) _ (g1.nx (wlN_e s0 (by omega)).2 (wlN_e s0 (by omega)).1)
theorem dx26 (d' : Nat) (Z : zK) (hc : z_clo z_x0 mi_X6_deal (z_C d') Z) (hd : 4 ≤ d') (sd : Int64) (dl : Nat) (hdl4 : dl < 4) (μb : zM) (hdl : μb.1 0 9 = nI dl) (hS1 : μb.1 2 1 = 1) (hW : ∀ k, k < 136 → μb.1 3 k = wlF sd k) (K : ∀ v μ2, v < 4 → CDR μb (wlF sd) dl 4 μ2 → Z 0 93 [(3, .int (nI 4)), (5, .int (nI 13)), (4, .ref (18 + 8 * v)), (0, .ref 0), (1, .long sd)] [] μ2) : ∀ n I, I + n = 4 → ∀ v μ1, v < 4 → CDR μb (wlF sd) dl I μ1 → Z 0 26 [(3, .int (nI I)), (5, .int (nI 13)), (4, .ref (18 + 8 * v)), (0, .ref 0), (1, .long sd)] [] μ1 := by
  have hH := zhx_X6_deal
  intro n
  induction n with
  | zero =>
    intro I hI v μ1 hv g1
    have hI : I = 4 := by omega
    subst hI
    refine z_rcs hc hH 2 (pc' := 28) (lv' := [(3, .int (nI 4)), (5, .int (nI 13)), (4, .ref (18 + 8 * v)), (0, .ref 0), (1, .long sd)]) (st' := [.int 4, .int (nI 4)]) (μ' := μ1) (by rfl) ?_
    refine zq_ic hc hH (by rfl) (tg := 93) (by rfl) (fun h1 => ?_) (fun h1 => ?_)
    · have h1 : (decide (4 ≤ (nI 4))) = true := decide_eq_true (cm_ge.mp h1)
      exact K v μ1 hv g1
    · have h1 : (decide (4 ≤ (nI 4))) = false := decide_eq_false (cn_ge.mp h1)
      exact absurd (Eq.trans (Eq.symm (kn_le2 (m := 4) rfl (by omega) (by omega))) h1) (by decide)
  | succ n ih =>
    intro I hI v μ1 hv g1
    have hu : (dl + I) % 4 < 4 := Nat.mod_lt _ (by decide)
    obtain ⟨u, hu1⟩ : ∃ u, (dl + I) % 4 = u := ⟨_, rfl⟩
    have hu4 : u < 4 := by omega
    refine z_rcs hc hH 2 (pc' := 28) (lv' := [(3, .int (nI I)), (5, .int (nI 13)), (4, .ref (18 + 8 * v)), (0, .ref 0), (1, .long sd)]) (st' := [.int 4, .int (nI I)]) (μ' := μ1) (by rfl) ?_
    refine zq_ic hc hH (by rfl) (tg := 93) (by rfl) (fun h1 => ?_) (fun h1 => ?_)
    · have h1 : (decide (4 ≤ (nI I))) = true := decide_eq_true (cm_ge.mp h1)
      exact absurd (Eq.trans (Eq.symm (kn_le (m := 4) rfl (by omega) (by omega))) h1) (by decide)
    · have h1 : (decide (4 ≤ (nI I))) = false := decide_eq_false (cn_ge.mp h1)
      refine z_rcs hc hH 2 (pc' := 33) (lv' := [(3, .int (nI I)), (5, .int (nI 13)), (4, .ref (18 + 8 * v)), (0, .ref 0), (1, .long sd)]) (st' := [.ref 0, .ref 0]) (μ' := μ1) (by rfl) ?_
      refine zq_gfi hc hH (by rfl) (ci := 5) (f := 9) (by rfl) (by decide +kernel) (by rfl) ?_
      rw [((g1.2.1 0 9 (by omega)).trans hdl)]
      refine z_rcs hc hH 2 (pc' := 38) (lv' := [(3, .int (nI I)), (5, .int (nI 13)), (4, .ref (18 + 8 * v)), (0, .ref 0), (1, .long sd)]) (st' := [.int ((nI dl) + (nI I)), .ref 0]) (μ' := μ1) (by rfl) ?_
      rw [nI_add dl I]
      refine zq_call hc (by rfl) (gc_atm d' (by omega) μ1 (dl + I) u (by omega) hu1) (by decide +kernel) (fun r9 μ9 hq => ?_)
      obtain ⟨hμ9, rfl⟩ := hq
      rw [hμ9]
      clear hμ9 μ9
      show Z 0 41 [(3, .int (nI I)), (5, .int (nI 13)), (4, .ref (18 + 8 * v)), (0, .ref 0), (1, .long sd)] [.ref (18 + 8 * u)] μ1
      refine z_rcs hc hH 2 (pc' := 45) (lv' := [(4, .ref (18 + 8 * u)), (3, .int (nI I)), (5, .int (nI 13)), (0, .ref 0), (1, .long sd)]) (st' := [.ref (18 + 8 * u)]) (μ' := μ1) (by rfl) ?_
      refine zq_call hc (z_clv (by rfl) (by rfl) (by rfl) (by rfl) (by rfl) (by rfl) (sj (P := fun i => okr 79 1 (18 + 8 * i)) hu4 (by decide +kernel)) (by rfl) (by rfl)) (gc_startHand d' (by omega) μ1 u hu4) (by decide +kernel) (fun r9 μ9 hq => ?_)
      obtain ⟨rfl, μe, he, rfl⟩ := hq
      show Z 0 48 [(4, .ref (18 + 8 * u)), (3, .int (nI I)), (5, .int (nI 13)), (0, .ref 0), (1, .long sd)] [] (sHm μe u)
      refine z_rcs hc hH 2 (pc' := 51) (lv' := [(5, .int 0), (4, .ref (18 + 8 * u)), (3, .int (nI I)), (0, .ref 0), (1, .long sd)]) (st' := []) (μ' := sHm μe u) (by rfl) ?_
      refine dx51 d' Z hc (by omega) sd sd u I hu4 (by omega) (sHm μe u) (by rw [sHm_o (by omega), he.2.2.2.1 2 1 (by omega) (by omega) (by omega), g1.2.1 2 1 (by omega)]; exact hS1) (fun k hk => by rw [sHm_o (by omega), he.2.2.2.1 3 k (by omega) (by omega) (by omega), g1.2.1 3 k (by omega)]; exact hW k hk) (fun μ2 g2 => ?_) 13 0 (by omega) _ he.pt
      refine z_rcs hc hH 2 (pc' := 26) (lv' := [(3, .int ((nI I) + 1)), (5, .int (nI 13)), (4, .ref (18 + 8 * u)), (0, .ref 0), (1, .long sd)]) (st' := []) (μ' := μ2) (by rfl) ?_
      rw [nI_s1]
      exact ih (I + 1) (by omega) u _ hu4 (g1.nx he g2 hu1 (by omega))
theorem dx26f (d' : Nat) (Z : zK) (hc : z_clo z_x0 mi_X6_deal (z_C d') Z) (hd : 4 ≤ d') (sd : Int64) (dl : Nat) (hdl4 : dl < 4) (μb : zM) (hdl : μb.1 0 9 = nI dl) (hS1 : μb.1 2 1 = 1) (hW : ∀ k, k < 136 → μb.1 3 k = wlF sd k) (K : ∀ v μ2, v < 4 → CDR μb (wlF sd) dl 4 μ2 → Z 0 93 [(3, .int (nI 4)), (5, .int (nI 13)), (4, .ref (18 + 8 * v)), (0, .ref 0), (1, .long sd)] [] μ2) (μ1 : zM) (g1 : CDR μb (wlF sd) dl 0 μ1) : ∀ I, I = 0 → Z 0 26 [(3, .int (nI I)), (0, .ref 0), (1, .long sd)] [] μ1 := by
  have hH := zhx_X6_deal
  intro I hI0
  have g1 : CDR μb (wlF sd) dl I μ1 := by rw [hI0]; exact g1
  have hu : (dl + I) % 4 < 4 := Nat.mod_lt _ (by decide)
  obtain ⟨u, hu1⟩ : ∃ u, (dl + I) % 4 = u := ⟨_, rfl⟩
  have hu4 : u < 4 := by omega
  refine z_rcs hc hH 2 (pc' := 28) (lv' := [(3, .int (nI I)), (0, .ref 0), (1, .long sd)]) (st' := [.int 4, .int (nI I)]) (μ' := μ1) (by rfl) ?_
  refine zq_ic hc hH (by rfl) (tg := 93) (by rfl) (fun h1 => ?_) (fun h1 => ?_)
  · have h1 : (decide (4 ≤ (nI I))) = true := decide_eq_true (cm_ge.mp h1)
    exact absurd (Eq.trans (Eq.symm (kn_le (m := 4) rfl (by omega) (by omega))) h1) (by decide)
  · have h1 : (decide (4 ≤ (nI I))) = false := decide_eq_false (cn_ge.mp h1)
    refine z_rcs hc hH 2 (pc' := 33) (lv' := [(3, .int (nI I)), (0, .ref 0), (1, .long sd)]) (st' := [.ref 0, .ref 0]) (μ' := μ1) (by rfl) ?_
    refine zq_gfi hc hH (by rfl) (ci := 5) (f := 9) (by rfl) (by decide +kernel) (by rfl) ?_
    rw [((g1.2.1 0 9 (by omega)).trans hdl)]
    refine z_rcs hc hH 2 (pc' := 38) (lv' := [(3, .int (nI I)), (0, .ref 0), (1, .long sd)]) (st' := [.int ((nI dl) + (nI I)), .ref 0]) (μ' := μ1) (by rfl) ?_
    rw [nI_add dl I]
    refine zq_call hc (by rfl) (gc_atm d' (by omega) μ1 (dl + I) u (by omega) hu1) (by decide +kernel) (fun r9 μ9 hq => ?_)
    obtain ⟨hμ9, rfl⟩ := hq
    rw [hμ9]
    clear hμ9 μ9
    show Z 0 41 [(3, .int (nI I)), (0, .ref 0), (1, .long sd)] [.ref (18 + 8 * u)] μ1
    refine z_rcs hc hH 2 (pc' := 45) (lv' := [(4, .ref (18 + 8 * u)), (3, .int (nI I)), (0, .ref 0), (1, .long sd)]) (st' := [.ref (18 + 8 * u)]) (μ' := μ1) (by rfl) ?_
    refine zq_call hc (z_clv (by rfl) (by rfl) (by rfl) (by rfl) (by rfl) (by rfl) (sj (P := fun i => okr 79 1 (18 + 8 * i)) hu4 (by decide +kernel)) (by rfl) (by rfl)) (gc_startHand d' (by omega) μ1 u hu4) (by decide +kernel) (fun r9 μ9 hq => ?_)
    obtain ⟨rfl, μe, he, rfl⟩ := hq
    show Z 0 48 [(4, .ref (18 + 8 * u)), (3, .int (nI I)), (0, .ref 0), (1, .long sd)] [] (sHm μe u)
    refine z_rcs hc hH 2 (pc' := 51) (lv' := [(5, .int 0), (4, .ref (18 + 8 * u)), (3, .int (nI I)), (0, .ref 0), (1, .long sd)]) (st' := []) (μ' := sHm μe u) (by rfl) ?_
    refine dx51 d' Z hc (by omega) sd sd u I hu4 (by omega) (sHm μe u) (by rw [sHm_o (by omega), he.2.2.2.1 2 1 (by omega) (by omega) (by omega), g1.2.1 2 1 (by omega)]; exact hS1) (fun k hk => by rw [sHm_o (by omega), he.2.2.2.1 3 k (by omega) (by omega) (by omega), g1.2.1 3 k (by omega)]; exact hW k hk) (fun μ2 g2 => ?_) 13 0 (by omega) _ he.pt
    refine z_rcs hc hH 2 (pc' := 26) (lv' := [(3, .int ((nI I) + 1)), (5, .int (nI 13)), (4, .ref (18 + 8 * u)), (0, .ref 0), (1, .long sd)]) (st' := []) (μ' := μ2) (by rfl) ?_
    rw [nI_s1]
    exact dx26 d' Z hc hd sd dl hdl4 μb hdl hS1 hW K 3 (I + 1) (by omega) u _ hu4 (g1.nx he g2 hu1 (by omega))
theorem gc_deal (d : Nat) (hd : 6 ≤ d) (μ : zM) (sd : Int64) (dl : Nat) (hdl : μ.1 0 9 = nI dl) (hdl4 : dl < 4) (hp : decide (μ.1 0 7 = 0) = true) (he : decide (μ.1 0 13 = 0) = true) : z_C d mi_X6_deal [.ref 0, .long sd] μ (fun r μ' => r = some (.int 1) ∧ ∃ μ3, DLX dl sd μ μ3 ∧ μ' = dT0 (z_ui (z_ui μ3 0 6 0) 0 17 0) dl 52 (wlN sd 52)) := by
  refine z_C_in (by decide) (by omega) (fun d' Z ed hc hr => ?_)
  have hH := zhx_X6_deal
  refine z_rcs hc hH 1 (pc' := 1) (lv' := [(0, .ref 0), (1, .long sd)]) (st' := [.ref 0]) (μ' := μ) (by rfl) ?_
  refine zq_gfi hc hH (by rfl) (ci := 5) (f := 7) (by rfl) (by decide +kernel) (by rfl) ?_
  refine zq_if hc hH (by rfl) (tg := 14) (by rfl) (fun h1 => ?_) (fun h1 => ?_)
  · have h1 : (decide ((μ.1 0 7) = 0)) = false := decide_eq_false (cm_ne.mp h1)
    exact absurd (Eq.trans (Eq.symm (hp)) h1) (by decide)
  · have h1 : (decide ((μ.1 0 7) = 0)) = true := decide_eq_true (cn_ne.mp h1)
    refine z_rcs hc hH 1 (pc' := 8) (lv' := [(0, .ref 0), (1, .long sd)]) (st' := [.ref 0]) (μ' := μ) (by rfl) ?_
    refine zq_gfi hc hH (by rfl) (ci := 5) (f := 13) (by rfl) (by decide +kernel) (by rfl) ?_
    refine zq_if hc hH (by rfl) (tg := 16) (by rfl) (fun h2 => ?_) (fun h2 => ?_)
    · have h2 : (decide ((μ.1 0 13) = 0)) = true := decide_eq_true (cm_eq9.mp h2)
      refine z_rcs hc hH 1 (pc' := 17) (lv' := [(0, .ref 0), (1, .long sd)]) (st' := [.ref 0]) (μ' := μ) (by rfl) ?_
      refine zq_gfr hc hH (by rfl) (ci := 5) (f := 1) (q := 2) (by rfl) (by decide +kernel) (by rfl) (by decide +kernel) ?_
      refine z_rcs hc hH 1 (pc' := 21) (lv' := [(0, .ref 0), (1, .long sd)]) (st' := [.long sd, .ref 2]) (μ' := μ) (by rfl) ?_
      refine zq_call hc (by rfl) (gc_build d' (by omega) μ sd) (by decide +kernel) (fun r9 μ9 hq => ?_)
      obtain ⟨rfl, μ1, hw1, rfl⟩ := hq
      show Z 0 24 [(0, .ref 0), (1, .long sd)] [] (z_ui (z_ui (z_ui μ1 2 1 1) 2 2 52) 2 3 0)
      refine z_rcs hc hH 2 (pc' := 26) (lv' := [(3, .int 0), (0, .ref 0), (1, .long sd)]) (st' := []) (μ' := z_ui (z_ui (z_ui μ1 2 1 1) 2 2 52) 2 3 0) (by rfl) ?_
      obtain ⟨μb, hμb⟩ : ∃ μb, z_ui (z_ui (z_ui μ1 2 1 1) 2 2 52) 2 3 0 = μb := ⟨_, rfl⟩
      have b3 : ∀ k, k < 136 → μb.1 3 k = wlF sd k := fun k hk => by rw [← hμb, ui_o (by decide), ui_o (by decide), ui_o (by decide)]; exact hw1.1 k hk
      have b21 : μb.1 2 1 = 1 := by rw [← hμb, ui_k (by decide), ui_k (by decide), ui_s]
      have b22 : μb.1 2 2 = 52 := by rw [← hμb, ui_k (by decide), ui_s]
      have b23 : μb.1 2 3 = 0 := by rw [← hμb, ui_s]
      have bf : ∀ r k, r ≠ 3 → (r ≠ 2 ∨ (k ≠ 1 ∧ k ≠ 2 ∧ k ≠ 3)) → μb.1 r k = μ.1 r k := fun r k h1 h2 => by
        rw [← hμb]
        rcases h2 with h2 | h2
        · rw [ui_o h2, ui_o h2, ui_o h2]; exact hw1.2.1 r k h1
        · rw [ui_k h2.2.2, ui_k h2.2.1, ui_k h2.1]; exact hw1.2.1 r k h1
      have bj : μb.2 = μ.2 := by rw [← hμb]; exact hw1.2.2
      rw [hμb]
      have b9 : μb.1 0 9 = nI dl := by rw [bf 0 9 (by decide) (by decide)]; exact hdl
      refine dx26f d' Z hc (by omega) sd dl hdl4 μb b9 b21 b3 (fun v μ3 hv g3 => ?_) μb ⟨fun p hp => absurd hp (by omega), fun _ _ _ => rfl, fun _ _ _ => rfl⟩ 0 rfl
      have hX : DLX dl sd μ μ3 := ⟨μb, g3, b3, b21, b22, b23, bf, bj⟩
      refine z_rcs hc hH 2 (pc' := 95) (lv' := [(3, .int (nI 4)), (5, .int (nI 13)), (4, .ref (18 + 8 * v)), (0, .ref 0), (1, .long sd)]) (st' := [.int 0, .ref 0]) (μ' := μ3) (by rfl) ?_
      refine zq_pfi hc hH (by rfl) (ci := 5) (f := 6) (by rfl) (by decide +kernel) (by rfl) ?_
      show Z 0 98 [(3, .int (nI 4)), (5, .int (nI 13)), (4, .ref (18 + 8 * v)), (0, .ref 0), (1, .long sd)] [] (z_ui μ3 0 6 0)
      refine z_rcs hc hH 2 (pc' := 100) (lv' := [(3, .int (nI 4)), (5, .int (nI 13)), (4, .ref (18 + 8 * v)), (0, .ref 0), (1, .long sd)]) (st' := [.int 0, .ref 0]) (μ' := z_ui μ3 0 6 0) (by rfl) ?_
      refine zq_pfb hc hH (by rfl) (ci := 5) (f := 17) (by rfl) (by decide +kernel) (by rfl) (by decide) ?_
      show Z 0 103 [(3, .int (nI 4)), (5, .int (nI 13)), (4, .ref (18 + 8 * v)), (0, .ref 0), (1, .long sd)] [] (z_ui (z_ui μ3 0 6 0) 0 17 0)
      refine z_rcs hc hH 2 (pc' := 105) (lv' := [(3, .int (nI 4)), (5, .int (nI 13)), (4, .ref (18 + 8 * v)), (0, .ref 0), (1, .long sd)]) (st' := [.ref 0, .ref 0]) (μ' := z_ui (z_ui μ3 0 6 0) 0 17 0) (by rfl) ?_
      refine zq_gfi hc hH (by rfl) (ci := 5) (f := 9) (by rfl) (by decide +kernel) (by rfl) ?_
      rw [ui_k (by omega), ui_k (by omega)]
      rw [((g3.2.1 0 9 (by omega)).trans b9)]
      refine z_rcs hc hH 1 (pc' := 109) (lv' := [(3, .int (nI 4)), (5, .int (nI 13)), (4, .ref (18 + 8 * v)), (0, .ref 0), (1, .long sd)]) (st' := [.int 0, .int (nI dl), .ref 0]) (μ' := z_ui (z_ui μ3 0 6 0) 0 17 0) (by rfl) ?_
      refine zq_call hc (by rfl) (gc_drawTile0 d' (by omega) (z_ui (z_ui μ3 0 6 0) 0 17 0) dl dl 52 (wlN sd 52) (by omega) hdl4 (Nat.mod_eq_of_lt hdl4) (by decide) (by rw [ui_o (by omega), ui_o (by omega)]; exact ((g3.2.1 2 2 (by omega)).trans b22)) (by rw [ui_o (by omega), ui_o (by omega)]; exact ((g3.2.1 2 1 (by omega)).trans b21)) (wlN_e sd (by decide)).2 (by rw [ui_o (by omega), ui_o (by omega)]; exact ((g3.2.1 3 52 (by omega)).trans ((b3 52 (by decide)).trans (wlN_e sd (by decide)).1)))) (by decide +kernel) (fun r9 μ9 hq => ?_)
      obtain ⟨rfl, rfl⟩ := hq
      show Z 0 112 [(3, .int (nI 4)), (5, .int (nI 13)), (4, .ref (18 + 8 * v)), (0, .ref 0), (1, .long sd)] [] (dT0 (z_ui (z_ui μ3 0 6 0) 0 17 0) dl 52 (wlN sd 52))
      refine z_rcs hc hH 1 (pc' := 113) (lv' := [(3, .int (nI 4)), (5, .int (nI 13)), (4, .ref (18 + 8 * v)), (0, .ref 0), (1, .long sd)]) (st' := [.int 1]) (μ' := dT0 (z_ui (z_ui μ3 0 6 0) 0 17 0) dl 52 (wlN sd 52)) (by rfl) ?_
      exact hr 0 113 _ _ _ (some (.int 1)) (by decide +kernel) (by rfl) (⟨rfl, μ3, hX, rfl⟩)
    · have h2 : (decide ((μ.1 0 13) = 0)) = false := decide_eq_false (cn_eq.mp h2)
      exact absurd (Eq.trans (Eq.symm (he)) h2) (by decide)

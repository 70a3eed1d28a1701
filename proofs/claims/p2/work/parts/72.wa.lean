/-! the class: what a desk waits for, exactly -/
def RW (μ : zM) (r : Nat) (w : Nat → Nat) : Prop := ∀ k, k < 34 → μ.1 r k = nI (w k) ∧ w k ≤ 5
theorem l_sub : ∀ a, a < 6 → ∀ r1, r1 < 3 → ∀ r2, r2 < 3 → (r1 + r2 ≤ a → nI a - nI r1 - nI r2 = nI (a - r1 - r2)) ∧ (a < r1 + r2 → z_cmp .ge (nI a - nI r1 - nI r2) 0 = false) := by decide +kernel
theorem l_ge : ∀ a, a < 6 → z_cmp .ge (nI a) 0 = true := by decide +kernel
theorem l_2 : ∀ a, a < 6 → 2 ≤ a → nI a - 2 = nI (a - 2) := by decide +kernel
theorem l_r3 : ∀ a, a < 6 → nI a - nI a / 3 * 3 = nI (a % 3) := by decide +kernel
theorem sr_rs : ∀ k, k < 34 → (sr (nI k) ↔ rs k) := by
  have h : ∀ k, k < 34 → ((¬ nI k < 0 ∧ ¬ (27 : Int32) ≤ nI k ∧ ¬ (7 : Int32) ≤ (nI k - nI k / 9 * 9)) ↔ (k < 27 ∧ k % 9 < 7)) := by decide +kernel
  exact h
theorem gr_s {v : Nat → Nat} {n i r1 r2 : Nat} : gr v (n + 1) i r1 r2 = if v i < r1 + r2 then false else if (v i - r1 - r2) % 3 ≠ 0 ∧ ¬ rs i then false else gr v n (i + 1) ((v i - r1 - r2) % 3) r1 := rfl
theorem zh_X3_splitsBeside : zH mi_X3_splitsBeside zc_X3_splitsBeside 79 3 7 := ⟨by rfl, by rfl, by rfl, by rfl⟩
theorem sb33a (d' : Nat) (Z : zK) (hd : 2 ≤ d') (μ : zM) (P : Prop) (hc : z_clo z_x0 mi_X3_splitsBeside (z_C d') Z) (hr : z_ret mi_X3_splitsBeside (zB μ P) Z) (p : Nat) (v : Nat → Nat) (n i r1 r2 : Nat) (hi : i < 34) (h1 : r1 < 3) (h2 : r2 < 3) (ha : v i < 6) (hg : P ↔ gr v (n + 1) i r1 r2 = true) (K : ∀ (x5 x6 : Int32) (r : Nat), r < 3 → (P ↔ gr v n (i + 1) r r1 = true) → Z 0 7 [(4, .int (nI (i + 1))), (2, .int (nI r)), (3, .int (nI r1)), (6, .int x6), (5, .int x5), (0, .ref 9), (1, .int (nI p))] [] μ) : Z 0 33 [(4, .int (nI i)), (3, .int (nI r2)), (2, .int (nI r1)), (0, .ref 9), (1, .int (nI p))] [.int (nI (v i))] μ := by
  have hH := zh_X3_splitsBeside
  rw [gr_s] at hg
  obtain ⟨g1, g2⟩ := l_sub (v i) ha r1 h1 r2 h2
  refine z_rcs hc hH 4 (pc' := 37) (lv' := [(4, .int (nI i)), (3, .int (nI r2)), (2, .int (nI r1)), (0, .ref 9), (1, .int (nI p))]) (st' := [.int (((nI (v i)) - (nI r1)) - (nI r2))]) (μ' := μ) (by rfl) ?_
  by_cases c : v i < r1 + r2
  · rw [if_pos c] at hg
    refine z_rcs hc hH 2 (pc' := 41) (lv' := [(5, .int (((nI (v i)) - (nI r1)) - (nI r2))), (4, .int (nI i)), (3, .int (nI r2)), (2, .int (nI r1)), (0, .ref 9), (1, .int (nI p))]) (st' := [.int (((nI (v i)) - (nI r1)) - (nI r2))]) (μ' := μ) (by rfl) ?_
    refine zq_if hc hH (by rfl) (tg := 46) (by rfl) (fun h9 => (zb_t h9 (g2 c)).elim) (fun _ => ?_)
    refine z_rcs hc hH 1 (pc' := 45) (lv' := [(5, .int (((nI (v i)) - (nI r1)) - (nI r2))), (4, .int (nI i)), (3, .int (nI r2)), (2, .int (nI r1)), (0, .ref 9), (1, .int (nI p))]) (st' := [.int 0]) (μ' := μ) (by rfl) ?_
    exact hr 0 45 _ _ _ (some (.int 0)) (by decide +kernel) (by rfl) (⟨rfl, Or.inr ⟨rfl, fun q => absurd (hg.mp q) (by decide)⟩⟩)
  rw [if_neg c] at hg
  rw [g1 (by omega)]
  generalize hl : v i - r1 - r2 = l at hg ⊢
  have hl6 : l < 6 := by omega
  refine z_rcs hc hH 2 (pc' := 41) (lv' := [(5, .int (nI l)), (4, .int (nI i)), (3, .int (nI r2)), (2, .int (nI r1)), (0, .ref 9), (1, .int (nI p))]) (st' := [.int (nI l)]) (μ' := μ) (by rfl) ?_
  refine zq_if hc hH (by rfl) (tg := 46) (by rfl) (fun _ => ?_) (fun h9 => (zb_t (l_ge l hl6) h9).elim)
  refine z_rcs hc hH 3 (pc' := 50) (lv' := [(5, .int (nI l)), (4, .int (nI i)), (3, .int (nI r2)), (2, .int (nI r1)), (0, .ref 9), (1, .int (nI p))]) (st' := [.int ((nI l) - (nI l) / 3 * 3)]) (μ' := μ) (by rfl) ?_
  rw [l_r3 l hl6]
  refine z_rcs hc hH 2 (pc' := 54) (lv' := [(6, .int (nI (l % 3))), (5, .int (nI l)), (4, .int (nI i)), (3, .int (nI r2)), (2, .int (nI r1)), (0, .ref 9), (1, .int (nI p))]) (st' := [.int (nI (l % 3))]) (μ' := μ) (by rfl) ?_
  have hm : l % 3 < 3 := Nat.mod_lt _ (by decide)
  by_cases c3 : l % 3 = 0
  · rw [if_neg (fun q => q.1 c3)] at hg
    refine zq_if hc hH (by rfl) (tg := 67) (by rfl) (fun _ => ?_) (fun h9 => (zb_t (by rw [c3]; decide) h9).elim)
    refine z_rcs hc hH 6 (pc' := 7) (lv' := [(4, .int ((nI i) + 1)), (2, .int (nI (l % 3))), (3, .int (nI r1)), (6, .int (nI (l % 3))), (5, .int (nI l)), (0, .ref 9), (1, .int (nI p))]) (st' := []) (μ' := μ) (by rfl) ?_
    rw [nI_1]
    exact K _ _ (l % 3) (Nat.mod_lt _ (by decide)) hg
  refine zq_if hc hH (by rfl) (tg := 67) (by rfl) (fun h9 => (zb_t h9 (cn_le.mpr (fun q => by rw [Int32.le_iff_toInt_le, nI_toInt (by omega)] at q; have q : ((l % 3 : Nat) : Int) ≤ 0 := q; omega))).elim) (fun _ => ?_)
  refine z_rcs hc hH 1 (pc' := 59) (lv' := [(6, .int (nI (l % 3))), (5, .int (nI l)), (4, .int (nI i)), (3, .int (nI r2)), (2, .int (nI r1)), (0, .ref 9), (1, .int (nI p))]) (st' := [.int (nI i)]) (μ' := μ) (by rfl) ?_
  refine zq_call hc (by rfl) (fc_X6_startsRun d' (by omega) μ (nI i)) (by decide +kernel) (fun r9 μ9 hq => ?_)
  obtain ⟨hμ9, hq⟩ := hq
  rw [hμ9]
  clear hμ9 μ9
  rw [sr_rs i hi] at hq
  obtain ⟨rfl, hk⟩ | ⟨rfl, hk⟩ := hq
  · rw [if_neg (fun q => q.2 hk)] at hg
    show Z 0 62 [(6, .int (nI (l % 3))), (5, .int (nI l)), (4, .int (nI i)), (3, .int (nI r2)), (2, .int (nI r1)), (0, .ref 9), (1, .int (nI p))] [.int 1] μ
    refine z_rcs hc hH 7 (pc' := 7) (lv' := [(4, .int ((nI i) + 1)), (2, .int (nI (l % 3))), (3, .int (nI r1)), (6, .int (nI (l % 3))), (5, .int (nI l)), (0, .ref 9), (1, .int (nI p))]) (st' := []) (μ' := μ) (by rfl) ?_
    rw [nI_1]
    exact K _ _ (l % 3) (Nat.mod_lt _ (by decide)) hg
  · rw [if_pos ⟨c3, hk⟩] at hg
    show Z 0 62 [(6, .int (nI (l % 3))), (5, .int (nI l)), (4, .int (nI i)), (3, .int (nI r2)), (2, .int (nI r1)), (0, .ref 9), (1, .int (nI p))] [.int 0] μ
    refine z_rcs hc hH 2 (pc' := 66) (lv' := [(6, .int (nI (l % 3))), (5, .int (nI l)), (4, .int (nI i)), (3, .int (nI r2)), (2, .int (nI r1)), (0, .ref 9), (1, .int (nI p))]) (st' := [.int 0]) (μ' := μ) (by rfl) ?_
    exact hr 0 66 _ _ _ (some (.int 0)) (by decide +kernel) (by rfl) (⟨rfl, Or.inr ⟨rfl, fun q => absurd (hg.mp q) (by decide)⟩⟩)
theorem sb33b (d' : Nat) (Z : zK) (hd : 2 ≤ d') (μ : zM) (P : Prop) (hc : z_clo z_x0 mi_X3_splitsBeside (z_C d') Z) (hr : z_ret mi_X3_splitsBeside (zB μ P) Z) (p : Nat) (v : Nat → Nat) (n i r1 r2 : Nat) (x5 x6 : Int32) (hi : i < 34) (h1 : r1 < 3) (h2 : r2 < 3) (ha : v i < 6) (hg : P ↔ gr v (n + 1) i r1 r2 = true) (K : ∀ (x5 x6 : Int32) (r : Nat), r < 3 → (P ↔ gr v n (i + 1) r r1 = true) → Z 0 7 [(4, .int (nI (i + 1))), (2, .int (nI r)), (3, .int (nI r1)), (6, .int x6), (5, .int x5), (0, .ref 9), (1, .int (nI p))] [] μ) : Z 0 33 [(4, .int (nI i)), (2, .int (nI r1)), (3, .int (nI r2)), (6, .int x6), (5, .int x5), (0, .ref 9), (1, .int (nI p))] [.int (nI (v i))] μ := by
  have hH := zh_X3_splitsBeside
  rw [gr_s] at hg
  obtain ⟨g1, g2⟩ := l_sub (v i) ha r1 h1 r2 h2
  refine z_rcs hc hH 4 (pc' := 37) (lv' := [(4, .int (nI i)), (2, .int (nI r1)), (3, .int (nI r2)), (6, .int x6), (5, .int x5), (0, .ref 9), (1, .int (nI p))]) (st' := [.int (((nI (v i)) - (nI r1)) - (nI r2))]) (μ' := μ) (by rfl) ?_
  by_cases c : v i < r1 + r2
  · rw [if_pos c] at hg
    refine z_rcs hc hH 2 (pc' := 41) (lv' := [(5, .int (((nI (v i)) - (nI r1)) - (nI r2))), (4, .int (nI i)), (2, .int (nI r1)), (3, .int (nI r2)), (6, .int x6), (0, .ref 9), (1, .int (nI p))]) (st' := [.int (((nI (v i)) - (nI r1)) - (nI r2))]) (μ' := μ) (by rfl) ?_
    refine zq_if hc hH (by rfl) (tg := 46) (by rfl) (fun h9 => (zb_t h9 (g2 c)).elim) (fun _ => ?_)
    refine z_rcs hc hH 1 (pc' := 45) (lv' := [(5, .int (((nI (v i)) - (nI r1)) - (nI r2))), (4, .int (nI i)), (2, .int (nI r1)), (3, .int (nI r2)), (6, .int x6), (0, .ref 9), (1, .int (nI p))]) (st' := [.int 0]) (μ' := μ) (by rfl) ?_
    exact hr 0 45 _ _ _ (some (.int 0)) (by decide +kernel) (by rfl) (⟨rfl, Or.inr ⟨rfl, fun q => absurd (hg.mp q) (by decide)⟩⟩)
  rw [if_neg c] at hg
  rw [g1 (by omega)]
  generalize hl : v i - r1 - r2 = l at hg ⊢
  have hl6 : l < 6 := by omega
  refine z_rcs hc hH 2 (pc' := 41) (lv' := [(5, .int (nI l)), (4, .int (nI i)), (2, .int (nI r1)), (3, .int (nI r2)), (6, .int x6), (0, .ref 9), (1, .int (nI p))]) (st' := [.int (nI l)]) (μ' := μ) (by rfl) ?_
  refine zq_if hc hH (by rfl) (tg := 46) (by rfl) (fun _ => ?_) (fun h9 => (zb_t (l_ge l hl6) h9).elim)
  refine z_rcs hc hH 3 (pc' := 50) (lv' := [(5, .int (nI l)), (4, .int (nI i)), (2, .int (nI r1)), (3, .int (nI r2)), (6, .int x6), (0, .ref 9), (1, .int (nI p))]) (st' := [.int ((nI l) - (nI l) / 3 * 3)]) (μ' := μ) (by rfl) ?_
  rw [l_r3 l hl6]
  refine z_rcs hc hH 2 (pc' := 54) (lv' := [(6, .int (nI (l % 3))), (5, .int (nI l)), (4, .int (nI i)), (2, .int (nI r1)), (3, .int (nI r2)), (0, .ref 9), (1, .int (nI p))]) (st' := [.int (nI (l % 3))]) (μ' := μ) (by rfl) ?_
  have hm : l % 3 < 3 := Nat.mod_lt _ (by decide)
  by_cases c3 : l % 3 = 0
  · rw [if_neg (fun q => q.1 c3)] at hg
    refine zq_if hc hH (by rfl) (tg := 67) (by rfl) (fun _ => ?_) (fun h9 => (zb_t (by rw [c3]; decide) h9).elim)
    refine z_rcs hc hH 6 (pc' := 7) (lv' := [(4, .int ((nI i) + 1)), (2, .int (nI (l % 3))), (3, .int (nI r1)), (6, .int (nI (l % 3))), (5, .int (nI l)), (0, .ref 9), (1, .int (nI p))]) (st' := []) (μ' := μ) (by rfl) ?_
    rw [nI_1]
    exact K _ _ (l % 3) (Nat.mod_lt _ (by decide)) hg
  refine zq_if hc hH (by rfl) (tg := 67) (by rfl) (fun h9 => (zb_t h9 (cn_le.mpr (fun q => by rw [Int32.le_iff_toInt_le, nI_toInt (by omega)] at q; have q : ((l % 3 : Nat) : Int) ≤ 0 := q; omega))).elim) (fun _ => ?_)
  refine z_rcs hc hH 1 (pc' := 59) (lv' := [(6, .int (nI (l % 3))), (5, .int (nI l)), (4, .int (nI i)), (2, .int (nI r1)), (3, .int (nI r2)), (0, .ref 9), (1, .int (nI p))]) (st' := [.int (nI i)]) (μ' := μ) (by rfl) ?_
  refine zq_call hc (by rfl) (fc_X6_startsRun d' (by omega) μ (nI i)) (by decide +kernel) (fun r9 μ9 hq => ?_)
  obtain ⟨hμ9, hq⟩ := hq
  rw [hμ9]
  clear hμ9 μ9
  rw [sr_rs i hi] at hq
  obtain ⟨rfl, hk⟩ | ⟨rfl, hk⟩ := hq
  · rw [if_neg (fun q => q.2 hk)] at hg
    show Z 0 62 [(6, .int (nI (l % 3))), (5, .int (nI l)), (4, .int (nI i)), (2, .int (nI r1)), (3, .int (nI r2)), (0, .ref 9), (1, .int (nI p))] [.int 1] μ
    refine z_rcs hc hH 7 (pc' := 7) (lv' := [(4, .int ((nI i) + 1)), (2, .int (nI (l % 3))), (3, .int (nI r1)), (6, .int (nI (l % 3))), (5, .int (nI l)), (0, .ref 9), (1, .int (nI p))]) (st' := []) (μ' := μ) (by rfl) ?_
    rw [nI_1]
    exact K _ _ (l % 3) (Nat.mod_lt _ (by decide)) hg
  · rw [if_pos ⟨c3, hk⟩] at hg
    show Z 0 62 [(6, .int (nI (l % 3))), (5, .int (nI l)), (4, .int (nI i)), (2, .int (nI r1)), (3, .int (nI r2)), (0, .ref 9), (1, .int (nI p))] [.int 0] μ
    refine z_rcs hc hH 2 (pc' := 66) (lv' := [(6, .int (nI (l % 3))), (5, .int (nI l)), (4, .int (nI i)), (2, .int (nI r1)), (3, .int (nI r2)), (0, .ref 9), (1, .int (nI p))]) (st' := [.int 0]) (μ' := μ) (by rfl) ?_
    exact hr 0 66 _ _ _ (some (.int 0)) (by decide +kernel) (by rfl) (⟨rfl, Or.inr ⟨rfl, fun q => absurd (hg.mp q) (by decide)⟩⟩)
theorem sb7 (d' : Nat) (Z : zK) (hd : 2 ≤ d') (μ : zM) (P : Prop) (hc : z_clo z_x0 mi_X3_splitsBeside (z_C d') Z) (hr : z_ret mi_X3_splitsBeside (zB μ P) Z) (p : Nat) (w : Nat → Nat) (hw : RW μ 10 w) (hp : p < 34) (h2p : 2 ≤ w p) : ∀ n i, i + n = 34 → ∀ (r1 r2 : Nat) (x5 x6 : Int32), r1 < 3 → r2 < 3 → (P ↔ gr (sb2 w p) n i r1 r2 = true) → Z 0 7 [(4, .int (nI i)), (2, .int (nI r1)), (3, .int (nI r2)), (6, .int x6), (5, .int x5), (0, .ref 9), (1, .int (nI p))] [] μ := by
  have hH := zh_X3_splitsBeside
  intro n
  induction n with
  | zero =>
    intro i hi r1 r2 x5 x6 u1 u2 hg
    have hi : i = 34 := by omega
    subst hi
    refine z_rcs hc hH 2 (pc' := 11) (lv' := [(4, .int (nI 34)), (2, .int (nI r1)), (3, .int (nI r2)), (6, .int x6), (5, .int x5), (0, .ref 9), (1, .int (nI p))]) (st' := [.int 34, .int (nI 34)]) (μ' := μ) (by rfl) ?_
    refine zq_ic hc hH (by rfl) (tg := 78) (by rfl) (fun _ => ?_) (fun h9 => (zb_t (ge_nIt (n := 34) (i := 34) (by decide) (by decide)) h9).elim)
    refine z_rcs hc hH 1 (pc' := 79) (lv' := [(4, .int (nI 34)), (2, .int (nI r1)), (3, .int (nI r2)), (6, .int x6), (5, .int x5), (0, .ref 9), (1, .int (nI p))]) (st' := [.int 1]) (μ' := μ) (by rfl) ?_
    exact hr 0 79 _ _ _ (some (.int 1)) (by decide +kernel) (by rfl) (⟨rfl, Or.inl ⟨rfl, hg.mpr rfl⟩⟩)
  | succ n ih =>
    intro i hi r1 r2 x5 x6 u1 u2 hg
    have hin : vp_in (nI i) 34 := vp_in_nI (by omega) (by decide)
    refine z_rcs hc hH 2 (pc' := 11) (lv' := [(4, .int (nI i)), (2, .int (nI r1)), (3, .int (nI r2)), (6, .int x6), (5, .int x5), (0, .ref 9), (1, .int (nI p))]) (st' := [.int 34, .int (nI i)]) (μ' := μ) (by rfl) ?_
    refine zq_ic hc hH (by rfl) (tg := 78) (by rfl) (fun h9 => (zb_t h9 (ge_nI (n := 34) (i := i) (by omega) (by decide))).elim) (fun _ => ?_)
    refine z_rcs hc hH 3 (pc' := 20) (lv' := [(4, .int (nI i)), (2, .int (nI r1)), (3, .int (nI r2)), (6, .int x6), (5, .int x5), (0, .ref 9), (1, .int (nI p))]) (st' := [.int (nI i), .ref 10]) (μ' := μ) (by rfl) ?_
    refine zq_iald hc hH (by rfl) 34 (by decide +kernel) (hin) ?_
    rw [nI_clamp (n := i) (by omega), (hw i (by omega)).1]
    refine z_rcs hc hH 2 (pc' := 24) (lv' := [(4, .int (nI i)), (2, .int (nI r1)), (3, .int (nI r2)), (6, .int x6), (5, .int x5), (0, .ref 9), (1, .int (nI p))]) (st' := [.int (nI p), .int (nI i), .int (nI (w i))]) (μ' := μ) (by rfl) ?_
    refine zq_ic hc hH (by rfl) (tg := 31) (by rfl) (fun h1 => ?_) (fun h1 => ?_)
    · have h1 := cm_ne.mp h1
      refine z_rcs hc hH 2 (pc' := 33) (lv' := [(4, .int (nI i)), (2, .int (nI r1)), (3, .int (nI r2)), (6, .int x6), (5, .int x5), (0, .ref 9), (1, .int (nI p))]) (st' := [.int ((nI (w i)) - 0)]) (μ' := μ) (by rfl) ?_
      have e : i ≠ p := fun q => h1 (by rw [q])
      have ev : sb2 w p i = w i := by unfold sb2; rw [if_neg e]
      rw [Int32.sub_zero, ← ev]
      exact sb33b d' Z hd μ P hc hr p (sb2 w p) n i r1 r2 _ _ (by omega) u1 u2 (by rw [ev]; have := (hw i (by omega)).2; omega) hg (fun x5 x6 r q1 q2 => ih (i + 1) (by omega) r r1 x5 x6 q1 u1 q2)
    · have h1 := cn_ne.mp h1
      refine z_rcs hc hH 3 (pc' := 33) (lv' := [(4, .int (nI i)), (2, .int (nI r1)), (3, .int (nI r2)), (6, .int x6), (5, .int x5), (0, .ref 9), (1, .int (nI p))]) (st' := [.int ((nI (w i)) - 2)]) (μ' := μ) (by rfl) ?_
      have e : i = p := (nI_eq (by omega) (by omega)).mp h1
      have ev : sb2 w p i = w i - 2 := by unfold sb2; rw [if_pos e]
      rw [l_2 (w i) (by have := (hw i (by omega)).2; omega) (by rw [e]; exact h2p), ← ev]
      exact sb33b d' Z hd μ P hc hr p (sb2 w p) n i r1 r2 _ _ (by omega) u1 u2 (by rw [ev]; have := (hw i (by omega)).2; omega) hg (fun x5 x6 r q1 q2 => ih (i + 1) (by omega) r r1 x5 x6 q1 u1 q2)
theorem fc_X3_splitsBeside (d : Nat) (hd : 3 ≤ d) (μ : zM) (w : Nat → Nat) (hw : RW μ 10 w) (p : Nat) (hp : p < 34) (h2p : 2 ≤ w p) : z_C d mi_X3_splitsBeside [.ref 9, .int (nI p)] μ (zB μ (gr (sb2 w p) 34 0 0 0 = true)) := by
  refine z_C_in (by decide) (by omega) (fun d' Z ed hc hr => ?_)
  have hH := zh_X3_splitsBeside
  refine z_rcs hc hH 6 (pc' := 7) (lv' := [(4, .int 0), (3, .int 0), (2, .int 0), (0, .ref 9), (1, .int (nI p))]) (st' := []) (μ' := μ) (by rfl) ?_
  show Z 0 7 [(4, .int (nI 0)), (3, .int (nI 0)), (2, .int (nI 0)), (0, .ref 9), (1, .int (nI p))] [] μ
  have hd' : 2 ≤ d' := by omega
  have hin : vp_in (nI 0) 34 := vp_in_nI (by omega) (by decide)
  refine z_rcs hc hH 2 (pc' := 11) (lv' := [(4, .int (nI 0)), (3, .int (nI 0)), (2, .int (nI 0)), (0, .ref 9), (1, .int (nI p))]) (st' := [.int 34, .int (nI 0)]) (μ' := μ) (by rfl) ?_
  refine zq_ic hc hH (by rfl) (tg := 78) (by rfl) (fun h9 => (zb_t h9 (ge_nI (n := 34) (i := 0) (by omega) (by decide))).elim) (fun _ => ?_)
  refine z_rcs hc hH 3 (pc' := 20) (lv' := [(4, .int (nI 0)), (3, .int (nI 0)), (2, .int (nI 0)), (0, .ref 9), (1, .int (nI p))]) (st' := [.int (nI 0), .ref 10]) (μ' := μ) (by rfl) ?_
  refine zq_iald hc hH (by rfl) 34 (by decide +kernel) (hin) ?_
  rw [nI_clamp (n := 0) (by omega), (hw 0 (by omega)).1]
  refine z_rcs hc hH 2 (pc' := 24) (lv' := [(4, .int (nI 0)), (3, .int (nI 0)), (2, .int (nI 0)), (0, .ref 9), (1, .int (nI p))]) (st' := [.int (nI p), .int (nI 0), .int (nI (w 0))]) (μ' := μ) (by rfl) ?_
  refine zq_ic hc hH (by rfl) (tg := 31) (by rfl) (fun h1 => ?_) (fun h1 => ?_)
  · have h1 := cm_ne.mp h1
    refine z_rcs hc hH 2 (pc' := 33) (lv' := [(4, .int (nI 0)), (3, .int (nI 0)), (2, .int (nI 0)), (0, .ref 9), (1, .int (nI p))]) (st' := [.int ((nI (w 0)) - 0)]) (μ' := μ) (by rfl) ?_
    have e : 0 ≠ p := fun q => h1 (by rw [q])
    have ev : sb2 w p 0 = w 0 := by unfold sb2; rw [if_neg e]
    rw [Int32.sub_zero, ← ev]
    exact sb33a d' Z hd' μ _ hc hr p (sb2 w p) 33 0 0 0 (by omega) (by decide) (by decide) (by rw [ev]; have := (hw 0 (by omega)).2; omega) Iff.rfl (fun x5 x6 r q1 q2 => sb7 d' Z hd' μ _ hc hr p w hw hp h2p 33 1 (by omega) r 0 x5 x6 q1 (by decide) q2)
  · have h1 := cn_ne.mp h1
    refine z_rcs hc hH 3 (pc' := 33) (lv' := [(4, .int (nI 0)), (3, .int (nI 0)), (2, .int (nI 0)), (0, .ref 9), (1, .int (nI p))]) (st' := [.int ((nI (w 0)) - 2)]) (μ' := μ) (by rfl) ?_
    have e : 0 = p := (nI_eq (by omega) (by omega)).mp h1
    have ev : sb2 w p 0 = w 0 - 2 := by unfold sb2; rw [if_pos e]
    rw [l_2 (w 0) (by have := (hw 0 (by omega)).2; omega) (by rw [e]; exact h2p), ← ev]
    exact sb33a d' Z hd' μ _ hc hr p (sb2 w p) 33 0 0 0 (by omega) (by decide) (by decide) (by rw [ev]; have := (hw 0 (by omega)).2; omega) Iff.rfl (fun x5 x6 r q1 q2 => sb7 d' Z hd' μ _ hc hr p w hw hp h2p 33 1 (by omega) r 0 x5 x6 q1 (by decide) q2)
theorem zh_X3_isSetsAndPair : zH mi_X3_isSetsAndPair zc_X3_isSetsAndPair 79 3 2 := ⟨by rfl, by rfl, by rfl, by rfl⟩
theorem fc_X3_isSetsAndPair (d : Nat) (hd : 4 ≤ d) (μ : zM) (w : Nat → Nat) (hw : RW μ 10 w) : z_C d mi_X3_isSetsAndPair [.ref 9] μ (zB μ (∃ p, p < 34 ∧ 2 ≤ w p ∧ gr (sb2 w p) 34 0 0 0 = true)) := by
  refine z_C_in (by decide) (by omega) (fun d' Z ed hc hr => ?_)
  have hH := zh_X3_isSetsAndPair
  have lp : ∀ (n i : Nat), i + n = 34 → (∀ q, q < i → ¬ (2 ≤ w q ∧ gr (sb2 w q) 34 0 0 0 = true)) → Z 0 2 [(1, .int (nI i)), (0, .ref 9)] [] μ := by
    intro n
    induction n with
    | zero =>
      intro i hi hn
      have hi : i = 34 := by omega
      subst hi
      refine z_rcs hc hH 2 (pc' := 5) (lv' := [(1, .int (nI 34)), (0, .ref 9)]) (st' := [.int 34, .int (nI 34)]) (μ' := μ) (by rfl) ?_
      refine zq_ic hc hH (by rfl) (tg := 34) (by rfl) (fun _ => ?_) (fun h9 => (zb_t (ge_nIt (n := 34) (i := 34) (by decide) (by decide)) h9).elim)
      refine z_rcs hc hH 1 (pc' := 35) (lv' := [(1, .int (nI 34)), (0, .ref 9)]) (st' := [.int 0]) (μ' := μ) (by rfl) ?_
      exact hr 0 35 _ _ _ (some (.int 0)) (by decide +kernel) (by rfl) (⟨rfl, Or.inr ⟨rfl, fun ⟨q, q1, q2⟩ => hn q q1 q2⟩⟩)
    | succ n ih =>
      intro i hi hn
      have hin : vp_in (nI i) 34 := vp_in_nI (by omega) (by decide)
      have b5 := (hw i (by omega)).2
      refine z_rcs hc hH 2 (pc' := 5) (lv' := [(1, .int (nI i)), (0, .ref 9)]) (st' := [.int 34, .int (nI i)]) (μ' := μ) (by rfl) ?_
      refine zq_ic hc hH (by rfl) (tg := 34) (by rfl) (fun h9 => (zb_t h9 (ge_nI (n := 34) (i := i) (by omega) (by decide))).elim) (fun _ => ?_)
      refine z_rcs hc hH 3 (pc' := 13) (lv' := [(1, .int (nI i)), (0, .ref 9)]) (st' := [.int (nI i), .ref 10]) (μ' := μ) (by rfl) ?_
      refine zq_iald hc hH (by rfl) 34 (by decide +kernel) (hin) ?_
      rw [nI_clamp (n := i) (by omega), (hw i (by omega)).1]
      refine z_rcs hc hH 1 (pc' := 15) (lv' := [(1, .int (nI i)), (0, .ref 9)]) (st' := [.int 2, .int (nI (w i))]) (μ' := μ) (by rfl) ?_
      refine zq_ic hc hH (by rfl) (tg := 28) (by rfl) (fun h1 => ?_) (fun h1 => ?_)
      · have h1 := cm_lt.mp h1
        refine z_rcs hc hH 2 (pc' := 2) (lv' := [(1, .int ((nI i) + 1)), (0, .ref 9)]) (st' := []) (μ' := μ) (by rfl) ?_
        rw [nI_1]
        have n2 : ¬ 2 ≤ w i := fun q => by
          have z := h1
          rw [Int32.lt_iff_toInt_lt, nI_toInt (by omega)] at z
          have z : _ < (2 : Int) := z
          omega
        exact ih (i + 1) (by omega) (fun q q1 => if e : q = i then (by rw [e]; exact (fun q => n2 q.1)) else hn q (by omega))
      · have h1 := cn_lt.mp h1
        refine z_rcs hc hH 2 (pc' := 20) (lv' := [(1, .int (nI i)), (0, .ref 9)]) (st' := [.int (nI i), .ref 9]) (μ' := μ) (by rfl) ?_
        have h2 : 2 ≤ w i := by
          have z := h1
          rw [Int32.not_lt, Int32.le_iff_toInt_le, nI_toInt (by omega)] at z
          have z : (2 : Int) ≤ _ := z
          omega
        refine zq_call hc (by rfl) (fc_X3_splitsBeside d' (by omega) μ w hw i (by omega) h2) (by decide +kernel) (fun r9 μ9 hq => ?_)
        obtain ⟨hμ9, hq⟩ := hq
        rw [hμ9]
        clear hμ9 μ9
        obtain ⟨rfl, hs⟩ | ⟨rfl, hs⟩ := hq
        · show Z 0 23 [(1, .int (nI i)), (0, .ref 9)] [.int 1] μ
          refine z_rcs hc hH 2 (pc' := 27) (lv' := [(1, .int (nI i)), (0, .ref 9)]) (st' := [.int 1]) (μ' := μ) (by rfl) ?_
          exact hr 0 27 _ _ _ (some (.int 1)) (by decide +kernel) (by rfl) (⟨rfl, Or.inl ⟨rfl, i, by omega, h2, hs⟩⟩)
        · show Z 0 23 [(1, .int (nI i)), (0, .ref 9)] [.int 0] μ
          refine z_rcs hc hH 3 (pc' := 2) (lv' := [(1, .int ((nI i) + 1)), (0, .ref 9)]) (st' := []) (μ' := μ) (by rfl) ?_
          rw [nI_1]
          exact ih (i + 1) (by omega) (fun q q1 => if e : q = i then (by rw [e]; exact (fun q => hs q.2)) else hn q (by omega))
  refine z_rcs hc hH 2 (pc' := 2) (lv' := [(1, .int 0), (0, .ref 9)]) (st' := []) (μ' := μ) (by rfl) ?_
  exact lp 34 0 rfl (fun q hq => absurd hq (by omega))
theorem zh_X3_isSevenPairs : zH mi_X3_isSevenPairs zc_X3_isSevenPairs 79 3 2 := ⟨by rfl, by rfl, by rfl, by rfl⟩
theorem fc_X3_isSevenPairs (d : Nat) (hd : 1 ≤ d) (μ : zM) (w : Nat → Nat) (hw : RW μ 10 w) : z_C d mi_X3_isSevenPairs [.ref 9] μ (zB μ ((∀ k, k < 34 → w k = 0 ∨ w k = 2) ∧ μ.1 9 4 = 0 ∧ μ.1 9 5 = 14)) := by
  refine z_C_in (by decide) (by omega) (fun d' Z ed hc hr => ?_)
  have hH := zh_X3_isSevenPairs
  have lp : ∀ (n i : Nat), i + n = 34 → (∀ q, q < i → w q = 0 ∨ w q = 2) → Z 0 2 [(1, .int (nI i)), (0, .ref 9)] [] μ := by
    intro n
    induction n with
    | zero =>
      intro i hi hn
      have hi : i = 34 := by omega
      subst hi
      refine z_rcs hc hH 2 (pc' := 5) (lv' := [(1, .int (nI 34)), (0, .ref 9)]) (st' := [.int 34, .int (nI 34)]) (μ' := μ) (by rfl) ?_
      refine zq_ic hc hH (by rfl) (tg := 35) (by rfl) (fun _ => ?_) (fun h9 => (zb_t (ge_nIt (n := 34) (i := 34) (by decide) (by decide)) h9).elim)
      refine z_rcs hc hH 2 (pc' := 39) (lv' := [(1, .int (nI 34)), (0, .ref 9)]) (st' := [.int (μ.1 9 4)]) (μ' := μ) (by rfl) ?_
      refine zq_if hc hH (by rfl) (tg := 55) (by rfl) (fun h1 => ?_) (fun h1 => ?_)
      · have h1 := cm_ne.mp h1
        refine z_rcs hc hH 1 (pc' := 56) (lv' := [(1, .int (nI 34)), (0, .ref 9)]) (st' := [.int 0]) (μ' := μ) (by rfl) ?_
        exact hr 0 56 _ _ _ (some (.int 0)) (by decide +kernel) (by rfl) (⟨rfl, Or.inr ⟨rfl, fun q => h1 q.2.1⟩⟩)
      · have h1 := cn_ne.mp h1
        refine z_rcs hc hH 3 (pc' := 48) (lv' := [(1, .int (nI 34)), (0, .ref 9)]) (st' := [.int 14, .int (μ.1 9 5)]) (μ' := μ) (by rfl) ?_
        refine zq_ic hc hH (by rfl) (tg := 55) (by rfl) (fun h2 => ?_) (fun h2 => ?_)
        · have h2 := cm_ne.mp h2
          refine z_rcs hc hH 1 (pc' := 56) (lv' := [(1, .int (nI 34)), (0, .ref 9)]) (st' := [.int 0]) (μ' := μ) (by rfl) ?_
          exact hr 0 56 _ _ _ (some (.int 0)) (by decide +kernel) (by rfl) (⟨rfl, Or.inr ⟨rfl, fun q => h2 q.2.2⟩⟩)
        · have h2 := cn_ne.mp h2
          refine z_rcs hc hH 2 (pc' := 56) (lv' := [(1, .int (nI 34)), (0, .ref 9)]) (st' := [.int 1]) (μ' := μ) (by rfl) ?_
          exact hr 0 56 _ _ _ (some (.int 1)) (by decide +kernel) (by rfl) (⟨rfl, Or.inl ⟨rfl, hn, h1, h2⟩⟩)
    | succ n ih =>
      intro i hi hn
      have hin : vp_in (nI i) 34 := vp_in_nI (by omega) (by decide)
      have b5 := (hw i (by omega)).2
      refine z_rcs hc hH 2 (pc' := 5) (lv' := [(1, .int (nI i)), (0, .ref 9)]) (st' := [.int 34, .int (nI i)]) (μ' := μ) (by rfl) ?_
      refine zq_ic hc hH (by rfl) (tg := 35) (by rfl) (fun h9 => (zb_t h9 (ge_nI (n := 34) (i := i) (by omega) (by decide))).elim) (fun _ => ?_)
      refine z_rcs hc hH 3 (pc' := 13) (lv' := [(1, .int (nI i)), (0, .ref 9)]) (st' := [.int (nI i), .ref 10]) (μ' := μ) (by rfl) ?_
      refine zq_iald hc hH (by rfl) 34 (by decide +kernel) (hin) ?_
      rw [nI_clamp (n := i) (by omega), (hw i (by omega)).1]
      refine zq_if hc hH (by rfl) (tg := 29) (by rfl) (fun h1 => ?_) (fun h1 => ?_)
      · have h1 := cm_eq9.mp h1
        refine z_rcs hc hH 2 (pc' := 2) (lv' := [(1, .int ((nI i) + 1)), (0, .ref 9)]) (st' := []) (μ' := μ) (by rfl) ?_
        rw [nI_1]
        have e9 : w i = 0 := (nI_eq (by omega) (by omega)).mp h1
        exact ih (i + 1) (by omega) (fun q q1 => if e : q = i then (by rw [e]; exact Or.inl e9) else hn q (by omega))
      · have h1 := cn_eq.mp h1
        refine z_rcs hc hH 3 (pc' := 22) (lv' := [(1, .int (nI i)), (0, .ref 9)]) (st' := [.int (nI i), .ref 10]) (μ' := μ) (by rfl) ?_
        refine zq_iald hc hH (by rfl) 34 (by decide +kernel) (hin) ?_
        rw [nI_clamp (n := i) (by omega), (hw i (by omega)).1]
        refine z_rcs hc hH 1 (pc' := 24) (lv' := [(1, .int (nI i)), (0, .ref 9)]) (st' := [.int 2, .int (nI (w i))]) (μ' := μ) (by rfl) ?_
        refine zq_ic hc hH (by rfl) (tg := 29) (by rfl) (fun h2 => ?_) (fun h2 => ?_)
        · have h2 := cm_eq9.mp h2
          refine z_rcs hc hH 2 (pc' := 2) (lv' := [(1, .int ((nI i) + 1)), (0, .ref 9)]) (st' := []) (μ' := μ) (by rfl) ?_
          rw [nI_1]
          have e9 : w i = 2 := (nI_eq (by omega) (by omega)).mp h2
          exact ih (i + 1) (by omega) (fun q q1 => if e : q = i then (by rw [e]; exact Or.inr e9) else hn q (by omega))
        · have h2 := cn_eq.mp h2
          refine z_rcs hc hH 1 (pc' := 28) (lv' := [(1, .int (nI i)), (0, .ref 9)]) (st' := [.int 0]) (μ' := μ) (by rfl) ?_
          exact hr 0 28 _ _ _ (some (.int 0)) (by decide +kernel) (by rfl) (⟨rfl, Or.inr ⟨rfl, fun q => (q.1 i (by omega)).elim (fun e => h1 (by rw [e]; rfl)) (fun e => h2 (by rw [e]; rfl))⟩⟩)
  refine z_rcs hc hH 2 (pc' := 2) (lv' := [(1, .int 0), (0, .ref 9)]) (st' := []) (μ' := μ) (by rfl) ?_
  exact lp 34 0 rfl (fun q hq => absurd hq (by omega))
theorem zh_X3_kinds : zH mi_X3_kinds zc_X3_kinds 79 3 4 := ⟨by rfl, by rfl, by rfl, by rfl⟩
theorem fc_X3_kinds (d : Nat) (hd : 1 ≤ d) (μ : zM) (w : Nat → Nat) (hw : RW μ 11 w) : z_C d mi_X3_kinds [.ref 9] μ (zR μ (.long (kb (fun k => decide (0 < w k)) 34))) := by
  refine z_C_in (by decide) (by omega) (fun d' Z ed hc hr => ?_)
  have hH := zh_X3_kinds
  have lp : ∀ (n i : Nat), i + n = 34 → Z 0 4 [(3, .int (nI i)), (1, .long (kb (fun k => decide (0 < w k)) i)), (0, .ref 9)] [] μ := by
    intro n
    induction n with
    | zero =>
      intro i hi
      have hi : i = 34 := by omega
      subst hi
      refine z_rcs hc hH 2 (pc' := 7) (lv' := [(3, .int (nI 34)), (1, .long (kb (fun k => decide (0 < w k)) 34)), (0, .ref 9)]) (st' := [.int 34, .int (nI 34)]) (μ' := μ) (by rfl) ?_
      refine zq_ic hc hH (by rfl) (tg := 31) (by rfl) (fun _ => ?_) (fun h9 => (zb_t (ge_nIt (n := 34) (i := 34) (by decide) (by decide)) h9).elim)
      refine z_rcs hc hH 1 (pc' := 32) (lv' := [(3, .int (nI 34)), (1, .long (kb (fun k => decide (0 < w k)) 34)), (0, .ref 9)]) (st' := [.long (kb (fun k => decide (0 < w k)) 34)]) (μ' := μ) (by rfl) ?_
      exact hr 0 32 _ _ _ (some (.long (kb (fun k => decide (0 < w k)) 34))) (by decide +kernel) (by rfl) (⟨rfl, rfl⟩)
    | succ n ih =>
      intro i hi
      have hin : vp_in (nI i) 34 := vp_in_nI (by omega) (by decide)
      have b5 := (hw i (by omega)).2
      have q := ih (i + 1) (by omega)
      have ek : kb (fun k => decide (0 < w k)) (i + 1) = if decide (0 < w i) = true then kb (fun k => decide (0 < w k)) i ||| ((1 : Int64) <<< ((nI i).toInt64 &&& 63)) else kb (fun k => decide (0 < w k)) i := rfl
      refine z_rcs hc hH 2 (pc' := 7) (lv' := [(3, .int (nI i)), (1, .long (kb (fun k => decide (0 < w k)) i)), (0, .ref 9)]) (st' := [.int 34, .int (nI i)]) (μ' := μ) (by rfl) ?_
      refine zq_ic hc hH (by rfl) (tg := 31) (by rfl) (fun h9 => (zb_t h9 (ge_nI (n := 34) (i := i) (by omega) (by decide))).elim) (fun _ => ?_)
      refine z_rcs hc hH 3 (pc' := 15) (lv' := [(3, .int (nI i)), (1, .long (kb (fun k => decide (0 < w k)) i)), (0, .ref 9)]) (st' := [.int (nI i), .ref 11]) (μ' := μ) (by rfl) ?_
      refine zq_iald hc hH (by rfl) 34 (by decide +kernel) (hin) ?_
      rw [nI_clamp (n := i) (by omega), (hw i (by omega)).1]
      refine zq_if hc hH (by rfl) (tg := 25) (by rfl) (fun h1 => ?_) (fun h1 => ?_)
      · have h1 := cm_le.mp h1
        refine z_rcs hc hH 2 (pc' := 4) (lv' := [(3, .int ((nI i) + 1)), (1, .long (kb (fun k => decide (0 < w k)) i)), (0, .ref 9)]) (st' := []) (μ' := μ) (by rfl) ?_
        rw [nI_1]
        have z := h1
        rw [Int32.le_iff_toInt_le, nI_toInt (by omega)] at z
        have z : ((w i : Nat) : Int) ≤ 0 := z
        rw [ek, if_neg (by rw [decide_eq_true_iff]; omega)] at q
        exact q
      · have h1 := cn_le.mp h1
        refine z_rcs hc hH 8 (pc' := 4) (lv' := [(3, .int ((nI i) + 1)), (1, .long ((kb (fun k => decide (0 < w k)) i) ||| (1 <<< ((nI i).toInt64 &&& 63)))), (0, .ref 9)]) (st' := []) (μ' := μ) (by rfl) ?_
        rw [nI_1]
        have z := h1
        rw [Int32.not_le, Int32.lt_iff_toInt_lt, nI_toInt (by omega)] at z
        have z : (0 : Int) < ((w i : Nat) : Int) := z
        rw [ek, if_pos (decide_eq_true (by omega))] at q
        exact q
  refine z_rcs hc hH 4 (pc' := 4) (lv' := [(3, .int 0), (1, .long 0), (0, .ref 9)]) (st' := []) (μ' := μ) (by rfl) ?_
  exact lp 34 0 rfl
theorem zh_X3_isThirteen : zH mi_X3_isThirteen zc_X3_isThirteen 79 3 1 := ⟨by rfl, by rfl, by rfl, by rfl⟩
theorem lg_cmp0 {x y : Int64} : lg_cmp x y = 0 ↔ x = y := by
  unfold lg_cmp
  by_cases h : x > y
  · rw [if_pos h]
    exact ⟨fun q => absurd q (by decide), fun q => by rw [q] at h; exact absurd h (Int64.lt_irrefl)⟩
  · rw [if_neg h]
    by_cases h2 : x = y
    · rw [if_pos h2]; exact ⟨fun _ => h2, fun _ => rfl⟩
    · rw [if_neg h2]; exact ⟨fun q => absurd q (by decide), fun q => absurd q h2⟩
theorem kb_ends : (17113154305 : Int64) = kb eN 34 := by decide +kernel
theorem kb_13 {w : Nat → Nat} : (lg_cmp (kb (fun k => decide (0 < w k)) 34) 17113154305 = 0) ↔ ∀ k, k < 34 → (0 < w k ↔ eN k = true) := by
  rw [kb_ends]
  have e : ∀ x y : Int64, lg_cmp x y = 0 ↔ x = y := fun x y => lg_cmp0
  rw [e]
  constructor
  · intro h k hk
    have q := kb_inj h k hk
    rw [← q]
    exact (decide_eq_true_iff).symm
  · intro h
    exact kb_congr (fun k hk => by
      cases c : eN k with
      | true => exact decide_eq_true ((h k hk).mpr c)
      | false => exact decide_eq_false (fun q => by have := (h k hk).mp q; rw [c] at this; cases this))
theorem fc_X3_isThirteen (d : Nat) (hd : 2 ≤ d) (μ : zM) (w : Nat → Nat) (hw : μ.1 9 4 = 0 → RW μ 11 w) : z_C d mi_X3_isThirteen [.ref 9] μ (zB μ (μ.1 9 4 = 0 ∧ μ.1 9 5 = 14 ∧ ∀ k, k < 34 → (0 < w k ↔ eN k = true))) := by
  refine z_C_in (by decide) (by omega) (fun d' Z ed hc hr => ?_)
  have hH := zh_X3_isThirteen
  refine z_rcs hc hH 2 (pc' := 4) (lv' := [(0, .ref 9)]) (st' := [.int (μ.1 9 4)]) (μ' := μ) (by rfl) ?_
  refine zq_if hc hH (by rfl) (tg := 31) (by rfl) (fun h1 => ?_) (fun h1 => ?_)
  · have h1 := cm_ne.mp h1
    refine z_rcs hc hH 1 (pc' := 32) (lv' := [(0, .ref 9)]) (st' := [.int 0]) (μ' := μ) (by rfl) ?_
    exact hr 0 32 _ _ _ (some (.int 0)) (by decide +kernel) (by rfl) (⟨rfl, Or.inr ⟨rfl, fun q => h1 q.1⟩⟩)
  · have h1 := cn_ne.mp h1
    refine z_rcs hc hH 3 (pc' := 13) (lv' := [(0, .ref 9)]) (st' := [.int 14, .int (μ.1 9 5)]) (μ' := μ) (by rfl) ?_
    refine zq_ic hc hH (by rfl) (tg := 31) (by rfl) (fun h2 => ?_) (fun h2 => ?_)
    · have h2 := cm_ne.mp h2
      refine z_rcs hc hH 1 (pc' := 32) (lv' := [(0, .ref 9)]) (st' := [.int 0]) (μ' := μ) (by rfl) ?_
      exact hr 0 32 _ _ _ (some (.int 0)) (by decide +kernel) (by rfl) (⟨rfl, Or.inr ⟨rfl, fun q => h2 q.2.1⟩⟩)
    · have h2 := cn_ne.mp h2
      refine z_rcs hc hH 1 (pc' := 17) (lv' := [(0, .ref 9)]) (st' := [.ref 9]) (μ' := μ) (by rfl) ?_
      refine zq_call hc (by rfl) (fc_X3_kinds d' (by omega) μ w (hw h1)) (by decide +kernel) (fun r9 μ9 hq => ?_)
      obtain ⟨hμ9, rfl⟩ := hq
      rw [hμ9]
      clear hμ9 μ9
      show Z 0 20 [(0, .ref 9)] [.long (kb (fun k => decide (0 < w k)) 34)] μ
      refine z_rcs hc hH 2 (pc' := 24) (lv' := [(0, .ref 9)]) (st' := [.int (lg_cmp (kb (fun k => decide (0 < w k)) 34) 17113154305)]) (μ' := μ) (by rfl) ?_
      refine zq_if hc hH (by rfl) (tg := 31) (by rfl) (fun h3 => ?_) (fun h3 => ?_)
      · have h3 := cm_ne.mp h3
        refine z_rcs hc hH 1 (pc' := 32) (lv' := [(0, .ref 9)]) (st' := [.int 0]) (μ' := μ) (by rfl) ?_
        exact hr 0 32 _ _ _ (some (.int 0)) (by decide +kernel) (by rfl) (⟨rfl, Or.inr ⟨rfl, fun q => h3 (kb_13.mpr q.2.2)⟩⟩)
      · have h3 := cn_ne.mp h3
        refine z_rcs hc hH 2 (pc' := 32) (lv' := [(0, .ref 9)]) (st' := [.int 1]) (μ' := μ) (by rfl) ?_
        exact hr 0 32 _ _ _ (some (.int 1)) (by decide +kernel) (by rfl) (⟨rfl, Or.inl ⟨rfl, h1, h2, kb_13.mp h3⟩⟩)
def ad1 (w : Nat → Nat) (c : Nat) : Nat → Nat := fun j => if j = c then w j + 1 else w j
theorem RW_put {μ : zM} {r c : Nat} {w : Nat → Nat} (hr : r = 10 ∨ r = 11) (hc : c < 34) (h : RW μ r w) (h4 : w c ≤ 4) : RW (z_put μ (nI c) 1) r (ad1 w c) := by
  intro k hk
  have e := h k hk
  have ec : (nI c).toNatClampNeg = c := nI_clamp (by omega)
  unfold z_put ad1
  rw [z_ui_rd, if_neg (by omega), ec]
  rcases hr with rfl | rfl
  · rw [z_ui_rd, if_neg (by omega), z_ui_rd]
    by_cases q : k = c
    · rw [if_pos ⟨rfl, q⟩, if_pos q, ← q, e.1, nI_1]
      exact ⟨rfl, by rw [← q] at h4; omega⟩
    · rw [if_neg (fun z => q z.2), if_neg q]
      exact e
  · rw [z_ui_rd]
    by_cases q : k = c
    · rw [if_pos ⟨rfl, q⟩, if_pos q, ← q, e.1, nI_1]
      exact ⟨rfl, by rw [← q] at h4; omega⟩
    · rw [if_neg (fun z => q z.2), if_neg q, z_ui_rd, if_neg (by omega)]
      exact e
def WX (μ : zM) (w : Nat → Nat) (q c : Nat) : Prop := μ.1 9 5 + 3 * μ.1 9 4 = 13 ∧ ¬ (4 : Int32) ≤ μ.1 11 c ∧ FU (ad1 w c) q
theorem put_94 (μ : zM) (k n : Int32) : (z_put μ k n).1 9 4 = μ.1 9 4 := by unfold z_put; rw [z_ui_rd, if_neg (by omega), z_ui_rd, if_neg (by omega), z_ui_rd, if_neg (by omega)]
theorem put_95 (μ : zM) (k n : Int32) : (z_put μ k n).1 9 5 = μ.1 9 5 + n := by unfold z_put; rw [z_ui_rd, if_pos ⟨rfl, rfl⟩]
theorem fx_X3_waitsFor (d : Nat) (hd : 6 ≤ d) (μ : zM) (w : Nat → Nat) (q c : Nat) (hw : RW μ 10 w) (h4 : ∀ k, k < 34 → w k ≤ 4) (hq : q ≤ 4) (e4 : μ.1 9 4 = nI q) (h11 : q = 0 → RW μ 11 w) (hcc : c < 34) : z_C d mi_X3_waitsFor [.ref 9, .int (nI c)] μ (zB μ (WX μ w q c)) := by
  refine z_C_in (by decide) (by omega) (fun d' Z ed hc hr => ?_)
  have hH := zh_X3_waitsFor
  have hH := zh_X3_waitsFor
  have hin : vp_in (nI c) 34 := vp_in_nI hcc (by decide)
  have hw1 := RW_put (Or.inl rfl) hcc hw (h4 c hcc)
  have q0 : (z_put μ (nI c) 1).1 9 4 = 0 → q = 0 := fun e => (nI_eq (by omega) (by omega)).mp ((e4.symm.trans (put_94 μ (nI c) 1).symm).trans e)
  have hw2 : (z_put μ (nI c) 1).1 9 4 = 0 → RW (z_put μ (nI c) 1) 11 (ad1 w c) := fun e => RW_put (Or.inr rfl) hcc (h11 (q0 e)) (h4 c hcc)
  refine z_rcs hc hH 1 (pc' := 1) (lv' := [(0, .ref 9), (1, .int (nI c))]) (st' := [.ref 9]) (μ' := μ) (by rfl) ?_
  refine zq_call hc (by rfl) (fc_X3_size d' (by omega) μ) (by decide +kernel) (fun r9 μ9 hq => ?_)
  obtain ⟨hμ9, rfl⟩ := hq
  rw [hμ9]
  clear hμ9 μ9
  show Z 0 4 [(0, .ref 9), (1, .int (nI c))] [.int (μ.1 9 5 + 3 * μ.1 9 4)] μ
  refine z_rcs hc hH 1 (pc' := 6) (lv' := [(0, .ref 9), (1, .int (nI c))]) (st' := [.int 13, .int (μ.1 9 5 + 3 * μ.1 9 4)]) (μ' := μ) (by rfl) ?_
  refine zq_ic hc hH (by rfl) (tg := 26) (by rfl) (fun h1 => ?_) (fun h1 => ?_)
  · have h1 := cm_ne.mp h1
    refine z_rcs hc hH 1 (pc' := 27) (lv' := [(0, .ref 9), (1, .int (nI c))]) (st' := [.int 0]) (μ' := μ) (by rfl) ?_
    exact hr 0 27 _ _ _ (some (.int 0)) (by decide +kernel) (by rfl) (⟨rfl, Or.inr ⟨rfl, fun z => h1 z.1⟩⟩)
  · have h1 := cn_ne.mp h1
    refine z_rcs hc hH 1 (pc' := 10) (lv' := [(0, .ref 9), (1, .int (nI c))]) (st' := [.int (nI c)]) (μ' := μ) (by rfl) ?_
    refine zq_call hc (by rfl) (fc_X6_isKind d' (by omega) μ (nI c)) (by decide +kernel) (fun r9 μ9 hq => ?_)
    obtain ⟨hμ9, hq⟩ := hq
    rw [hμ9]
    clear hμ9 μ9
    obtain ⟨rfl, hk⟩ | ⟨rfl, hk⟩ := hq
    · show Z 0 13 [(0, .ref 9), (1, .int (nI c))] [.int 1] μ
      refine z_rcs hc hH 4 (pc' := 21) (lv' := [(0, .ref 9), (1, .int (nI c))]) (st' := [.int (nI c), .ref 11]) (μ' := μ) (by rfl) ?_
      refine zq_iald hc hH (by rfl) 34 (by decide +kernel) (hin) ?_
      refine z_rcs hc hH 1 (pc' := 23) (lv' := [(0, .ref 9), (1, .int (nI c))]) (st' := [.int 4, .int (μ.1 11 (nI c).toNatClampNeg)]) (μ' := μ) (by rfl) ?_
      refine zq_ic hc hH (by rfl) (tg := 28) (by rfl) (fun h2 => ?_) (fun h2 => ?_)
      · have h2 := cm_lt.mp h2
        refine z_rcs hc hH 3 (pc' := 31) (lv' := [(0, .ref 9), (1, .int (nI c))]) (st' := [.int 1, .int (nI c), .ref 9]) (μ' := μ) (by rfl) ?_
        refine zq_call hc (by rfl) (fc_X3_put d' (by omega) μ (nI c) 1) (by decide +kernel) (fun r9 μ9 hq => ?_)
        obtain ⟨rfl, hq⟩ := hq
        obtain ⟨-, rfl⟩ := hq.resolve_right (fun q9 => q9.1 hin)
        show Z 0 34 [(0, .ref 9), (1, .int (nI c))] [] (z_put μ (nI c) 1)
        refine z_rcs hc hH 1 (pc' := 35) (lv' := [(0, .ref 9), (1, .int (nI c))]) (st' := [.ref 9]) (μ' := z_put μ (nI c) 1) (by rfl) ?_
        have z4 : q = 0 → (z_put μ (nI c) 1).1 9 4 = 0 := fun e => by rw [put_94, e4, e]; rfl
        have z5 : q = 0 → (z_put μ (nI c) 1).1 9 5 = 14 := fun e => by
          have z := h1
          rw [e4, e] at z
          have z : μ.1 9 5 + 3 * 0 = 13 := z
          rw [Int32.mul_zero, Int32.add_zero] at z
          rw [put_95, z]
          rfl
        refine zq_call hc (by rfl) (fc_X3_isSevenPairs d' (by omega) (z_put μ (nI c) 1) (ad1 w c) hw1) (by decide +kernel) (fun r9 μ9 hq => ?_)
        obtain ⟨hμ9, hq⟩ := hq
        rw [hμ9]
        clear hμ9 μ9
        obtain ⟨rfl, h7⟩ | ⟨rfl, h7⟩ := hq
        · show Z 0 38 [(0, .ref 9), (1, .int (nI c))] [.int 1] (z_put μ (nI c) 1)
          refine z_rcs hc hH 7 (pc' := 64) (lv' := [(2, .int 1), (0, .ref 9), (1, .int (nI c))]) (st' := [.int 1, .int (nI c), .ref 9]) (μ' := z_put μ (nI c) 1) (by rfl) ?_
          refine zq_call hc (by rfl) (fc_X3_take d' (by omega) (z_put μ (nI c) 1) (nI c) 1) (by decide +kernel) (fun r9 μ9 hq => ?_)
          obtain ⟨rfl, hq⟩ := hq
          obtain ⟨-, rfl⟩ := hq.resolve_right (fun q9 => q9.1 hin)
          rw [z_put_back]
          show Z 0 67 [(2, .int 1), (0, .ref 9), (1, .int (nI c))] [] μ
          refine z_rcs hc hH 1 (pc' := 68) (lv' := [(2, .int 1), (0, .ref 9), (1, .int (nI c))]) (st' := [.int 1]) (μ' := μ) (by rfl) ?_
          exact hr 0 68 _ _ _ (some (.int 1)) (by decide +kernel) (by rfl) (⟨rfl, Or.inl ⟨rfl, h1, (by have z9 := h2; rw [nI_clamp (n := c) (by omega)] at z9; exact Int32.not_le.mpr z9), Or.inr ⟨q0 h7.2.1, Or.inl h7.1⟩⟩⟩)
        · show Z 0 38 [(0, .ref 9), (1, .int (nI c))] [.int 0] (z_put μ (nI c) 1)
          refine z_rcs hc hH 2 (pc' := 42) (lv' := [(0, .ref 9), (1, .int (nI c))]) (st' := [.ref 9]) (μ' := z_put μ (nI c) 1) (by rfl) ?_
          refine zq_call hc (by rfl) (fc_X3_isThirteen d' (by omega) (z_put μ (nI c) 1) (ad1 w c) hw2) (by decide +kernel) (fun r9 μ9 hq => ?_)
          obtain ⟨hμ9, hq⟩ := hq
          rw [hμ9]
          clear hμ9 μ9
          obtain ⟨rfl, h13⟩ | ⟨rfl, h13⟩ := hq
          · show Z 0 45 [(0, .ref 9), (1, .int (nI c))] [.int 1] (z_put μ (nI c) 1)
            refine z_rcs hc hH 7 (pc' := 64) (lv' := [(2, .int 1), (0, .ref 9), (1, .int (nI c))]) (st' := [.int 1, .int (nI c), .ref 9]) (μ' := z_put μ (nI c) 1) (by rfl) ?_
            refine zq_call hc (by rfl) (fc_X3_take d' (by omega) (z_put μ (nI c) 1) (nI c) 1) (by decide +kernel) (fun r9 μ9 hq => ?_)
            obtain ⟨rfl, hq⟩ := hq
            obtain ⟨-, rfl⟩ := hq.resolve_right (fun q9 => q9.1 hin)
            rw [z_put_back]
            show Z 0 67 [(2, .int 1), (0, .ref 9), (1, .int (nI c))] [] μ
            refine z_rcs hc hH 1 (pc' := 68) (lv' := [(2, .int 1), (0, .ref 9), (1, .int (nI c))]) (st' := [.int 1]) (μ' := μ) (by rfl) ?_
            exact hr 0 68 _ _ _ (some (.int 1)) (by decide +kernel) (by rfl) (⟨rfl, Or.inl ⟨rfl, h1, (by have z9 := h2; rw [nI_clamp (n := c) (by omega)] at z9; exact Int32.not_le.mpr z9), Or.inr ⟨q0 h13.1, Or.inr h13.2.2⟩⟩⟩)
          · show Z 0 45 [(0, .ref 9), (1, .int (nI c))] [.int 0] (z_put μ (nI c) 1)
            refine z_rcs hc hH 2 (pc' := 49) (lv' := [(0, .ref 9), (1, .int (nI c))]) (st' := [.ref 9]) (μ' := z_put μ (nI c) 1) (by rfl) ?_
            refine zq_call hc (by rfl) (fc_X3_isSetsAndPair d' (by omega) (z_put μ (nI c) 1) (ad1 w c) hw1) (by decide +kernel) (fun r9 μ9 hq => ?_)
            obtain ⟨hμ9, hq⟩ := hq
            rw [hμ9]
            clear hμ9 μ9
            obtain ⟨rfl, hs⟩ | ⟨rfl, hs⟩ := hq
            · show Z 0 52 [(0, .ref 9), (1, .int (nI c))] [.int 1] (z_put μ (nI c) 1)
              refine z_rcs hc hH 7 (pc' := 64) (lv' := [(2, .int 1), (0, .ref 9), (1, .int (nI c))]) (st' := [.int 1, .int (nI c), .ref 9]) (μ' := z_put μ (nI c) 1) (by rfl) ?_
              refine zq_call hc (by rfl) (fc_X3_take d' (by omega) (z_put μ (nI c) 1) (nI c) 1) (by decide +kernel) (fun r9 μ9 hq => ?_)
              obtain ⟨rfl, hq⟩ := hq
              obtain ⟨-, rfl⟩ := hq.resolve_right (fun q9 => q9.1 hin)
              rw [z_put_back]
              show Z 0 67 [(2, .int 1), (0, .ref 9), (1, .int (nI c))] [] μ
              refine z_rcs hc hH 1 (pc' := 68) (lv' := [(2, .int 1), (0, .ref 9), (1, .int (nI c))]) (st' := [.int 1]) (μ' := μ) (by rfl) ?_
              exact hr 0 68 _ _ _ (some (.int 1)) (by decide +kernel) (by rfl) (⟨rfl, Or.inl ⟨rfl, h1, (by have z9 := h2; rw [nI_clamp (n := c) (by omega)] at z9; exact Int32.not_le.mpr z9), Or.inl hs⟩⟩)
            · show Z 0 52 [(0, .ref 9), (1, .int (nI c))] [.int 0] (z_put μ (nI c) 1)
              refine z_rcs hc hH 6 (pc' := 64) (lv' := [(2, .int 0), (0, .ref 9), (1, .int (nI c))]) (st' := [.int 1, .int (nI c), .ref 9]) (μ' := z_put μ (nI c) 1) (by rfl) ?_
              refine zq_call hc (by rfl) (fc_X3_take d' (by omega) (z_put μ (nI c) 1) (nI c) 1) (by decide +kernel) (fun r9 μ9 hq => ?_)
              obtain ⟨rfl, hq⟩ := hq
              obtain ⟨-, rfl⟩ := hq.resolve_right (fun q9 => q9.1 hin)
              rw [z_put_back]
              show Z 0 67 [(2, .int 0), (0, .ref 9), (1, .int (nI c))] [] μ
              refine z_rcs hc hH 1 (pc' := 68) (lv' := [(2, .int 0), (0, .ref 9), (1, .int (nI c))]) (st' := [.int 0]) (μ' := μ) (by rfl) ?_
              exact hr 0 68 _ _ _ (some (.int 0)) (by decide +kernel) (by rfl) (⟨rfl, Or.inr ⟨rfl, fun z => z.2.2.elim hs (fun y => y.2.elim (fun u => h7 ⟨u, z4 y.1, z5 y.1⟩) (fun u => h13 ⟨z4 y.1, z5 y.1, u⟩))⟩⟩)
      · have h2 := cn_lt.mp h2
        refine z_rcs hc hH 1 (pc' := 27) (lv' := [(0, .ref 9), (1, .int (nI c))]) (st' := [.int 0]) (μ' := μ) (by rfl) ?_
        exact hr 0 27 _ _ _ (some (.int 0)) (by decide +kernel) (by rfl) (⟨rfl, Or.inr ⟨rfl, fun z => z.2.1 (by have z9 := h2; rw [nI_clamp (n := c) (by omega)] at z9; rw [Int32.not_lt] at z9; exact z9)⟩⟩)
    · show Z 0 13 [(0, .ref 9), (1, .int (nI c))] [.int 0] μ
      refine z_rcs hc hH 2 (pc' := 27) (lv' := [(0, .ref 9), (1, .int (nI c))]) (st' := [.int 0]) (μ' := μ) (by rfl) ?_
      exact hr 0 27 _ _ _ (some (.int 0)) (by decide +kernel) (by rfl) (⟨rfl, Or.inr ⟨rfl, fun _ => hk hin⟩⟩)
noncomputable def wb (P : Nat → Prop) (k : Nat) : Bool := @decide (P k) (Classical.propDecidable _)
theorem wb_t {P : Nat → Prop} {k : Nat} (h : P k) : wb P k = true := @decide_eq_true _ (Classical.propDecidable _) h
theorem wb_f {P : Nat → Prop} {k : Nat} (h : ¬ P k) : wb P k = false := @decide_eq_false _ (Classical.propDecidable _) h
theorem wb_iff {P Q : Nat → Prop} {k : Nat} (h : P k ↔ Q k) : wb P k = wb Q k := by
  by_cases c : P k
  · rw [wb_t c, wb_t (h.mp c)]
  · rw [wb_f c, wb_f (fun q => c (h.mpr q))]
theorem fx_X3_waiting (d : Nat) (hd : 7 ≤ d) (μ : zM) (w : Nat → Nat) (q : Nat) (hw : RW μ 10 w) (h4 : ∀ k, k < 34 → w k ≤ 4) (hq : q ≤ 4) (e4 : μ.1 9 4 = nI q) (h11 : q = 0 → RW μ 11 w) : z_C d mi_X3_waiting [.ref 9] μ (zR μ (.long (kb (wb (WX μ w q)) 34))) := by
  refine z_C_in (by decide) (by omega) (fun d' Z ed hc hr => ?_)
  have hH := zh_X3_waiting
  have hH := zh_X3_waiting
  have lp : ∀ (n i : Nat), i + n = 34 → Z 0 4 [(3, .int (nI i)), (1, .long (kb (wb (WX μ w q)) i)), (0, .ref 9)] [] μ := by
    intro n
    induction n with
    | zero =>
      intro i hi
      have hi : i = 34 := by omega
      subst hi
      refine z_rcs hc hH 2 (pc' := 7) (lv' := [(3, .int (nI 34)), (1, .long (kb (wb (WX μ w q)) 34)), (0, .ref 9)]) (st' := [.int 34, .int (nI 34)]) (μ' := μ) (by rfl) ?_
      refine zq_ic hc hH (by rfl) (tg := 30) (by rfl) (fun _ => ?_) (fun h9 => (zb_t (ge_nIt (n := 34) (i := 34) (by decide) (by decide)) h9).elim)
      refine z_rcs hc hH 1 (pc' := 31) (lv' := [(3, .int (nI 34)), (1, .long (kb (wb (WX μ w q)) 34)), (0, .ref 9)]) (st' := [.long (kb (wb (WX μ w q)) 34)]) (μ' := μ) (by rfl) ?_
      exact hr 0 31 _ _ _ (some (.long (kb (wb (WX μ w q)) 34))) (by decide +kernel) (by rfl) (⟨rfl, rfl⟩)
    | succ n ih =>
      intro i hi
      have q9 := ih (i + 1) (by omega)
      have ek : kb (wb (WX μ w q)) (i + 1) = if wb (WX μ w q) i = true then kb (wb (WX μ w q)) i ||| ((1 : Int64) <<< ((nI i).toInt64 &&& 63)) else kb (wb (WX μ w q)) i := rfl
      refine z_rcs hc hH 2 (pc' := 7) (lv' := [(3, .int (nI i)), (1, .long (kb (wb (WX μ w q)) i)), (0, .ref 9)]) (st' := [.int 34, .int (nI i)]) (μ' := μ) (by rfl) ?_
      refine zq_ic hc hH (by rfl) (tg := 30) (by rfl) (fun h9 => (zb_t h9 (ge_nI (n := 34) (i := i) (by omega) (by decide))).elim) (fun _ => ?_)
      refine z_rcs hc hH 2 (pc' := 12) (lv' := [(3, .int (nI i)), (1, .long (kb (wb (WX μ w q)) i)), (0, .ref 9)]) (st' := [.int (nI i), .ref 9]) (μ' := μ) (by rfl) ?_
      refine zq_call hc (by rfl) (fx_X3_waitsFor d' (by omega) μ w q i hw h4 hq e4 h11 (by omega)) (by decide +kernel) (fun r9 μ9 hq => ?_)
      obtain ⟨hμ9, hq⟩ := hq
      rw [hμ9]
      clear hμ9 μ9
      obtain ⟨rfl, hx⟩ | ⟨rfl, hx⟩ := hq
      · show Z 0 15 [(3, .int (nI i)), (1, .long (kb (wb (WX μ w q)) i)), (0, .ref 9)] [.int 1] μ
        refine z_rcs hc hH 9 (pc' := 4) (lv' := [(3, .int ((nI i) + 1)), (1, .long ((kb (wb (WX μ w q)) i) ||| (1 <<< ((nI i).toInt64 &&& 63)))), (0, .ref 9)]) (st' := []) (μ' := μ) (by rfl) ?_
        rw [nI_1]
        rw [ek, if_pos (wb_t hx)] at q9
        exact q9
      · show Z 0 15 [(3, .int (nI i)), (1, .long (kb (wb (WX μ w q)) i)), (0, .ref 9)] [.int 0] μ
        refine z_rcs hc hH 3 (pc' := 4) (lv' := [(3, .int ((nI i) + 1)), (1, .long (kb (wb (WX μ w q)) i)), (0, .ref 9)]) (st' := []) (μ' := μ) (by rfl) ?_
        rw [nI_1]
        rw [ek, if_neg (by rw [wb_f hx]; decide)] at q9
        exact q9
  refine z_rcs hc hH 4 (pc' := 4) (lv' := [(3, .int 0), (1, .long 0), (0, .ref 9)]) (st' := []) (μ' := μ) (by rfl) ?_
  exact lp 34 0 rfl
theorem fx_X6_deskWaits (d : Nat) (hd : 8 ≤ d) (μ : zM) (w : Nat → Nat) (q : Nat) (hw : RW μ 10 w) (h4 : ∀ k, k < 34 → w k ≤ 4) (hq : q ≤ 4) (e4 : μ.1 9 4 = nI q) (h11 : q = 0 → RW μ 11 w) : z_C d mi_X6_deskWaits [.ref 0] μ (zR μ (.long (kb (wb (WX μ w q)) 34))) := by
  refine z_C_in (by decide) (by omega) (fun d' Z ed hc hr => ?_)
  have hH := zh_X6_deskWaits
  have hH := zh_X6_deskWaits
  refine z_rcs hc hH 2 (pc' := 4) (lv' := [(0, .ref 0)]) (st' := [.ref 9]) (μ' := μ) (by rfl) ?_
  refine zq_call hc (by rfl) (fx_X3_waiting d' (by omega) μ w q hw h4 hq e4 h11) (by decide +kernel) (fun r9 μ9 hq => ?_)
  obtain ⟨hμ9, rfl⟩ := hq
  rw [hμ9]
  clear hμ9 μ9
  show Z 0 7 [(0, .ref 0)] [.long (kb (wb (WX μ w q)) 34)] μ
  exact hr 0 7 _ _ _ (some (.long (kb (wb (WX μ w q)) 34))) (by decide +kernel) (by rfl) (⟨rfl, rfl⟩)

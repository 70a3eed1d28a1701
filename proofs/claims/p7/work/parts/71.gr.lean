/-! run -/
/-- the tiles of a RUN from l but c change by x: the first i of them -/
def GVr (μ0 μ1 : zM) (a l c : Nat) (x : Int32) (i : Nat) : Prop := (∀ j, μ1.1 60 j = if 34 * a + l ≤ j ∧ j < 34 * a + l + i ∧ j ≠ 34 * a + c then μ0.1 60 j + x else μ0.1 60 j) ∧ (∀ r j, r ≠ 60 → μ1.1 r j = μ0.1 r j) ∧ μ1.2 = μ0.2 ∧ a_H μ1
theorem GVr_rf {μ : zM} {a l c : Nat} {x : Int32} (h : a_H μ) : GVr μ μ a l c x 0 := ⟨fun j => by rw [if_neg (by omega)], fun _ _ _ => rfl, rfl, h⟩
theorem GVr.skip {μ0 μ1 : zM} {a l c i : Nat} {x : Int32} (h : GVr μ0 μ1 a l c x i) (e : l + i = c) : GVr μ0 μ1 a l c x (i + 1) := by
  refine ⟨fun j => ?_, h.2⟩
  rw [h.1]
  by_cases q : 34 * a + l ≤ j ∧ j < 34 * a + l + i ∧ j ≠ 34 * a + c
  · rw [if_pos q, if_pos (by omega)]
  · rw [if_neg q, if_neg (by omega)]
theorem GVr.step {μ0 μ1 : zM} {a l c i : Nat} {x : Int32} (h : GVr μ0 μ1 a l c x i) (e : l + i ≠ c) : GVr μ0 (z_giv μ1 a (l + i) x) a l c x (i + 1) := by
  refine ⟨fun j => ?_, fun r j hr => by rw [giv_ne _ _ _ _ hr, h.2.1 r j hr], by rw [giv_2]; exact h.2.2.1, a_H_ui h.2.2.2 (bI_top _)⟩
  rw [giv_60, h.1]
  by_cases q : j = 34 * a + (l + i)
  · rw [if_pos q, if_neg (by omega), if_pos (by omega)]
  · rw [if_neg q]
    by_cases q2 : 34 * a + l ≤ j ∧ j < 34 * a + l + i ∧ j ≠ 34 * a + c
    · rw [if_pos q2, if_pos (by omega)]
    · rw [if_neg q2, if_neg (by omega)]
theorem GVr.back {μ μ1 μ2 : zM} {a l c i : Nat} (h : GVr μ μ1 a l c (-1) i) (h2 : GVr μ1 μ2 a l c 1 i) : μ2 = μ := by
  refine Prod.ext (funext fun r => funext fun j => ?_) (h2.2.2.1.trans h.2.2.1)
  by_cases hr : r = 60
  · subst hr
    rw [h2.1, h.1]
    by_cases q2 : 34 * a + l ≤ j ∧ j < 34 * a + l + i ∧ j ≠ 34 * a + c
    · rw [if_pos q2, if_pos q2, Int32.add_assoc, i_11, Int32.add_zero]
    · rw [if_neg q2, if_neg q2]
  · rw [h2.2.1 r j hr, h.2.1 r j hr]
theorem GVr.fz {μ μ1 : zM} {a l c i : Nat} {x : Int32} (h : GVr μ μ1 a l c x i) : a_Fz [(60, 9999)] μ μ1 := by
  refine ⟨fun r k hm => ⟨h.2.1 r k (fun e => ?_), by rw [h.2.2.1]⟩, fun r _ => by rw [h.2.2.1]⟩
  rw [a_mda_md (r := r) (by rw [e]; decide) k] at hm
  exact absurd hm (by decide)
theorem nI_l3 (l : Nat) : nI l + 3 = nI (l + 3) := by rw [show (3 : Int32) = nI 3 from rfl, nI_add]
theorem GH_run {μ9 : zM} {a l c q : Nat} (h : GH μ9 (fun _ => 13)) (hH : a_H μ9) (ha : a < 4) (hl : l + 2 < 34) (h1 : l ≤ c) (h2 : c ≤ l + 2) (hq4 : q ≤ 4) (eq : μ9.1 64 a = nI q) (nz : ∀ t, t < 3 → l + t ≠ c → ¬ μ9.1 60 (34 * a + (l + t)) = 0) : q < 4 ∧ ∀ μ' : zM, (∀ j, μ'.1 60 j = if 34 * a + l ≤ j ∧ j < 34 * a + l + 3 ∧ j ≠ 34 * a + c then μ9.1 60 j + (-1) else μ9.1 60 j) → (∀ i, μ'.1 64 i = if i = a then nI (q + 1) else μ9.1 64 i) → GH μ' (fun s => if s = a then 14 else 13) := by
  obtain ⟨k1, k2, g1, g2, g3, g4, g5, g6⟩ : ∃ k1 k2, l ≤ k1 ∧ k1 < k2 ∧ k2 ≤ l + 2 ∧ k1 ≠ c ∧ k2 ≠ c ∧ ∀ i, l ≤ i → i ≤ l + 2 → i ≠ c → i = k1 ∨ i = k2 := by
    rcases (show c = l ∨ c = l + 1 ∨ c = l + 2 by omega) with rfl | rfl | rfl
    · exact ⟨c + 1, c + 2, by omega, by omega, by omega, by omega, by omega, by omega⟩
    · exact ⟨l, l + 2, by omega, by omega, by omega, by omega, by omega, by omega⟩
    · exact ⟨l, l + 1, by omega, by omega, by omega, by omega, by omega, by omega⟩
  have pos : ∀ k, l ≤ k → k ≤ l + 2 → k ≠ c → 1 ≤ hI μ9 (34 * a + k) := fun k u1 u2 u3 => by
    have z := nz (k - l) (by omega) (by omega)
    rw [show l + (k - l) = k by omega] at z
    have z0 := h.1 (34 * a + k) (by omega)
    have z1 : hI μ9 (34 * a + k) ≠ 0 := fun q9 => z (Int32.toInt_inj.mp q9)
    omega
  have p1 := pos k1 g1 (by omega) g4
  have p2 := pos k2 (by omega) g3 g5
  have hr := HR_of (μ' := z_giv μ9 a k1 (-1)) h (fun _ _ => by decide) (fun s _ => mI_nn hH s) ha (c := k1) (by omega) (n := -1) (by decide) (giv_60 μ9 a k1 (-1))
  have hr : HR μ9 (z_giv μ9 a k1 (-1)) a k1 (-1) := hr
  have e64 : ∀ s, (z_giv μ9 a k1 (-1)).1 64 s = μ9.1 64 s := fun s => giv_ne _ _ _ _ (by decide) s
  have em : ∀ s, mI (z_giv μ9 a k1 (-1)) s = mI μ9 s := fun s => by unfold mI; rw [e64]
  have n1 := h.2 a ha
  have gh : GH (z_giv μ9 a k1 (-1)) (fun s => if s = a then 12 else 13) := h.upd hr ha (by omega) (by omega) (fun s _ _ => em s) (by rw [em, if_pos rfl]; have n1 : hs μ9 a + 3 * mI μ9 a ≤ 13 := n1; omega) (fun s _ hs => by rw [if_neg hs]; exact Int.le_refl _)
  have hHa : a_H (z_giv μ9 a k1 (-1)) := a_H_ui hH (bI_top _)
  have u60 := giv_60 μ9 a k1 (-1)
  have p3 : 1 ≤ hI (z_giv μ9 a k1 (-1)) (34 * a + k2) := by rw [hr.2 _ (by omega)]; exact p2
  generalize z_giv μ9 a k1 (-1) = μa at hr e64 em gh hHa u60 p3
  have l1 := gh.le ha (c := k2) (by omega)
  have l2 : hs μa a + 3 * mI μa a ≤ (if a = a then 12 else 13) := gh.2 a ha
  rw [if_pos rfl] at l2
  have tq := nI_toInt (n := q) (by omega)
  have l5 : mI μa a = q := by unfold mI; rw [e64, eq, tq]
  have hq : q < 4 := by omega
  refine ⟨hq, fun μ' r60 r64 => ?_⟩
  refine GH_lay4 (μ := μa) (c := k2) (n := -1) gh (fun s _ => by split <;> decide) hHa ha (by omega) hq ((e64 a).trans eq) (by decide) (by show 0 ≤ hI μa (34 * a + k2) + -1; omega) (by rw [if_pos rfl]; decide) (fun s _ hs => by rw [if_neg hs]; exact Int.le_refl _) (fun j => ?_) (fun i => by rw [r64, e64])
  rw [r60, u60]
  by_cases q1 : j = 34 * a + k1
  · rw [if_pos q1, if_pos (by omega), if_neg (by omega)]
  · rw [if_neg q1]
    by_cases q2 : j = 34 * a + k2
    · rw [if_pos q2, if_pos (by omega)]
    · rw [if_neg q2, if_neg (fun z => ?_)]
      have := g6 (j - 34 * a) (by omega) (by omega) (by omega)
      omega
theorem zh_X7_run : zH mi_X7_run zt_X7_run 79 7 5 := hh_X7_run
theorem rn54 (d' : Nat) (Z : zK) (hd : 703 ≤ d') (μ : zM) (hc : z_clo z_x0 mi_X7_run (z_C d') Z) (hr : z_ret mi_X7_run (zPG μ) Z) (a l cc : Nat) (ha4 : a < 4) (hl : l + 2 < 34) (hlc : l ≤ cc) (hcl : cc ≤ l + 2) (μ0 : zM) (h0 : GI μ0) (f0 : a_Fz md_G μ μ0) (ec : μ0.1 50 49 = nI cc) (K : (∀ t, t < 3 → l + t ≠ cc → ¬ μ0.1 60 (34 * a + (l + t)) = 0) → Z 0 86 [(3, .int (nI (l + 3))), (0, .ref 50), (1, .int (nI a)), (2, .int (nI l))] [] μ0) : ∀ n i, i + n = 3 → (∀ t, t < i → l + t ≠ cc → ¬ μ0.1 60 (34 * a + (l + t)) = 0) → Z 0 54 [(3, .int (nI (l + i))), (0, .ref 50), (1, .int (nI a)), (2, .int (nI l))] [] μ0 := by
  have hH := zh_X7_run
  intro n
  induction n with
  | zero =>
    intro i hi hf
    have hi : i = 3 := by omega
    subst hi
    refine z_rcs hc hH 4 (pc' := 58) (lv' := [(3, .int (nI (l + 3))), (0, .ref 50), (1, .int (nI a)), (2, .int (nI l))]) (st' := [.int ((nI l) + 3), .int (nI (l + 3))]) (μ' := μ0) (by rfl) ?_
    refine zq_ic hc hH (by rfl) (tg := 86) (by rfl) (fun _ => ?_) (fun h9 => (zb_t (by rw [nI_l3]; exact ge_nIt (Nat.le_refl _) (by omega)) h9).elim)
    exact K hf
  | succ n ih =>
    intro i hi hf
    refine z_rcs hc hH 4 (pc' := 58) (lv' := [(3, .int (nI (l + i))), (0, .ref 50), (1, .int (nI a)), (2, .int (nI l))]) (st' := [.int ((nI l) + 3), .int (nI (l + i))]) (μ' := μ0) (by rfl) ?_
    refine zq_ic hc hH (by rfl) (tg := 86) (by rfl) (fun h9 => (zb_t h9 (by rw [nI_l3]; exact ge_nI (by omega) (by omega))).elim) (fun _ => ?_)
    refine z_rcs hc hH 3 (pc' := 66) (lv' := [(3, .int (nI (l + i))), (0, .ref 50), (1, .int (nI a)), (2, .int (nI l))]) (st' := [.int (μ0.1 50 49), .int (nI (l + i))]) (μ' := μ0) (by rfl) ?_
    refine zq_ic hc hH (by rfl) (tg := 80) (by rfl) (fun h1 => ?_) (fun h1 => ?_)
    · have h1 := cm_eq9.mp h1
      refine z_rcs hc hH 2 (pc' := 54) (lv' := [(3, .int ((nI (l + i)) + 1)), (0, .ref 50), (1, .int (nI a)), (2, .int (nI l))]) (st' := []) (μ' := μ0) (by rfl) ?_
      rw [nI_1, Nat.add_assoc]
      exact ih (i + 1) (by omega) (fun t ht hne => if e : t = i then absurd ((nI_eq (by omega) (by omega)).mp (h1.trans ec)) (e ▸ hne) else hf t (by omega) hne)
    · have h1 := cn_eq.mp h1
      refine z_rcs hc hH 3 (pc' := 72) (lv' := [(3, .int (nI (l + i))), (0, .ref 50), (1, .int (nI a)), (2, .int (nI l))]) (st' := [.int (nI (l + i)), .int (nI a), .ref 50]) (μ' := μ0) (by rfl) ?_
      refine zq_call hc (z_cx_ok hH (by rfl)) (fc_X7_has_ d' (by omega) μ0 a (l + i) ha4 (by omega)) (by decide +kernel) (fun r9 μ9 hq => ?_)
      obtain ⟨hμ9, rfl⟩ := hq
      rw [hμ9]
      clear hμ9 μ9
      show Z 0 75 [(3, .int (nI (l + i))), (0, .ref 50), (1, .int (nI a)), (2, .int (nI l))] [.int (μ0.1 60 (34 * a + (l + i)))] μ0
      refine zq_if hc hH (by rfl) (tg := 80) (by rfl) (fun h2 => ?_) (fun h2 => ?_)
      · have h2 := cm_ne.mp h2
        refine z_rcs hc hH 2 (pc' := 54) (lv' := [(3, .int ((nI (l + i)) + 1)), (0, .ref 50), (1, .int (nI a)), (2, .int (nI l))]) (st' := []) (μ' := μ0) (by rfl) ?_
        rw [nI_1, Nat.add_assoc]
        exact ih (i + 1) (by omega) (fun t ht hne => if e : t = i then (by rw [e]; exact h2) else hf t (by omega) hne)
      · have h2 := cn_ne.mp h2
        refine z_rcs hc hH 1 (pc' := 79) (lv' := [(3, .int (nI (l + i))), (0, .ref 50), (1, .int (nI a)), (2, .int (nI l))]) (st' := [.int 0]) (μ' := μ0) (by rfl) ?_
        exact hr 0 79 _ _ _ (some (.int 0)) (by decide +kernel) (z_rx_ok hH (by rfl)) (⟨⟨0, rfl⟩, h0, f0⟩)
theorem rn147 (d' : Nat) (Z : zK) (hd : 703 ≤ d') (μ : zM) (hc : z_clo z_x0 mi_X7_run (z_C d') Z) (hr : z_ret mi_X7_run (zPG μ) Z) (a l cc : Nat) (ha4 : a < 4) (hl : l + 2 < 34) (hlc : l ≤ cc) (hcl : cc ≤ l + 2) (μ0 : zM) (ec : μ0.1 50 49 = nI cc) (K : ∀ μ1, GVr μ0 μ1 a l cc (-1) 3 → Z 0 175 [(3, .int (nI (l + 3))), (0, .ref 50), (1, .int (nI a)), (2, .int (nI l))] [] μ1) : ∀ n i, i + n = 3 → ∀ μ1, GVr μ0 μ1 a l cc (-1) i → Z 0 147 [(3, .int (nI (l + i))), (0, .ref 50), (1, .int (nI a)), (2, .int (nI l))] [] μ1 := by
  have hH := zh_X7_run
  intro n
  induction n with
  | zero =>
    intro i hi μ1 g1
    have hi : i = 3 := by omega
    subst hi
    refine z_rcs hc hH 4 (pc' := 151) (lv' := [(3, .int (nI (l + 3))), (0, .ref 50), (1, .int (nI a)), (2, .int (nI l))]) (st' := [.int ((nI l) + 3), .int (nI (l + 3))]) (μ' := μ1) (by rfl) ?_
    refine zq_ic hc hH (by rfl) (tg := 175) (by rfl) (fun _ => ?_) (fun h9 => (zb_t (by rw [nI_l3]; exact ge_nIt (Nat.le_refl _) (by omega)) h9).elim)
    exact K μ1 g1
  | succ n ih =>
    intro i hi μ1 g1
    have ec1 : μ1.1 50 49 = nI cc := (g1.2.1 50 49 (by decide)).trans ec
    refine z_rcs hc hH 4 (pc' := 151) (lv' := [(3, .int (nI (l + i))), (0, .ref 50), (1, .int (nI a)), (2, .int (nI l))]) (st' := [.int ((nI l) + 3), .int (nI (l + i))]) (μ' := μ1) (by rfl) ?_
    refine zq_ic hc hH (by rfl) (tg := 175) (by rfl) (fun h9 => (zb_t h9 (by rw [nI_l3]; exact ge_nI (by omega) (by omega))).elim) (fun _ => ?_)
    refine z_rcs hc hH 3 (pc' := 159) (lv' := [(3, .int (nI (l + i))), (0, .ref 50), (1, .int (nI a)), (2, .int (nI l))]) (st' := [.int (μ1.1 50 49), .int (nI (l + i))]) (μ' := μ1) (by rfl) ?_
    refine zq_ic hc hH (by rfl) (tg := 169) (by rfl) (fun h1 => ?_) (fun h1 => ?_)
    · have h1 := cm_eq9.mp h1
      refine z_rcs hc hH 2 (pc' := 147) (lv' := [(3, .int ((nI (l + i)) + 1)), (0, .ref 50), (1, .int (nI a)), (2, .int (nI l))]) (st' := []) (μ' := μ1) (by rfl) ?_
      rw [nI_1, Nat.add_assoc]
      exact ih (i + 1) (by omega) μ1 (g1.skip ((nI_eq (by omega) (by omega)).mp (h1.trans ec1)))
    · have h1 := cn_eq.mp h1
      refine z_rcs hc hH 4 (pc' := 166) (lv' := [(3, .int (nI (l + i))), (0, .ref 50), (1, .int (nI a)), (2, .int (nI l))]) (st' := [.int (-1), .int (nI (l + i)), .int (nI a), .ref 50]) (μ' := μ1) (by rfl) ?_
      refine zq_call hc (z_cx_ok hH (by rfl)) (fc_X7_gives d' (by omega) μ1 a (l + i) (-1) ha4 (by omega)) (by decide +kernel) (fun r8 μ8 hq => ?_)
      obtain ⟨rfl, rfl⟩ := hq
      have g2 := g1.step (fun e => h1 (by rw [ec1, e]))
      generalize z_giv μ1 a (l + i) (-1) = μ2 at g2 ⊢
      show Z 0 169 [(3, .int (nI (l + i))), (0, .ref 50), (1, .int (nI a)), (2, .int (nI l))] [] μ2
      refine z_rcs hc hH 2 (pc' := 147) (lv' := [(3, .int ((nI (l + i)) + 1)), (0, .ref 50), (1, .int (nI a)), (2, .int (nI l))]) (st' := []) (μ' := μ2) (by rfl) ?_
      rw [nI_1, Nat.add_assoc]
      exact ih (i + 1) (by omega) μ2 g2
theorem rn184 (d' : Nat) (Z : zK) (hd : 703 ≤ d') (μ : zM) (hc : z_clo z_x0 mi_X7_run (z_C d') Z) (hr : z_ret mi_X7_run (zPG μ) Z) (a l cc : Nat) (ha4 : a < 4) (hl : l + 2 < 34) (hlc : l ≤ cc) (hcl : cc ≤ l + 2) (x9 : Int32) (μ0 : zM) (ec : μ0.1 50 49 = nI cc) (K : ∀ μ1, GVr μ0 μ1 a l cc (1) 3 → Z 0 215 [(4, .int (nI (l + 3))), (3, .int x9), (0, .ref 50), (1, .int (nI a)), (2, .int (nI l))] [] μ1) : ∀ n i, i + n = 3 → ∀ μ1, GVr μ0 μ1 a l cc (1) i → Z 0 184 [(4, .int (nI (l + i))), (3, .int x9), (0, .ref 50), (1, .int (nI a)), (2, .int (nI l))] [] μ1 := by
  have hH := zh_X7_run
  intro n
  induction n with
  | zero =>
    intro i hi μ1 g1
    have hi : i = 3 := by omega
    subst hi
    refine z_rcs hc hH 4 (pc' := 189) (lv' := [(4, .int (nI (l + 3))), (3, .int x9), (0, .ref 50), (1, .int (nI a)), (2, .int (nI l))]) (st' := [.int ((nI l) + 3), .int (nI (l + 3))]) (μ' := μ1) (by rfl) ?_
    refine zq_ic hc hH (by rfl) (tg := 215) (by rfl) (fun _ => ?_) (fun h9 => (zb_t (by rw [nI_l3]; exact ge_nIt (Nat.le_refl _) (by omega)) h9).elim)
    exact K μ1 g1
  | succ n ih =>
    intro i hi μ1 g1
    have ec1 : μ1.1 50 49 = nI cc := (g1.2.1 50 49 (by decide)).trans ec
    refine z_rcs hc hH 4 (pc' := 189) (lv' := [(4, .int (nI (l + i))), (3, .int x9), (0, .ref 50), (1, .int (nI a)), (2, .int (nI l))]) (st' := [.int ((nI l) + 3), .int (nI (l + i))]) (μ' := μ1) (by rfl) ?_
    refine zq_ic hc hH (by rfl) (tg := 215) (by rfl) (fun h9 => (zb_t h9 (by rw [nI_l3]; exact ge_nI (by omega) (by omega))).elim) (fun _ => ?_)
    refine z_rcs hc hH 3 (pc' := 198) (lv' := [(4, .int (nI (l + i))), (3, .int x9), (0, .ref 50), (1, .int (nI a)), (2, .int (nI l))]) (st' := [.int (μ1.1 50 49), .int (nI (l + i))]) (μ' := μ1) (by rfl) ?_
    refine zq_ic hc hH (by rfl) (tg := 209) (by rfl) (fun h1 => ?_) (fun h1 => ?_)
    · have h1 := cm_eq9.mp h1
      refine z_rcs hc hH 2 (pc' := 184) (lv' := [(4, .int ((nI (l + i)) + 1)), (3, .int x9), (0, .ref 50), (1, .int (nI a)), (2, .int (nI l))]) (st' := []) (μ' := μ1) (by rfl) ?_
      rw [nI_1, Nat.add_assoc]
      exact ih (i + 1) (by omega) μ1 (g1.skip ((nI_eq (by omega) (by omega)).mp (h1.trans ec1)))
    · have h1 := cn_eq.mp h1
      refine z_rcs hc hH 4 (pc' := 206) (lv' := [(4, .int (nI (l + i))), (3, .int x9), (0, .ref 50), (1, .int (nI a)), (2, .int (nI l))]) (st' := [.int 1, .int (nI (l + i)), .int (nI a), .ref 50]) (μ' := μ1) (by rfl) ?_
      refine zq_call hc (z_cx_ok hH (by rfl)) (fc_X7_gives d' (by omega) μ1 a (l + i) (1) ha4 (by omega)) (by decide +kernel) (fun r8 μ8 hq => ?_)
      obtain ⟨rfl, rfl⟩ := hq
      have g2 := g1.step (fun e => h1 (by rw [ec1, e]))
      generalize z_giv μ1 a (l + i) (1) = μ2 at g2 ⊢
      show Z 0 209 [(4, .int (nI (l + i))), (3, .int x9), (0, .ref 50), (1, .int (nI a)), (2, .int (nI l))] [] μ2
      refine z_rcs hc hH 2 (pc' := 184) (lv' := [(4, .int ((nI (l + i)) + 1)), (3, .int x9), (0, .ref 50), (1, .int (nI a)), (2, .int (nI l))]) (st' := []) (μ' := μ2) (by rfl) ?_
      rw [nI_1, Nat.add_assoc]
      exact ih (i + 1) (by omega) μ2 g2
theorem rn228 (d' : Nat) (Z : zK) (hd : 703 ≤ d') (μ : zM) (hc : z_clo z_x0 mi_X7_run (z_C d') Z) (hr : z_ret mi_X7_run (zPG μ) Z) (a l cc : Nat) (ha4 : a < 4) (hl : l + 2 < 34) (hlc : l ≤ cc) (hcl : cc ≤ l + 2) (x9 : Int32) (μ0 : zM) (ec : μ0.1 50 49 = nI cc) (K : ∀ μ1, GVr μ0 μ1 a l cc (-1) 3 → Z 0 259 [(4, .int (nI (l + 3))), (3, .int x9), (0, .ref 50), (1, .int (nI a)), (2, .int (nI l))] [] μ1) : ∀ n i, i + n = 3 → ∀ μ1, GVr μ0 μ1 a l cc (-1) i → Z 0 228 [(4, .int (nI (l + i))), (3, .int x9), (0, .ref 50), (1, .int (nI a)), (2, .int (nI l))] [] μ1 := by
  have hH := zh_X7_run
  intro n
  induction n with
  | zero =>
    intro i hi μ1 g1
    have hi : i = 3 := by omega
    subst hi
    refine z_rcs hc hH 4 (pc' := 233) (lv' := [(4, .int (nI (l + 3))), (3, .int x9), (0, .ref 50), (1, .int (nI a)), (2, .int (nI l))]) (st' := [.int ((nI l) + 3), .int (nI (l + 3))]) (μ' := μ1) (by rfl) ?_
    refine zq_ic hc hH (by rfl) (tg := 259) (by rfl) (fun _ => ?_) (fun h9 => (zb_t (by rw [nI_l3]; exact ge_nIt (Nat.le_refl _) (by omega)) h9).elim)
    exact K μ1 g1
  | succ n ih =>
    intro i hi μ1 g1
    have ec1 : μ1.1 50 49 = nI cc := (g1.2.1 50 49 (by decide)).trans ec
    refine z_rcs hc hH 4 (pc' := 233) (lv' := [(4, .int (nI (l + i))), (3, .int x9), (0, .ref 50), (1, .int (nI a)), (2, .int (nI l))]) (st' := [.int ((nI l) + 3), .int (nI (l + i))]) (μ' := μ1) (by rfl) ?_
    refine zq_ic hc hH (by rfl) (tg := 259) (by rfl) (fun h9 => (zb_t h9 (by rw [nI_l3]; exact ge_nI (by omega) (by omega))).elim) (fun _ => ?_)
    refine z_rcs hc hH 3 (pc' := 242) (lv' := [(4, .int (nI (l + i))), (3, .int x9), (0, .ref 50), (1, .int (nI a)), (2, .int (nI l))]) (st' := [.int (μ1.1 50 49), .int (nI (l + i))]) (μ' := μ1) (by rfl) ?_
    refine zq_ic hc hH (by rfl) (tg := 253) (by rfl) (fun h1 => ?_) (fun h1 => ?_)
    · have h1 := cm_eq9.mp h1
      refine z_rcs hc hH 2 (pc' := 228) (lv' := [(4, .int ((nI (l + i)) + 1)), (3, .int x9), (0, .ref 50), (1, .int (nI a)), (2, .int (nI l))]) (st' := []) (μ' := μ1) (by rfl) ?_
      rw [nI_1, Nat.add_assoc]
      exact ih (i + 1) (by omega) μ1 (g1.skip ((nI_eq (by omega) (by omega)).mp (h1.trans ec1)))
    · have h1 := cn_eq.mp h1
      refine z_rcs hc hH 4 (pc' := 250) (lv' := [(4, .int (nI (l + i))), (3, .int x9), (0, .ref 50), (1, .int (nI a)), (2, .int (nI l))]) (st' := [.int (-1), .int (nI (l + i)), .int (nI a), .ref 50]) (μ' := μ1) (by rfl) ?_
      refine zq_call hc (z_cx_ok hH (by rfl)) (fc_X7_gives d' (by omega) μ1 a (l + i) (-1) ha4 (by omega)) (by decide +kernel) (fun r8 μ8 hq => ?_)
      obtain ⟨rfl, rfl⟩ := hq
      have g2 := g1.step (fun e => h1 (by rw [ec1, e]))
      generalize z_giv μ1 a (l + i) (-1) = μ2 at g2 ⊢
      show Z 0 253 [(4, .int (nI (l + i))), (3, .int x9), (0, .ref 50), (1, .int (nI a)), (2, .int (nI l))] [] μ2
      refine z_rcs hc hH 2 (pc' := 228) (lv' := [(4, .int ((nI (l + i)) + 1)), (3, .int x9), (0, .ref 50), (1, .int (nI a)), (2, .int (nI l))]) (st' := []) (μ' := μ2) (by rfl) ?_
      rw [nI_1, Nat.add_assoc]
      exact ih (i + 1) (by omega) μ2 g2
set_option maxRecDepth 2000 in
theorem rn142 (d' : Nat) (Z : zK) (hd : 703 ≤ d') (μ : zM) (hc : z_clo z_x0 mi_X7_run (z_C d') Z) (hr : z_ret mi_X7_run (zPG μ) Z) (a l cc : Nat) (ha4 : a < 4) (hl : l + 2 < 34) (hlc : l ≤ cc) (hcl : cc ≤ l + 2) (μ1 : zM) (h0 : GI μ1) (f0 : a_Fz md_G μ μ1) (ec : μ1.1 50 49 = nI cc) (y1 : μ1.1 50 44 = 2) (nz : ∀ t, t < 3 → l + t ≠ cc → ¬ μ1.1 60 (34 * a + (l + t)) = 0) (v : Int32) : Z 0 142 [(3, .int (nI (l + 3))), (0, .ref 50), (1, .int (nI a)), (2, .int (nI l))] [.int v, .ref 50] μ1 := by
  have hH := zh_X7_run
  refine z_rcs hc hH 1 (pc' := 145) (lv' := [(3, .int (nI (l + 3))), (0, .ref 50), (1, .int (nI a)), (2, .int (nI l))]) (st' := []) (μ' := z_ui μ1 50 51 v) (by rfl) ?_
  have hN : GI (z_ui μ1 50 51 v) := ⟨a_H_ui h0.1 (bI_top _), GW_ne h0.2.1 (by decide), fun q => (h0.2.2 q).keep (md := [(50, 51)]) (a_Fz_ui (a_Fz_rf _ _) (by decide)) (by decide)⟩
  have fN : a_Fz md_G μ (z_ui μ1 50 51 v) := a_Fz_ui f0 (by decide)
  have cN : (z_ui μ1 50 51 v).1 50 49 = nI cc := by rw [z_ui_rd, if_neg (by omega)]; exact ec
  have yN : (z_ui μ1 50 51 v).1 50 44 = 2 := by rw [z_ui_rd, if_neg (by omega)]; exact y1
  have zN : ∀ t, t < 3 → l + t ≠ cc → ¬ (z_ui μ1 50 51 v).1 60 (34 * a + (l + t)) = 0 := fun t ht hne => by rw [z_ui_rd, if_neg (by omega)]; exact nz t ht hne
  generalize z_ui μ1 50 51 v = μn at hN fN cN yN zN ⊢
  refine z_rcs hc hH 2 (pc' := 147) (lv' := [(3, .int (nI l)), (0, .ref 50), (1, .int (nI a)), (2, .int (nI l))]) (st' := []) (μ' := μn) (by rfl) ?_
  have q : Z 0 147 [(3, .int (nI (l + 0))), (0, .ref 50), (1, .int (nI a)), (2, .int (nI l))] [] μn := by
    refine rn147 d' Z hd μ hc hr a l cc ha4 hl hlc hcl μn cN (fun μm gm => ?_) 3 0 (by omega) μn (GVr_rf hN.1)
    refine z_rcs hc hH 2 (pc' := 177) (lv' := [(3, .int (nI (l + 3))), (0, .ref 50), (1, .int (nI a)), (2, .int (nI l))]) (st' := [.int (nI a), .ref 50]) (μ' := μm) (by rfl) ?_
    refine zq_call hc (z_cx_ok hH (by rfl)) (bs_X7_canDiscard (by omega) [.ref 50, .int (nI a)] _ (aArg_pre ⟨⟨50, by decide, rfl⟩, ⟨_, rfl, (show bI 0 3 _ from bd_nI (by omega) ⟨by omega, by omega⟩)⟩, trivial⟩ rfl) gm.2.2.2) (by decide +kernel) (fun r8 μ8 hq => ?_)
    obtain ⟨-, hz, hr9⟩ := hq
    obtain ⟨v9, rfl, x9, rfl, -⟩ := hr9
    rw [a_Fz_nil hz]
    clear hz μ8
    show Z 0 180 [(3, .int (nI (l + 3))), (0, .ref 50), (1, .int (nI a)), (2, .int (nI l))] [.int x9] μm
    refine z_rcs hc hH 3 (pc' := 184) (lv' := [(4, .int (nI l)), (3, .int x9), (0, .ref 50), (1, .int (nI a)), (2, .int (nI l))]) (st' := []) (μ' := μm) (by rfl) ?_
    have q : Z 0 184 [(4, .int (nI (l + 0))), (3, .int x9), (0, .ref 50), (1, .int (nI a)), (2, .int (nI l))] [] μm := by
      refine rn184 d' Z hd μ hc hr a l cc ha4 hl hlc hcl x9 μm ((gm.2.1 50 49 (by decide)).trans cN) (fun μb gb => ?_) 3 0 (by omega) μm (GVr_rf gm.2.2.2)
      have eb := gm.back gb
      rw [eb]
      clear eb
      refine z_rcs hc hH 1 (pc' := 216) (lv' := [(4, .int (nI (l + 3))), (3, .int x9), (0, .ref 50), (1, .int (nI a)), (2, .int (nI l))]) (st' := [.int x9]) (μ' := μn) (by rfl) ?_
      refine zq_if hc hH (by rfl) (tg := 221) (by rfl) (fun h1 => ?_) (fun h1 => ?_)
      · have h1 := cm_ne.mp h1
        refine z_rcs hc hH 1 (pc' := 222) (lv' := [(4, .int (nI (l + 3))), (3, .int x9), (0, .ref 50), (1, .int (nI a)), (2, .int (nI l))]) (st' := [.ref 50]) (μ' := μn) (by rfl) ?_
        refine zq_call hc (z_cx_ok hH (by rfl)) (a_use (i := 122) (K := ak_122) rfl (by omega) [.ref 50] _ (aArg_pre ⟨⟨50, by decide, rfl⟩, trivial⟩ rfl) hN.1) (by decide +kernel) (fun r9 μ9 hq => ?_)
        obtain ⟨hB1, q3, rfl⟩ := hq
        have hB2 := GW_keep hN.2.1 q3 (by decide)
        have hP9 := (hN.2.2 (by rw [yN]; decide)).keep q3 (by decide)
        have fB : a_Fz md_G μ μ9 := a_Fz_tr (by decide) fN q3
        have e44 : ¬ μ9.1 50 44 = 1 := by rw [a_Fz_at q3 50 44 (by decide), yN]; decide
        have e49 : μ9.1 50 49 = nI cc := by rw [a_Fz_at q3 50 49 (by decide)]; exact cN
        have z9 : ∀ t, t < 3 → l + t ≠ cc → ¬ μ9.1 60 (34 * a + (l + t)) = 0 := fun t ht hne => by rw [a_Fz_at q3 60 _ (a_md_row (by decide))]; exact zN t ht hne
        have hfl := hP9.flat e44
        obtain ⟨q, hq4, eq⟩ := sets_nI hB1 a
        obtain ⟨hq, hgh⟩ := GH_run hfl hB1 ha4 hl hlc hcl hq4 eq z9
        show Z 0 225 [(4, .int (nI (l + 3))), (3, .int x9), (0, .ref 50), (1, .int (nI a)), (2, .int (nI l))] [] μ9
        refine z_rcs hc hH 2 (pc' := 228) (lv' := [(4, .int (nI l)), (3, .int x9), (0, .ref 50), (1, .int (nI a)), (2, .int (nI l))]) (st' := []) (μ' := μ9) (by rfl) ?_
        have q : Z 0 228 [(4, .int (nI (l + 0))), (3, .int x9), (0, .ref 50), (1, .int (nI a)), (2, .int (nI l))] [] μ9 := by
          refine rn228 d' Z hd μ hc hr a l cc ha4 hl hlc hcl x9 μ9 e49 (fun μk gk => ?_) 3 0 (by omega) μ9 (GVr_rf hB1)
          refine z_rcs hc hH 4 (pc' := 263) (lv' := [(4, .int (nI (l + 3))), (3, .int x9), (0, .ref 50), (1, .int (nI a)), (2, .int (nI l))]) (st' := [.int (nI l), .int 0, .int (nI a), .ref 50]) (μ' := μk) (by rfl) ?_
          refine zq_call hc (z_cx_ok hH (by rfl)) (fc_X7_claims d' (by omega) μk a q 0 (nI l) ha4 hq ((gk.2.1 64 a (by decide)).trans eq) gk.2.2.2) (by decide +kernel) (fun r7 μ7 hq => ?_)
          obtain ⟨rfl, k1, k2, k3, k4, k5, k6, k7⟩ := hq
          have i64 : ∀ i, μ7.1 64 i = if i = a then nI (q + 1) else μ9.1 64 i := fun i => by rw [k7, gk.2.1 64 i (by decide)]
          have gh := hgh μ7 (fun j => by rw [a_Fz_at k2 60 j (a_md_row (by decide)), gk.1]) i64
          have c_ : ∀ k, (a_md md_claims 50 k = false) → μ7.1 50 k = μ9.1 50 k := fun k hk => by rw [a_Fz_at k2 50 k hk, gk.2.1 50 k (by decide)]
          have hG : GP μ7 := GP_claimed hP9 e44 gh k3 k4 k6 (c_ 46 (by decide)) (c_ 47 (by decide)) (c_ 48 (by decide)) (fun j => by rw [a_Fz_at k2 66 j (a_md_row (by decide)), gk.2.1 66 j (by decide)]) (sM_lay ha4 hq eq i64)
          have fk := gk.fz
          have hE : zPG μ (some (.int 1)) μ7 := ⟨⟨1, rfl⟩, ⟨k1, GW_keep (GW_keep hB2 fk (by decide)) k2 (by decide), fun _ => hG⟩, a_Fz_tr (by decide) (a_Fz_tr (by decide) fB fk) k2⟩
          show Z 0 266 [(4, .int (nI (l + 3))), (3, .int x9), (0, .ref 50), (1, .int (nI a)), (2, .int (nI l))] [] μ7
          refine z_rcs hc hH 1 (pc' := 267) (lv' := [(4, .int (nI (l + 3))), (3, .int x9), (0, .ref 50), (1, .int (nI a)), (2, .int (nI l))]) (st' := [.int 1]) (μ' := μ7) (by rfl) ?_
          exact hr 0 267 _ _ _ (some (.int 1)) (by decide +kernel) (by rfl) hE
        rw [Nat.add_zero] at q
        exact q
      · have h1 := cn_ne.mp h1
        refine z_rcs hc hH 1 (pc' := 220) (lv' := [(4, .int (nI (l + 3))), (3, .int x9), (0, .ref 50), (1, .int (nI a)), (2, .int (nI l))]) (st' := [.int 0]) (μ' := μn) (by rfl) ?_
        exact hr 0 220 _ _ _ (some (.int 0)) (by decide +kernel) (z_rx_ok hH (by rfl)) (⟨⟨0, rfl⟩, hN, fN⟩)
    rw [Nat.add_zero] at q
    exact q
  rw [Nat.add_zero] at q
  exact q
set_option maxRecDepth 2000 in
theorem rn86 (d' : Nat) (Z : zK) (hd : 703 ≤ d') (μ : zM) (hc : z_clo z_x0 mi_X7_run (z_C d') Z) (hr : z_ret mi_X7_run (zPG μ) Z) (a l cc : Nat) (ha4 : a < 4) (hl : l + 2 < 34) (hlc : l ≤ cc) (hcl : cc ≤ l + 2) (μ0 : zM) (h0 : GI μ0) (f0 : a_Fz md_G μ μ0) (ec : μ0.1 50 49 = nI cc) (y1 : μ0.1 50 44 = 2) (nz : ∀ t, t < 3 → l + t ≠ cc → ¬ μ0.1 60 (34 * a + (l + t)) = 0) : Z 0 86 [(3, .int (nI (l + 3))), (0, .ref 50), (1, .int (nI a)), (2, .int (nI l))] [] μ0 := by
  have hH := zh_X7_run
  refine z_rcs hc hH 3 (pc' := 91) (lv' := [(3, .int (nI (l + 3))), (0, .ref 50), (1, .int (nI a)), (2, .int (nI l))]) (st' := [.int (μ0.1 50 49), .ref 50]) (μ' := μ0) (by rfl) ?_
  rw [ec]
  refine z_rcs hc hH 1 (pc' := 94) (lv' := [(3, .int (nI (l + 3))), (0, .ref 50), (1, .int (nI a)), (2, .int (nI l))]) (st' := []) (μ' := z_ui μ0 50 50 (nI cc)) (by rfl) ?_
  have hN : GI (z_ui μ0 50 50 (nI cc)) := ⟨a_H_ui h0.1 (bI_top _), GW_ne h0.2.1 (by decide), fun q => (h0.2.2 q).keep (md := [(50, 50)]) (a_Fz_ui (a_Fz_rf _ _) (by decide)) (by decide)⟩
  have fN : a_Fz md_G μ (z_ui μ0 50 50 (nI cc)) := a_Fz_ui f0 (by decide)
  have cN : (z_ui μ0 50 50 (nI cc)).1 50 49 = nI cc := by rw [z_ui_rd, if_neg (by omega)]; exact ec
  have yN : (z_ui μ0 50 50 (nI cc)).1 50 44 = 2 := by rw [z_ui_rd, if_neg (by omega)]; exact y1
  have zN : ∀ t, t < 3 → l + t ≠ cc → ¬ (z_ui μ0 50 50 (nI cc)).1 60 (34 * a + (l + t)) = 0 := fun t ht hne => by rw [z_ui_rd, if_neg (by omega)]; exact nz t ht hne
  generalize z_ui μ0 50 50 (nI cc) = μ1 at hN fN cN yN zN ⊢
  refine z_rcs hc hH 4 (pc' := 100) (lv' := [(3, .int (nI (l + 3))), (0, .ref 50), (1, .int (nI a)), (2, .int (nI l))]) (st' := [.int (nI l), .int (μ1.1 50 49), .ref 50]) (μ' := μ1) (by rfl) ?_
  refine zq_ic hc hH (by rfl) (tg := 118) (by rfl) (fun h1 => ?_) (fun h1 => ?_)
  · have h1 := cm_ne.mp h1
    refine z_rcs hc hH 5 (pc' := 125) (lv' := [(3, .int (nI (l + 3))), (0, .ref 50), (1, .int (nI a)), (2, .int (nI l))]) (st' := [.int ((nI l) + 2), .int (μ1.1 50 49), .ref 50]) (μ' := μ1) (by rfl) ?_
    refine zq_ic hc hH (by rfl) (tg := 141) (by rfl) (fun h2 => ?_) (fun h2 => ?_)
    · have h2 := cm_ne.mp h2
      refine z_rcs hc hH 1 (pc' := 142) (lv' := [(3, .int (nI (l + 3))), (0, .ref 50), (1, .int (nI a)), (2, .int (nI l))]) (st' := [.int (-1), .ref 50]) (μ' := μ1) (by rfl) ?_
      exact rn142 d' Z hd μ hc hr a l cc ha4 hl hlc hcl μ1 hN fN cN yN zN _
    · have h2 := cn_ne.mp h2
      refine z_rcs hc hH 3 (pc' := 132) (lv' := [(3, .int (nI (l + 3))), (0, .ref 50), (1, .int (nI a)), (2, .int (nI l))]) (st' := [.int ((nI l) - (nI l) / 9 * 9), .ref 50]) (μ' := μ1) (by rfl) ?_
      refine zq_if hc hH (by rfl) (tg := 141) (by rfl) (fun h3 => ?_) (fun h3 => ?_)
      · have h3 := cm_le.mp h3
        refine z_rcs hc hH 1 (pc' := 142) (lv' := [(3, .int (nI (l + 3))), (0, .ref 50), (1, .int (nI a)), (2, .int (nI l))]) (st' := [.int (-1), .ref 50]) (μ' := μ1) (by rfl) ?_
        exact rn142 d' Z hd μ hc hr a l cc ha4 hl hlc hcl μ1 hN fN cN yN zN _
      · have h3 := cn_le.mp h3
        refine z_rcs hc hH 4 (pc' := 142) (lv' := [(3, .int (nI (l + 3))), (0, .ref 50), (1, .int (nI a)), (2, .int (nI l))]) (st' := [.int ((nI l) - 1), .ref 50]) (μ' := μ1) (by rfl) ?_
        exact rn142 d' Z hd μ hc hr a l cc ha4 hl hlc hcl μ1 hN fN cN yN zN _
  · have h1 := cn_ne.mp h1
    refine z_rcs hc hH 4 (pc' := 109) (lv' := [(3, .int (nI (l + 3))), (0, .ref 50), (1, .int (nI a)), (2, .int (nI l))]) (st' := [.int 6, .int ((nI l) - (nI l) / 9 * 9), .ref 50]) (μ' := μ1) (by rfl) ?_
    refine zq_ic hc hH (by rfl) (tg := 118) (by rfl) (fun h4 => ?_) (fun h4 => ?_)
    · have h4 := cm_ge.mp h4
      refine z_rcs hc hH 5 (pc' := 125) (lv' := [(3, .int (nI (l + 3))), (0, .ref 50), (1, .int (nI a)), (2, .int (nI l))]) (st' := [.int ((nI l) + 2), .int (μ1.1 50 49), .ref 50]) (μ' := μ1) (by rfl) ?_
      refine zq_ic hc hH (by rfl) (tg := 141) (by rfl) (fun h5 => ?_) (fun h5 => ?_)
      · have h5 := cm_ne.mp h5
        refine z_rcs hc hH 1 (pc' := 142) (lv' := [(3, .int (nI (l + 3))), (0, .ref 50), (1, .int (nI a)), (2, .int (nI l))]) (st' := [.int (-1), .ref 50]) (μ' := μ1) (by rfl) ?_
        exact rn142 d' Z hd μ hc hr a l cc ha4 hl hlc hcl μ1 hN fN cN yN zN _
      · have h5 := cn_ne.mp h5
        refine z_rcs hc hH 3 (pc' := 132) (lv' := [(3, .int (nI (l + 3))), (0, .ref 50), (1, .int (nI a)), (2, .int (nI l))]) (st' := [.int ((nI l) - (nI l) / 9 * 9), .ref 50]) (μ' := μ1) (by rfl) ?_
        refine zq_if hc hH (by rfl) (tg := 141) (by rfl) (fun h6 => ?_) (fun h6 => ?_)
        · have h6 := cm_le.mp h6
          refine z_rcs hc hH 1 (pc' := 142) (lv' := [(3, .int (nI (l + 3))), (0, .ref 50), (1, .int (nI a)), (2, .int (nI l))]) (st' := [.int (-1), .ref 50]) (μ' := μ1) (by rfl) ?_
          exact rn142 d' Z hd μ hc hr a l cc ha4 hl hlc hcl μ1 hN fN cN yN zN _
        · have h6 := cn_le.mp h6
          refine z_rcs hc hH 4 (pc' := 142) (lv' := [(3, .int (nI (l + 3))), (0, .ref 50), (1, .int (nI a)), (2, .int (nI l))]) (st' := [.int ((nI l) - 1), .ref 50]) (μ' := μ1) (by rfl) ?_
          exact rn142 d' Z hd μ hc hr a l cc ha4 hl hlc hcl μ1 hN fN cN yN zN _
    · have h4 := cn_ge.mp h4
      refine z_rcs hc hH 4 (pc' := 142) (lv' := [(3, .int (nI (l + 3))), (0, .ref 50), (1, .int (nI a)), (2, .int (nI l))]) (st' := [.int ((nI l) + 3), .ref 50]) (μ' := μ1) (by rfl) ?_
      exact rn142 d' Z hd μ hc hr a l cc ha4 hl hlc hcl μ1 hN fN cN yN zN _
set_option maxRecDepth 2000 in
theorem fc_X7_run (d : Nat) (hd : 704 ≤ d) (μ : zM) (s k : Int32) (hi : GI μ) : z_C d mi_X7_run [.ref 50, .int s, .int k] μ (zPG μ) := by
  refine z_C_in (by decide) (by omega) (fun d' Z ed hc hr => ?_)
  have hH := zh_X7_run
  refine z_rcs hc hH 3 (pc' := 5) (lv' := [(0, .ref 50), (1, .int s), (2, .int k)]) (st' := []) (μ' := z_ui μ 50 0 0) (by rfl) ?_
  have h0 := hi.put
  have f0 := fG0 μ
  generalize z_ui μ 50 0 0 = μ0 at h0 f0 ⊢
  refine z_rcs hc hH 2 (pc' := 7) (lv' := [(0, .ref 50), (1, .int s), (2, .int k)]) (st' := [.int s, .ref 50]) (μ' := μ0) (by rfl) ?_
  refine zq_call hc (z_cx_ok hH (by rfl)) (fc_X7_mayClaim d' (by omega) μ0 s h0.1) (by decide +kernel) (fun r9 μ9 hq => ?_)
  obtain ⟨hμ9, hq⟩ := hq
  rw [hμ9]
  clear hμ9 μ9
  obtain ⟨rfl, y1, y3, y5, y6⟩ | rfl := hq
  · show Z 0 10 [(0, .ref 50), (1, .int s), (2, .int k)] [.int 1] μ0
    obtain ⟨a, ha4, rfl⟩ := vp_in_of y5 (by decide)
    have hP := h0.2.2 (by rw [y1]; decide)
    have hn1 : ¬ μ0.1 50 44 = 1 := by rw [y1]; decide
    obtain ⟨cc, hcc, ec⟩ := a_nI (x := μ0.1 50 49) (n := 34) (hP.2.2.2.2.1 (fun q => absurd q hn1)) (by have : (μ0.1 50 49).toInt ≤ 33 := (h0.1 50 49).2; omega) (by decide)
    refine z_rcs hc hH 8 (pc' := 22) (lv' := [(0, .ref 50), (1, .int (nI a)), (2, .int k)]) (st' := [.int (((μ0.1 50 45) + 1) - ((μ0.1 50 45) + 1) / 4 * 4), .int (nI a)]) (μ' := μ0) (by rfl) ?_
    refine zq_ic hc hH (by rfl) (tg := 50) (by rfl) (fun h1 => ?_) (fun h1 => ?_)
    · have h1 := cm_ne.mp h1
      refine z_rcs hc hH 1 (pc' := 51) (lv' := [(0, .ref 50), (1, .int (nI a)), (2, .int k)]) (st' := [.int 0]) (μ' := μ0) (by rfl) ?_
      exact hr 0 51 _ _ _ (some (.int 0)) (by decide +kernel) (z_rx_ok hH (by rfl)) (⟨⟨0, rfl⟩, h0, f0⟩)
    · have h1 := cn_ne.mp h1
      refine z_rcs hc hH 1 (pc' := 26) (lv' := [(0, .ref 50), (1, .int (nI a)), (2, .int k)]) (st' := [.int k]) (μ' := μ0) (by rfl) ?_
      refine zq_call hc (z_cx_ok hH (by rfl)) (fc_X7_isRun d' (by omega) μ0 k) (by decide +kernel) (fun r9 μ9 hq => ?_)
      obtain ⟨hμ9, hq⟩ := hq
      rw [hμ9]
      clear hμ9 μ9
      obtain ⟨rfl, hk⟩ | ⟨rfl, hk⟩ := hq
      · show Z 0 29 [(0, .ref 50), (1, .int (nI a)), (2, .int k)] [.int 1] μ0
        obtain ⟨l, hl27, rfl⟩ := a_nI (x := k) (n := 27) (by have z := hk.1; rw [Int32.not_lt, Int32.le_iff_toInt_le] at z; exact z) (by have z := hk.2.1; rw [Int32.not_le, Int32.lt_iff_toInt_lt] at z; exact z) (by decide)
        refine z_rcs hc hH 4 (pc' := 37) (lv' := [(0, .ref 50), (1, .int (nI a)), (2, .int (nI l))]) (st' := [.int (nI l), .int (μ0.1 50 49)]) (μ' := μ0) (by rfl) ?_
        refine zq_ic hc hH (by rfl) (tg := 50) (by rfl) (fun h2 => ?_) (fun h2 => ?_)
        · have h2 := cm_lt.mp h2
          refine z_rcs hc hH 1 (pc' := 51) (lv' := [(0, .ref 50), (1, .int (nI a)), (2, .int (nI l))]) (st' := [.int 0]) (μ' := μ0) (by rfl) ?_
          exact hr 0 51 _ _ _ (some (.int 0)) (by decide +kernel) (z_rx_ok hH (by rfl)) (⟨⟨0, rfl⟩, h0, f0⟩)
        · have h2 := cn_lt.mp h2
          refine z_rcs hc hH 5 (pc' := 47) (lv' := [(0, .ref 50), (1, .int (nI a)), (2, .int (nI l))]) (st' := [.int ((nI l) + 2), .int (μ0.1 50 49)]) (μ' := μ0) (by rfl) ?_
          refine zq_ic hc hH (by rfl) (tg := 52) (by rfl) (fun h3 => ?_) (fun h3 => ?_)
          · have h3 := cm_le.mp h3
            have g1 : l ≤ cc := by
              have z := h2
              rw [ec, Int32.not_lt, Int32.le_iff_toInt_le, nI_toInt (by omega), nI_toInt (by omega)] at z
              omega
            have g2 : cc ≤ l + 2 := by
              have z := h3
              rw [ec, show (2 : Int32) = nI 2 from rfl, nI_add, Int32.le_iff_toInt_le, nI_toInt (by omega), nI_toInt (by omega)] at z
              omega
            have q := rn54 d' Z (by omega) μ hc hr a l cc ha4 (by omega) g1 g2 μ0 h0 f0 ec (fun nz => rn86 d' Z (by omega) μ hc hr a l cc ha4 (by omega) g1 g2 μ0 h0 f0 ec y1 nz) 3 0 (by omega) (fun t ht => absurd ht (by omega))
            rw [Nat.add_zero] at q
            refine z_rcs hc hH 2 (pc' := 54) (lv' := [(3, .int (nI l)), (0, .ref 50), (1, .int (nI a)), (2, .int (nI l))]) (st' := []) (μ' := μ0) (by rfl) ?_
            exact q
          · have h3 := cn_le.mp h3
            refine z_rcs hc hH 1 (pc' := 51) (lv' := [(0, .ref 50), (1, .int (nI a)), (2, .int (nI l))]) (st' := [.int 0]) (μ' := μ0) (by rfl) ?_
            exact hr 0 51 _ _ _ (some (.int 0)) (by decide +kernel) (z_rx_ok hH (by rfl)) (⟨⟨0, rfl⟩, h0, f0⟩)
      · show Z 0 29 [(0, .ref 50), (1, .int (nI a)), (2, .int k)] [.int 0] μ0
        refine z_rcs hc hH 2 (pc' := 51) (lv' := [(0, .ref 50), (1, .int (nI a)), (2, .int k)]) (st' := [.int 0]) (μ' := μ0) (by rfl) ?_
        exact hr 0 51 _ _ _ (some (.int 0)) (by decide +kernel) (z_rx_ok hH (by rfl)) (⟨⟨0, rfl⟩, h0, f0⟩)
  · show Z 0 10 [(0, .ref 50), (1, .int s), (2, .int k)] [.int 0] μ0
    refine z_rcs hc hH 2 (pc' := 51) (lv' := [(0, .ref 50), (1, .int s), (2, .int k)]) (st' := [.int 0]) (μ' := μ0) (by rfl) ?_
    exact hr 0 51 _ _ _ (some (.int 0)) (by decide +kernel) (z_rx_ok hH (by rfl)) (⟨⟨0, rfl⟩, h0, f0⟩)

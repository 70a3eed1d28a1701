/-! the desks wait for the same -/
set_option maxRecDepth 8000
abbrev mdW : List (Nat × Nat) := [(50, 18), (50, 16), (50, 13), (50, 14), (50, 15), (50, 17), (51, 9999), (54, 9999), (55, 9999), (58, 9999)]
def WR (μ μ1 : zM) : Prop := (∀ j, μ1.1 51 j = μ.1 51 j) ∧ a_Fz mdW μ μ1 ∧ a_H μ1
def WM (μ : zM) (w : Nat → Nat) (q c : Nat) : Prop := sn w 34 + 3 * q = 13 ∧ ¬ (4 : Int32) ≤ ofv (nI (w c)) (μ.1 52) (μ.1 53) (nI c) q ∧ FM (ad1 w c) q
def WI (μ1 μ2 : zM) (i : Nat) : Prop := (∀ j, j < i → μ2.1 58 j = μ1.1 51 j) ∧ a_Fz [(58, 9999)] μ1 μ2 ∧ a_H μ2
theorem kb_0 {b : Nat → Bool} : ∀ n, (∀ k, k < n → b k = false) → kb b n = 0 := by
  intro n
  induction n with
  | zero => intro _; rfl
  | succ n ih => intro h; show (if b n = true then _ else kb b n) = 0; rw [if_neg (by rw [h n (by omega)]; decide)]; exact ih (fun k hk => h k (by omega))
theorem sn_ub {w : Nat → Nat} {c : Nat} : ∀ n, (∀ k, k < n → w k ≤ c) → sn w n ≤ c * n := by
  intro n
  induction n with
  | zero => intro _; exact Nat.zero_le _
  | succ n ih => intro h; show sn w n + w n ≤ c * (n + 1); have := ih (fun k hk => h k (by omega)); have := h n (by omega); rw [Nat.mul_add]; omega
theorem sn_ad1 {w : Nat → Nat} {c : Nat} (hc : c < 34) : sn (ad1 w c) 34 = sn w 34 + 1 := (sn_upd (f := ad1 w c) (g := w) (d := 1) hc (fun k _ hk => by unfold ad1; rw [if_neg hk]) (by unfold ad1; rw [if_pos rfl])).symm
theorem zh_X7_waitsOf : zH mi_X7_waitsOf zc_X7_waitsOf 79 7 5 := ⟨by rfl, by rfl, by rfl, by rfl⟩
theorem wo31 (d' : Nat) (Z : zK) (hd : 7 ≤ d') (μ : zM) (w : Nat → Nat) (q : Nat) (hq : q ≤ 4) (hw : RW μ 51 w) (h4 : ∀ k, k < 34 → w k ≤ 4) (e4 : μ.1 50 4 = nI q) (hc : z_clo z_x0 mi_X7_waitsOf (z_C d') Z) (hr : z_ret mi_X7_waitsOf (fun r μ' => WR μ μ' ∧ r = some (.long (kb (wb (WM μ w q)) 34))) Z) (h13 : sn w 34 + 3 * q = 13) (k : Nat) (hk : k < 34) (μ1 : zM) (K : ∀ μ2, WI μ1 μ2 34 → Z 0 58 [(4, .int (nI 34)), (3, .int (nI k)), (1, .long (kb (wb (WM μ w q)) k)), (0, .ref 50)] [] μ2) : ∀ n i, i + n = 34 → ∀ μ2, WI μ1 μ2 i → Z 0 31 [(4, .int (nI i)), (3, .int (nI k)), (1, .long (kb (wb (WM μ w q)) k)), (0, .ref 50)] [] μ2 := by
  have hH := zh_X7_waitsOf
  intro n
  induction n with
  | zero =>
    intro i hi μ2 g
    have hi : i = 34 := by omega
    subst hi
    refine z_rcs hc hH 2 (pc' := 35) (lv' := [(4, .int (nI 34)), (3, .int (nI k)), (1, .long (kb (wb (WM μ w q)) k)), (0, .ref 50)]) (st' := [.int 34, .int (nI 34)]) (μ' := μ2) (by rfl) ?_
    refine zq_ic hc hH (by rfl) (tg := 58) (by rfl) (fun _ => ?_) (fun h9 => (zb_t (ge_nIt (n := 34) (i := 34) (by decide) (by decide)) h9).elim)
    exact K μ2 g
  | succ n ih =>
    intro i hi μ2 g
    have hin : vp_in (nI i) 34 := vp_in_nI (by omega) (by decide)
    refine z_rcs hc hH 2 (pc' := 35) (lv' := [(4, .int (nI i)), (3, .int (nI k)), (1, .long (kb (wb (WM μ w q)) k)), (0, .ref 50)]) (st' := [.int 34, .int (nI i)]) (μ' := μ2) (by rfl) ?_
    refine zq_ic hc hH (by rfl) (tg := 58) (by rfl) (fun h9 => (zb_t h9 (ge_nI (n := 34) (i := i) (by omega) (by decide))).elim) (fun _ => ?_)
    refine z_rcs hc hH 6 (pc' := 50) (lv' := [(4, .int (nI i)), (3, .int (nI k)), (1, .long (kb (wb (WM μ w q)) k)), (0, .ref 50)]) (st' := [.int (nI i), .ref 51, .int (nI i), .ref 58]) (μ' := μ2) (by rfl) ?_
    refine zq_iald hc hH (by rfl) 34 (by decide +kernel) (hin) ?_
    rw [nI_clamp (n := i) (by omega), a_Fz_at g.2.1 51 i (a_md_row (by decide))]
    refine zq_iast hc hH (by rfl) 34 (by decide +kernel) (hin) ?_
    rw [nI_clamp (n := i) (by omega)]
    have g2 : WI μ1 (z_ui μ2 58 i (μ1.1 51 i)) (i + 1) := by
      refine ⟨fun j hj => ?_, a_Fz_ui g.2.1 (a_mda_md (by decide) _), a_H_ui g.2.2 (bI_top _)⟩
      rw [z_ui_rd]
      by_cases e : j = i
      · rw [if_pos ⟨rfl, e⟩, e]
      · rw [if_neg (fun z => e z.2)]; exact g.1 j (by omega)
    generalize z_ui μ2 58 i (μ1.1 51 i) = μ3 at g2 ⊢
    refine z_rcs hc hH 2 (pc' := 31) (lv' := [(4, .int ((nI i) + 1)), (3, .int (nI k)), (1, .long (kb (wb (WM μ w q)) k)), (0, .ref 50)]) (st' := []) (μ' := μ3) (by rfl) ?_
    rw [nI_1]
    exact ih (i + 1) (by omega) μ3 g2
theorem wo58 (d' : Nat) (Z : zK) (hd : 7 ≤ d') (μ : zM) (w : Nat → Nat) (q : Nat) (hq : q ≤ 4) (hw : RW μ 51 w) (h4 : ∀ k, k < 34 → w k ≤ 4) (e4 : μ.1 50 4 = nI q) (hc : z_clo z_x0 mi_X7_waitsOf (z_C d') Z) (hr : z_ret mi_X7_waitsOf (fun r μ' => WR μ μ' ∧ r = some (.long (kb (wb (WM μ w q)) 34))) Z) (h13 : sn w 34 + 3 * q = 13) (k : Nat) (hk : k < 34) (μ1 μ2 : zM) (hR : WR μ μ1) (hI : WI μ1 μ2 34) (KC : ∀ μ5, WR μ μ5 → Z 0 22 [(3, .int (nI (k + 1))), (4, .int (nI 34)), (1, .long (kb (wb (WM μ w q)) (k + 1))), (0, .ref 50)] [] μ5) (KD : ∀ μ5, WR μ μ5 → Z 0 22 [(3, .int (nI (k + 1))), (1, .long (kb (wb (WM μ w q)) (k + 1))), (4, .int (nI 34)), (0, .ref 50)] [] μ5) : Z 0 58 [(4, .int (nI 34)), (3, .int (nI k)), (1, .long (kb (wb (WM μ w q)) k)), (0, .ref 50)] [] μ2 := by
  have hH := zh_X7_waitsOf
  have ink : vp_in (nI k) 34 := vp_in_nI hk (by decide)
  have ekc : (nI k).toNatClampNeg = k := nI_clamp (by omega)
  have ek : kb (wb (WM μ w q)) (k + 1) = if wb (WM μ w q) k = true then kb (wb (WM μ w q)) k ||| ((1 : Int64) <<< ((nI k).toInt64 &&& 63)) else kb (wb (WM μ w q)) k := rfl
  have F2 : a_Fz mdW μ μ2 := a_Fz_tr (by decide) hR.2.1 hI.2.1
  have r51 : ∀ j, μ2.1 51 j = μ.1 51 j := fun j => (a_Fz_at hI.2.1 51 j (a_md_row (by decide))).trans (hR.1 j)
  have r52 : μ2.1 52 = μ.1 52 := funext fun j => a_Fz_at F2 52 j (a_md_row (by decide))
  have r53 : μ2.1 53 = μ.1 53 := funext fun j => a_Fz_at F2 53 j (a_md_row (by decide))
  have e42 : μ2.1 50 4 = nI q := (a_Fz_at F2 50 4 (by decide)).trans e4
  have wk := hw k hk
  refine z_rcs hc hH 2 (pc' := 60) (lv' := [(4, .int (nI 34)), (3, .int (nI k)), (1, .long (kb (wb (WM μ w q)) k)), (0, .ref 50)]) (st' := [.int (nI k), .ref 50]) (μ' := μ2) (by rfl) ?_
  refine zq_call hc (by rfl) (fc_X7_of d' (by omega) μ2 (nI k) ink q hq e42) (by decide +kernel) (fun r9 μ9 hq => ?_)
  obtain ⟨hμ9, rfl⟩ := hq
  rw [hμ9]
  clear hμ9 μ9
  show Z 0 63 [(4, .int (nI 34)), (3, .int (nI k)), (1, .long (kb (wb (WM μ w q)) k)), (0, .ref 50)] [.int (ofv (μ2.1 58 (nI k).toNatClampNeg) (μ2.1 52) (μ2.1 53) (nI k) q)] μ2
  rw [ekc, hI.1 k hk, hR.1 k, wk.1, r52, r53]
  refine z_rcs hc hH 1 (pc' := 64) (lv' := [(4, .int (nI 34)), (3, .int (nI k)), (1, .long (kb (wb (WM μ w q)) k)), (0, .ref 50)]) (st' := [.int 4, .int (ofv (nI (w k)) (μ.1 52) (μ.1 53) (nI k) q)]) (μ' := μ2) (by rfl) ?_
  refine zq_ic hc hH (by rfl) (tg := 70) (by rfl) (fun h1 => ?_) (fun h1 => ?_)
  · have h1 := cm_lt.mp h1
    refine z_rcs hc hH 4 (pc' := 76) (lv' := [(4, .int (nI 34)), (3, .int (nI k)), (1, .long (kb (wb (WM μ w q)) k)), (0, .ref 50)]) (st' := [.int (nI k), .ref 51, .int (nI k), .ref 51]) (μ' := μ2) (by rfl) ?_
    refine zq_iald hc hH (by rfl) 34 (by decide +kernel) (ink) ?_
    rw [ekc, r51, wk.1]
    refine z_rcs hc hH 2 (pc' := 79) (lv' := [(4, .int (nI 34)), (3, .int (nI k)), (1, .long (kb (wb (WM μ w q)) k)), (0, .ref 50)]) (st' := [.int ((nI (w k)) + 1), .int (nI k), .ref 51]) (μ' := μ2) (by rfl) ?_
    rw [nI_1]
    refine zq_iast hc hH (by rfl) 34 (by decide +kernel) (ink) ?_
    rw [ekc]
    have g1 : ∀ j, (z_ui μ2 51 k (nI (w k + 1))).1 51 j = if j = k then nI (w k + 1) else μ2.1 51 j := fun j => by
      rw [z_ui_rd]
      by_cases e : j = k
      · rw [if_pos ⟨rfl, e⟩, if_pos e]
      · rw [if_neg (fun z => e z.2), if_neg e]
    have F3 : a_Fz mdW μ (z_ui μ2 51 k (nI (w k + 1))) := a_Fz_ui F2 (a_mda_md (by decide) _)
    have H3 : a_H (z_ui μ2 51 k (nI (w k + 1))) := a_H_ui hI.2.2 (bI_top _)
    have e43 : (z_ui μ2 51 k (nI (w k + 1))).1 50 4 = nI q := by rw [z_ui_rd, if_neg (by omega)]; exact e42
    generalize z_ui μ2 51 k (nI (w k + 1)) = μ3 at g1 F3 H3 e43 ⊢
    have w3 : RW μ3 51 (ad1 w k) := fun j hj => by
      rw [g1]; unfold ad1
      by_cases e : j = k
      · rw [if_pos e, if_pos e, e]; exact ⟨rfl, by have := h4 k hk; omega⟩
      · rw [if_neg e, if_neg e, r51]; exact hw j hj
    refine z_rcs hc hH 2 (pc' := 82) (lv' := [(4, .int (nI 34)), (3, .int (nI k)), (1, .long (kb (wb (WM μ w q)) k)), (0, .ref 50)]) (st' := [.int 0, .ref 50]) (μ' := μ3) (by rfl) ?_
    refine zq_call hc (by rfl) (fc_X7_apart d' (by omega) μ3 (ad1 w k) q hq w3 e43 H3 (by rw [sn_ad1 hk]; omega)) (by decide +kernel) (fun r4 μ4 hq4 => ?_)
    obtain ⟨rfl, hA⟩ := hq4
    show Z 0 85 [(4, .int (nI 34)), (3, .int (nI k)), (1, .long (kb (wb (WM μ w q)) k)), (0, .ref 50)] [] μ4
    refine z_rcs hc hH 4 (pc' := 91) (lv' := [(4, .int (nI 34)), (3, .int (nI k)), (1, .long (kb (wb (WM μ w q)) k)), (0, .ref 50)]) (st' := [.int (nI k), .ref 51, .int (nI k), .ref 51]) (μ' := μ4) (by rfl) ?_
    refine zq_iald hc hH (by rfl) 34 (by decide +kernel) (ink) ?_
    rw [ekc, hA.1, g1, if_pos rfl]
    refine z_rcs hc hH 2 (pc' := 94) (lv' := [(4, .int (nI 34)), (3, .int (nI k)), (1, .long (kb (wb (WM μ w q)) k)), (0, .ref 50)]) (st' := [.int ((nI (w k + 1)) - 1), .int (nI k), .ref 51]) (μ' := μ4) (by rfl) ?_
    rw [show nI (w k + 1) - 1 = nI (w k) from s_1 (w k + 1) (by have := h4 k hk; omega) (by omega)]
    refine zq_iast hc hH (by rfl) 34 (by decide +kernel) (ink) ?_
    rw [ekc]
    have hR5 : WR μ (z_ui μ4 51 k (nI (w k))) := by
      refine ⟨fun j => ?_, a_Fz_ui (a_Fz_tr (by decide) F3 hA.2.1) (a_mda_md (by decide) _), a_H_ui hA.2.2.1 (bI_top _)⟩
      rw [z_ui_rd]
      by_cases e : j = k
      · rw [if_pos ⟨rfl, e⟩, e, wk.1]
      · rw [if_neg (fun z => e z.2), hA.1, g1, if_neg e, r51]
    have e18 : (z_ui μ4 51 k (nI (w k))).1 50 18 = μ4.1 50 18 := by rw [z_ui_rd, if_neg (by omega)]
    generalize z_ui μ4 51 k (nI (w k)) = μ5 at hR5 e18 ⊢
    refine z_rcs hc hH 2 (pc' := 99) (lv' := [(4, .int (nI 34)), (3, .int (nI k)), (1, .long (kb (wb (WM μ w q)) k)), (0, .ref 50)]) (st' := [.int (μ5.1 50 18)]) (μ' := μ5) (by rfl) ?_
    have al : ¬ (4 : Int32) ≤ ofv (nI (w k)) (μ.1 52) (μ.1 53) (nI k) q := Int32.not_le.mpr h1
    rw [e18]
    by_cases c : FM (ad1 w k) q
    · rw [hA.2.2.2.1 c]
      have yW : WM μ w q k := ⟨h13, al, c⟩
      refine z_rcs hc hH 7 (pc' := 108) (lv' := [(1, .long ((kb (wb (WM μ w q)) k) ||| (1 <<< ((nI k).toInt64 &&& 63)))), (4, .int (nI 34)), (3, .int (nI k)), (0, .ref 50)]) (st' := []) (μ' := μ5) (by rfl) ?_
      refine z_rcs hc hH 2 (pc' := 22) (lv' := [(3, .int ((nI k) + 1)), (1, .long ((kb (wb (WM μ w q)) k) ||| (1 <<< ((nI k).toInt64 &&& 63)))), (4, .int (nI 34)), (0, .ref 50)]) (st' := []) (μ' := μ5) (by rfl) ?_
      rw [nI_1]
      rw [if_pos (wb_t yW)] at ek
      have q9 := KD μ5 hR5
      rw [ek] at q9
      exact q9
    · rw [hA.2.2.2.2 c]
      have nW : ¬ WM μ w q k := fun z => c z.2.2
      refine z_rcs hc hH 1 (pc' := 108) (lv' := [(4, .int (nI 34)), (3, .int (nI k)), (1, .long (kb (wb (WM μ w q)) k)), (0, .ref 50)]) (st' := []) (μ' := μ5) (by rfl) ?_
      refine z_rcs hc hH 2 (pc' := 22) (lv' := [(3, .int ((nI k) + 1)), (4, .int (nI 34)), (1, .long (kb (wb (WM μ w q)) k)), (0, .ref 50)]) (st' := []) (μ' := μ5) (by rfl) ?_
      rw [nI_1]
      rw [if_neg (by rw [wb_f nW]; decide)] at ek
      have q9 := KC μ5 hR5
      rw [ek] at q9
      exact q9
  · have h1 := cn_lt.mp h1
    refine z_rcs hc hH 1 (pc' := 108) (lv' := [(4, .int (nI 34)), (3, .int (nI k)), (1, .long (kb (wb (WM μ w q)) k)), (0, .ref 50)]) (st' := []) (μ' := μ2) (by rfl) ?_
    have nW : ¬ WM μ w q k := fun z => z.2.1 (Int32.not_lt.mp h1)
    have hR5 : WR μ μ2 := ⟨r51, F2, hI.2.2⟩
    refine z_rcs hc hH 2 (pc' := 22) (lv' := [(3, .int ((nI k) + 1)), (4, .int (nI 34)), (1, .long (kb (wb (WM μ w q)) k)), (0, .ref 50)]) (st' := []) (μ' := μ2) (by rfl) ?_
    rw [nI_1]
    rw [if_neg (by rw [wb_f nW]; decide)] at ek
    have q9 := KC μ2 hR5
    rw [ek] at q9
    exact q9
theorem wo22 (d' : Nat) (Z : zK) (hd : 7 ≤ d') (μ : zM) (w : Nat → Nat) (q : Nat) (hq : q ≤ 4) (hw : RW μ 51 w) (h4 : ∀ k, k < 34 → w k ≤ 4) (e4 : μ.1 50 4 = nI q) (hc : z_clo z_x0 mi_X7_waitsOf (z_C d') Z) (hr : z_ret mi_X7_waitsOf (fun r μ' => WR μ μ' ∧ r = some (.long (kb (wb (WM μ w q)) 34))) Z) (h13 : sn w 34 + 3 * q = 13) : ∀ n k, k + n = 34 → ∀ μ1, WR μ μ1 → Z 0 22 [(3, .int (nI k)), (1, .long (kb (wb (WM μ w q)) k)), (0, .ref 50)] [] μ1 ∧ Z 0 22 [(3, .int (nI k)), (4, .int (nI 34)), (1, .long (kb (wb (WM μ w q)) k)), (0, .ref 50)] [] μ1 ∧ Z 0 22 [(3, .int (nI k)), (1, .long (kb (wb (WM μ w q)) k)), (4, .int (nI 34)), (0, .ref 50)] [] μ1 := by
  have hH := zh_X7_waitsOf
  intro n
  induction n with
  | zero =>
    intro k hk μ1 hR
    have hk : k = 34 := by omega
    subst hk
    refine ⟨?_, ?_, ?_⟩
    · skip
      refine z_rcs hc hH 2 (pc' := 25) (lv' := [(3, .int (nI 34)), (1, .long (kb (wb (WM μ w q)) 34)), (0, .ref 50)]) (st' := [.int 34, .int (nI 34)]) (μ' := μ1) (by rfl) ?_
      refine zq_ic hc hH (by rfl) (tg := 114) (by rfl) (fun _ => ?_) (fun h9 => (zb_t (ge_nIt (n := 34) (i := 34) (by decide) (by decide)) h9).elim)
      refine z_rcs hc hH 1 (pc' := 115) (lv' := [(3, .int (nI 34)), (1, .long (kb (wb (WM μ w q)) 34)), (0, .ref 50)]) (st' := [.long (kb (wb (WM μ w q)) 34)]) (μ' := μ1) (by rfl) ?_
      exact hr 0 115 _ _ _ (some (.long (kb (wb (WM μ w q)) 34))) (by decide +kernel) (by rfl) (⟨hR, rfl⟩)
    · skip
      refine z_rcs hc hH 2 (pc' := 25) (lv' := [(3, .int (nI 34)), (4, .int (nI 34)), (1, .long (kb (wb (WM μ w q)) 34)), (0, .ref 50)]) (st' := [.int 34, .int (nI 34)]) (μ' := μ1) (by rfl) ?_
      refine zq_ic hc hH (by rfl) (tg := 114) (by rfl) (fun _ => ?_) (fun h9 => (zb_t (ge_nIt (n := 34) (i := 34) (by decide) (by decide)) h9).elim)
      refine z_rcs hc hH 1 (pc' := 115) (lv' := [(3, .int (nI 34)), (4, .int (nI 34)), (1, .long (kb (wb (WM μ w q)) 34)), (0, .ref 50)]) (st' := [.long (kb (wb (WM μ w q)) 34)]) (μ' := μ1) (by rfl) ?_
      exact hr 0 115 _ _ _ (some (.long (kb (wb (WM μ w q)) 34))) (by decide +kernel) (by rfl) (⟨hR, rfl⟩)
    · skip
      refine z_rcs hc hH 2 (pc' := 25) (lv' := [(3, .int (nI 34)), (1, .long (kb (wb (WM μ w q)) 34)), (4, .int (nI 34)), (0, .ref 50)]) (st' := [.int 34, .int (nI 34)]) (μ' := μ1) (by rfl) ?_
      refine zq_ic hc hH (by rfl) (tg := 114) (by rfl) (fun _ => ?_) (fun h9 => (zb_t (ge_nIt (n := 34) (i := 34) (by decide) (by decide)) h9).elim)
      refine z_rcs hc hH 1 (pc' := 115) (lv' := [(3, .int (nI 34)), (1, .long (kb (wb (WM μ w q)) 34)), (4, .int (nI 34)), (0, .ref 50)]) (st' := [.long (kb (wb (WM μ w q)) 34)]) (μ' := μ1) (by rfl) ?_
      exact hr 0 115 _ _ _ (some (.long (kb (wb (WM μ w q)) 34))) (by decide +kernel) (by rfl) (⟨hR, rfl⟩)
  | succ n ih =>
    intro k hk μ1 hR
    have bd : Z 0 31 [(4, .int (nI 0)), (3, .int (nI k)), (1, .long (kb (wb (WM μ w q)) k)), (0, .ref 50)] [] μ1 := wo31 d' Z hd μ w q hq hw h4 e4 hc hr h13 k (by omega) μ1 (fun μ2 hI => wo58 d' Z hd μ w q hq hw h4 e4 hc hr h13 k (by omega) μ1 μ2 hR hI (fun μ5 h5 => (ih (k + 1) (by omega) μ5 h5).2.1) (fun μ5 h5 => (ih (k + 1) (by omega) μ5 h5).2.2)) 34 0 (by omega) μ1 ⟨fun j hj => absurd hj (by omega), a_Fz_rf _ _, hR.2.2⟩
    refine ⟨?_, ?_, ?_⟩
    · skip
      refine z_rcs hc hH 2 (pc' := 25) (lv' := [(3, .int (nI k)), (1, .long (kb (wb (WM μ w q)) k)), (0, .ref 50)]) (st' := [.int 34, .int (nI k)]) (μ' := μ1) (by rfl) ?_
      refine zq_ic hc hH (by rfl) (tg := 114) (by rfl) (fun h9 => (zb_t h9 (ge_nI (n := 34) (i := k) (by omega) (by decide))).elim) (fun _ => ?_)
      refine z_rcs hc hH 2 (pc' := 31) (lv' := [(4, .int 0), (3, .int (nI k)), (1, .long (kb (wb (WM μ w q)) k)), (0, .ref 50)]) (st' := []) (μ' := μ1) (by rfl) ?_
      exact bd
    · skip
      refine z_rcs hc hH 2 (pc' := 25) (lv' := [(3, .int (nI k)), (4, .int (nI 34)), (1, .long (kb (wb (WM μ w q)) k)), (0, .ref 50)]) (st' := [.int 34, .int (nI k)]) (μ' := μ1) (by rfl) ?_
      refine zq_ic hc hH (by rfl) (tg := 114) (by rfl) (fun h9 => (zb_t h9 (ge_nI (n := 34) (i := k) (by omega) (by decide))).elim) (fun _ => ?_)
      refine z_rcs hc hH 2 (pc' := 31) (lv' := [(4, .int 0), (3, .int (nI k)), (1, .long (kb (wb (WM μ w q)) k)), (0, .ref 50)]) (st' := []) (μ' := μ1) (by rfl) ?_
      exact bd
    · skip
      refine z_rcs hc hH 2 (pc' := 25) (lv' := [(3, .int (nI k)), (1, .long (kb (wb (WM μ w q)) k)), (4, .int (nI 34)), (0, .ref 50)]) (st' := [.int 34, .int (nI k)]) (μ' := μ1) (by rfl) ?_
      refine zq_ic hc hH (by rfl) (tg := 114) (by rfl) (fun h9 => (zb_t h9 (ge_nI (n := 34) (i := k) (by omega) (by decide))).elim) (fun _ => ?_)
      refine z_rcs hc hH 2 (pc' := 31) (lv' := [(4, .int 0), (3, .int (nI k)), (1, .long (kb (wb (WM μ w q)) k)), (0, .ref 50)]) (st' := []) (μ' := μ1) (by rfl) ?_
      exact bd
theorem fc_X7_waitsOf (d : Nat) (hd : 8 ≤ d) (μ : zM) (w : Nat → Nat) (q : Nat) (hq : q ≤ 4) (hw : RW μ 51 w) (h4 : ∀ k, k < 34 → w k ≤ 4) (e4 : μ.1 50 4 = nI q) (hH0 : a_H μ) : z_C d mi_X7_waitsOf [.ref 50] μ (fun r μ' => WR μ μ' ∧ r = some (.long (kb (wb (WM μ w q)) 34))) := by
  refine z_C_in (by decide) (by omega) (fun d' Z ed hc hr => ?_)
  have hH := zh_X7_waitsOf
  have es : sm (μ.1 51) 34 = nI (sn w 34) := sm_sn 34 (fun k hk => (hw k hk).1)
  have ub := sn_ub 34 h4
  refine z_rcs hc hH 3 (pc' := 3) (lv' := [(1, .long 0), (0, .ref 50)]) (st' := [.ref 50]) (μ' := μ) (by rfl) ?_
  refine zq_call hc (by rfl) (fc_X7_inHand d' (by omega) μ) (by decide +kernel) (fun r9 μ9 hq => ?_)
  obtain ⟨hμ9, rfl⟩ := hq
  rw [hμ9]
  clear hμ9 μ9
  show Z 0 6 [(1, .long 0), (0, .ref 50)] [.int (sm (μ.1 51) 34)] μ
  refine z_rcs hc hH 6 (pc' := 15) (lv' := [(1, .long 0), (0, .ref 50)]) (st' := [.int 13, .int ((sm (μ.1 51) 34) + (3 * (μ.1 50 4)))]) (μ' := μ) (by rfl) ?_
  rw [es, e4, size_nI]
  refine zq_ic hc hH (by rfl) (tg := 20) (by rfl) (fun h1 => ?_) (fun h1 => ?_)
  · have h1 := cm_eq9.mp h1
    refine z_rcs hc hH 2 (pc' := 22) (lv' := [(3, .int 0), (1, .long 0), (0, .ref 50)]) (st' := []) (μ' := μ) (by rfl) ?_
    have h13 : sn w 34 + 3 * q = 13 := (nI_eq (show sn w 34 + 3 * q < 2 ^ 31 by omega) (show 13 < 2 ^ 31 by decide)).mp h1
    exact (wo22 d' Z (by omega) μ w q hq hw h4 e4 hc hr h13 34 0 (by omega) μ ⟨fun _ => rfl, a_Fz_rf _ _, hH0⟩).1
  · have h1 := cn_eq.mp h1
    refine z_rcs hc hH 1 (pc' := 19) (lv' := [(1, .long 0), (0, .ref 50)]) (st' := [.long 0]) (μ' := μ) (by rfl) ?_
    have n13 : ¬ sn w 34 + 3 * q = 13 := fun e => h1 (by rw [e]; rfl)
    exact hr 0 19 _ _ _ (some (.long 0)) (by decide +kernel) (by rfl) (⟨⟨fun _ => rfl, a_Fz_rf _ _, hH0⟩, by rw [kb_0 34 (fun k _ => wb_f (fun z => n13 z.1))]⟩)
theorem ofv_cg {x k : Int32} {s s' l l' : Nat → Int32} : ∀ n, (∀ i, i < n → s i = s' i ∧ l i = l' i) → ofv x s l k n = ofv x s' l' k n := by
  intro n
  induction n with
  | zero => intro _; rfl
  | succ n ih => intro h; show ofv x s l k n + ct (s n) (l n) k = ofv x s' l' k n + ct (s' n) (l' n) k; rw [ih (fun i hi => h i (by omega)), (h n (by omega)).1, (h n (by omega)).2]
theorem a_H_TD {μ μ' : zM} (h : a_H μ) (ht : zTD μ μ') (h4 : bI 0 4 (μ.1 50 66)) : a_H μ' := by
  intro r k
  by_cases e1 : r = 51 ∨ r = 52 ∨ r = 53 ∨ r = 58
  · rcases e1 with rfl | rfl | rfl | rfl <;> exact bI_top _
  · by_cases e2 : r = 50 ∧ k = 4
    · obtain ⟨rfl, rfl⟩ := e2
      rw [ht.2.1]; exact h4
    · rw [ht.2.2.2.1 r k (by omega) (by omega) (by omega) (by omega) e2]; exact h r k
theorem zh_X7_deskWaits : zH mi_X7_deskWaits zc_X7_deskWaits 79 7 1 := ⟨by rfl, by rfl, by rfl, by rfl⟩
theorem fc_X7_deskWaits (d : Nat) (hd : 9 ≤ d) (μ : zM) (w : Nat → Nat) (q : Nat) (hR : RD μ q) (hw : ∀ k, k < 34 → μ.1 74 k = nI (w k) ∧ w k ≤ 4) (hH0 : a_H μ) : z_C d mi_X7_deskWaits [.ref 50] μ (fun r μ' => a_H μ' ∧ a_Fz [(50, 0), (50, 4), (50, 18), (50, 16), (50, 13), (50, 14), (50, 15), (50, 17), (51, 9999), (52, 9999), (53, 9999), (54, 9999), (55, 9999), (58, 9999)] μ μ' ∧ r = some (.long (kb (wb (WX μ w q)) 34))) := by
  refine z_C_in (by decide) (by omega) (fun d' Z ed hc hr => ?_)
  have hH := zh_X7_deskWaits
  refine z_rcs hc hH 3 (pc' := 5) (lv' := [(0, .ref 50)]) (st' := []) (μ' := z_ui μ 50 0 0) (by rfl) ?_
  have H0 : a_H (z_ui μ 50 0 0) := a_H_ui hH0 (bI_top _)
  have e66 : (z_ui μ 50 0 0).1 50 66 = nI q := by rw [z_ui_rd, if_neg (by omega)]; exact hR.2.1
  have r74 : ∀ r j, r ≠ 50 → (z_ui μ 50 0 0).1 r j = μ.1 r j := fun r j h => by rw [z_ui_rd, if_neg (fun z => h z.1)]
  have F0 : a_Fz [(50, 0), (50, 4), (50, 18), (50, 16), (50, 13), (50, 14), (50, 15), (50, 17), (51, 9999), (52, 9999), (53, 9999), (54, 9999), (55, 9999), (58, 9999)] μ (z_ui μ 50 0 0) := a_Fz_ui (a_Fz_rf _ _) (by decide)
  generalize z_ui μ 50 0 0 = μ0 at H0 e66 r74 F0 ⊢
  refine z_rcs hc hH 1 (pc' := 6) (lv' := [(0, .ref 50)]) (st' := [.ref 50]) (μ' := μ0) (by rfl) ?_
  refine zq_call hc (by rfl) (fc_X7_takeDesk d' (by omega) μ0 q hR.1 e66) (by decide +kernel) (fun r1 μ1 hq1 => ?_)
  obtain ⟨rfl, ht⟩ := hq1
  have l4 := hR.1
  have H1 := a_H_TD H0 ht (by rw [e66]; exact bd_nI (by omega) ⟨by omega, by omega⟩)
  have w1 : RW μ1 51 w := fun k hk => by rw [(ht.1 k hk).1, r74 74 k (by decide), (hw k hk).1]; exact ⟨rfl, by have := (hw k hk).2; omega⟩
  have e41 : μ1.1 50 4 = nI q := ht.2.1.trans e66
  have F1 : a_Fz [(50, 0), (50, 4), (50, 18), (50, 16), (50, 13), (50, 14), (50, 15), (50, 17), (51, 9999), (52, 9999), (53, 9999), (54, 9999), (55, 9999), (58, 9999)] μ μ1 := a_Fz_tr (m1 := [(50, 4), (51, 9999), (52, 9999), (53, 9999), (58, 9999)]) (by decide) F0 (fz_of (fun r k hm => ht.2.2.2.1 r k (md_ne hm (by decide)) (md_ne hm (by decide)) (md_ne hm (by decide)) (md_ne hm (by decide)) (md_nc hm (by decide))) ht.2.2.2.2)
  have so : ∀ i, i < q → μ1.1 52 i = μ.1 75 i ∧ μ1.1 53 i = μ.1 76 i := fun i hi => by have := ht.2.2.1 i (by rw [e66, nI_clamp (by omega)]; exact hi); rw [r74 75 i (by decide), r74 76 i (by decide)] at this; exact this
  have ub := sn_ub (w := w) (c := 4) 34 (fun k hk => (hw k hk).2)
  have eq9 : kb (wb (WM μ1 w q)) 34 = kb (wb (WX μ w q)) 34 := kb_congr (fun k hk => wb_iff (by
    have o1 : ofv (nI (w k)) (μ1.1 52) (μ1.1 53) (nI k) q = μ.1 11 k := by rw [ofv_cg q so, ← (hw k hk).1]; exact (hR.2.2.2.2.2.1 k hk).symm
    have s1 : (μ.1 9 5 + 3 * μ.1 9 4 = 13) ↔ sn w 34 + 3 * q = 13 := by
      rw [hR.2.2.2.2.1, hR.2.2.1, sm_sn (w := w) 34 (fun k hk => (hw k hk).1), size_nI]
      exact nI_eq (show sn w 34 + 3 * q < 2 ^ 31 by omega) (show 13 < 2 ^ 31 by decide)
    unfold WM WX
    rw [o1, s1]
    exact ⟨fun z => ⟨z.1, z.2.1, (FU_FM l4 (by rw [sn_ad1 hk]; omega)).mpr z.2.2⟩, fun z => ⟨z.1, z.2.1, (FU_FM l4 (by rw [sn_ad1 hk]; omega)).mp z.2.2⟩⟩))
  show Z 0 9 [(0, .ref 50)] [] μ1
  refine z_rcs hc hH 1 (pc' := 10) (lv' := [(0, .ref 50)]) (st' := [.ref 50]) (μ' := μ1) (by rfl) ?_
  refine zq_call hc (by rfl) (fc_X7_waitsOf d' (by omega) μ1 w q l4 w1 (fun k hk => (hw k hk).2) e41 H1) (by decide +kernel) (fun r2 μ2 hq2 => ?_)
  obtain ⟨hW, rfl⟩ := hq2
  rw [eq9]
  show Z 0 13 [(0, .ref 50)] [.long (kb (wb (WX μ w q)) 34)] μ2
  exact hr 0 13 _ _ _ (some (.long (kb (wb (WX μ w q)) 34))) (by decide +kernel) (by rfl) (⟨hW.2.2, a_Fz_tr (by decide) F1 hW.2.1, rfl⟩)
/-- both answer alike -/
theorem lc_dw {d : Nat} (hd : 10 ≤ d) {μ : zM} (h : LI μ) : ∃ V : Int64, z_C d mi_X6_deskWaits [.ref 0] μ (zR μ (.long V)) ∧ z_C d mi_X7_deskWaits [.ref 50] μ (fun r μ' => LI μ' ∧ r = some (.long V)) := by
  obtain ⟨hg, q, hR⟩ := id h
  have hw : ∀ k, k < 34 → μ.1 74 k = nI ((μ.1 74 k).toInt.toNat) ∧ (μ.1 74 k).toInt.toNat ≤ 4 := fun k hk => by
    obtain ⟨t, ht, e⟩ := a_nI (x := μ.1 74 k) (n := 5) (hR.2.2.2.2.2.2 k hk).1 (by have := (hR.2.2.2.2.2.2 k hk).2; omega) (by decide)
    rw [e, nI_toInt (by omega)]
    exact ⟨rfl, by show t ≤ 4; omega⟩
  generalize hwe : (fun k => (μ.1 74 k).toInt.toNat) = w
  have hw : ∀ k, k < 34 → μ.1 74 k = nI (w k) ∧ w k ≤ 4 := fun k hk => by rw [← hwe]; exact hw k hk
  have w10 : RW μ 10 w := fun k hk => by rw [hR.2.2.2.1 k hk, (hw k hk).1]; exact ⟨rfl, by have := (hw k hk).2; omega⟩
  have w11 : q = 0 → RW μ 11 w := fun e k hk => by
    have z := hR.2.2.2.2.2.1 k hk
    rw [e] at z
    have z : μ.1 11 k = μ.1 74 k := z
    rw [z, (hw k hk).1]
    exact ⟨rfl, by have := (hw k hk).2; omega⟩
  refine ⟨_, fx_X6_deskWaits d (by omega) μ w q w10 (fun k hk => (hw k hk).2) hR.1 hR.2.2.1 w11, z_C_mono (fc_X7_deskWaits d (by omega) μ w q hR hw hg.1) (fun r μ' z => ⟨h.keep z.1 z.2.1 (by decide) (by decide), z.2.2⟩)⟩

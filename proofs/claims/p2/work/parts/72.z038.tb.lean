/-! the game: take, waitsAt of the reference -/
set_option maxRecDepth 8000
def TK1 (μ : zM) (s i : Nat) (μ1 : zM) : Prop := (∀ k, k < i → μ1.1 51 k = μ.1 60 (34 * s + k)) ∧ (∀ r k, r ≠ 51 → μ1.1 r k = μ.1 r k) ∧ μ1.2 = μ.2
theorem TK1.nx {μ μ1 : zM} {s i : Nat} (h : TK1 μ s i μ1) : TK1 μ s (i + 1) (z_ui μ1 51 i (μ1.1 60 (34 * s + i))) := by
  refine ⟨fun k hk => ?_, fun r k hr => ?_, h.2.2⟩
  · by_cases e : k = i
    · subst e
      rw [ui_s]; exact h.2.1 60 _ (by decide)
    · rw [ui_k e]; exact h.1 k (by omega)
  · rw [ui_o hr]; exact h.2.1 r k hr
def TK2 (μ : zM) (s q i : Nat) (μ1 : zM) : Prop := (∀ k, k < 34 → μ1.1 51 k = μ.1 60 (34 * s + k)) ∧ μ1.1 50 4 = nI q ∧ (∀ k, k < i → μ1.1 52 k = μ.1 62 (4 * s + k) ∧ μ1.1 53 k = μ.1 63 (4 * s + k)) ∧ (∀ r k, r ≠ 51 → r ≠ 52 → r ≠ 53 → ¬ (r = 50 ∧ k = 4) → μ1.1 r k = μ.1 r k) ∧ μ1.2 = μ.2
theorem TK1.to {μ μ1 : zM} {s q : Nat} (h : TK1 μ s 34 μ1) : TK2 μ s q 0 (z_ui μ1 50 4 (nI q)) := by
  refine ⟨fun k hk => ?_, ui_s, fun k hk => absurd hk (by omega), fun r k h1 _ _ h4 => ?_, h.2.2⟩
  · rw [ui_o (by decide)]; exact h.1 k hk
  · by_cases e : r = 50
    · rw [ui_k (fun e2 => h4 ⟨e, e2⟩)]; exact h.2.1 r k h1
    · rw [ui_o e]; exact h.2.1 r k h1
theorem TK2.nx {μ μ1 : zM} {s q i : Nat} (h : TK2 μ s q i μ1) : TK2 μ s q (i + 1) (z_ui (z_ui μ1 52 i (μ1.1 62 (4 * s + i))) 53 i (μ1.1 63 (4 * s + i))) := by
  refine ⟨fun k hk => ?_, ?_, fun k hk => ?_, fun r k h1 h2 h3 h4 => ?_, h.2.2.2.2⟩
  · rw [ui_o (by decide), ui_o (by decide)]; exact h.1 k hk
  · rw [ui_o (by decide), ui_o (by decide)]; exact h.2.1
  · by_cases e : k = i
    · subst e
      rw [ui_o (by decide), ui_s, ui_s]
      exact ⟨h.2.2.2.1 62 _ (by decide) (by decide) (by decide) (by omega), h.2.2.2.1 63 _ (by decide) (by decide) (by decide) (by omega)⟩
    · rw [ui_o (by decide), ui_k e, ui_k e, ui_o (by decide)]; exact h.2.2.1 k (by omega)
  · rw [ui_o h3, ui_o h2]; exact h.2.2.2.1 r k h1 h2 h3 h4
theorem nI_k4 {s i : Nat} : (4 * (nI s)) + (nI i) = nI (4 * s + i) := by rw [show (4 : Int32) = nI 4 from rfl, nI_ml, nI_add]
theorem kn_nle {a b : Nat} (ha : a < 2147483648) (hb : b < 2147483648) (h : b ≤ a) : decide (nI b ≤ nI a) = true := decide_eq_true (by rw [Int32.le_iff_toInt_le, nI_toInt ha, nI_toInt hb]; omega)
theorem kn_nlf {a b : Nat} (ha : a < 2147483648) (hb : b < 2147483648) (h : a < b) : decide (nI b ≤ nI a) = false := decide_eq_false (by rw [Int32.le_iff_toInt_le, nI_toInt ha, nI_toInt hb]; omega)
theorem gm_take (d : Nat) (hd : 2 ≤ d) (μ : zM) (s q : Nat) (hs4 : s < 4) (hq : q ≤ 4) (e64 : μ.1 64 s = nI q) : z_C d mi_X7_take [.ref 50, .int (nI s)] μ (fun r μ' => r = none ∧ TK2 μ s q q μ') := by
  refine z_C_in (by decide) (by omega) (fun d' Z ed hc hr => ?_)
  have hH : zH mi_X7_take zc_X7_take 79 7 3 := ⟨by rfl, by rfl, by rfl, by rfl⟩
  have hM : ∀ n i, i + n = q → ∀ μ1, TK2 μ s q i μ1 → Z 0 38 [(2, .int (nI i)), (0, .ref 50), (1, .int (nI s))] [] μ1 := by
    intro n
    induction n with
    | zero =>
      intro i hi μ1 g1
      have hi : i = q := by omega
      refine z_rcs hc hH 2 (pc' := 40) (lv' := [(2, .int (nI i)), (0, .ref 50), (1, .int (nI s))]) (st' := [.ref 50, .int (nI i)]) (μ' := μ1) (by rfl) ?_
      refine zq_gfi hc hH (by rfl) (ci := 6) (f := 4) (by rfl) (by decide +kernel) (by rfl) ?_
      rw [g1.2.1]
      refine zq_ic hc hH (by rfl) (tg := 84) (by rfl) (fun h1 => ?_) (fun h1 => ?_)
      · have h1 : (decide ((nI q) ≤ (nI i))) = true := decide_eq_true (cm_ge.mp h1)
        exact hr 0 84 _ _ _ none (by decide +kernel) (by rfl) (⟨rfl, hi ▸ g1⟩)
      · have h1 : (decide ((nI q) ≤ (nI i))) = false := decide_eq_false (cn_ge.mp h1)
        exact absurd (Eq.trans (Eq.symm (kn_nle (by omega) (by omega) (by omega))) h1) (by decide)
    | succ n ih =>
      intro i hi μ1 g1
      refine z_rcs hc hH 2 (pc' := 40) (lv' := [(2, .int (nI i)), (0, .ref 50), (1, .int (nI s))]) (st' := [.ref 50, .int (nI i)]) (μ' := μ1) (by rfl) ?_
      refine zq_gfi hc hH (by rfl) (ci := 6) (f := 4) (by rfl) (by decide +kernel) (by rfl) ?_
      rw [g1.2.1]
      refine zq_ic hc hH (by rfl) (tg := 84) (by rfl) (fun h1 => ?_) (fun h1 => ?_)
      · have h1 : (decide ((nI q) ≤ (nI i))) = true := decide_eq_true (cm_ge.mp h1)
        exact absurd (Eq.trans (Eq.symm (kn_nlf (by omega) (by omega) (by omega))) h1) (by decide)
      · have h1 : (decide ((nI q) ≤ (nI i))) = false := decide_eq_false (cn_ge.mp h1)
        refine z_rcs hc hH 1 (pc' := 47) (lv' := [(2, .int (nI i)), (0, .ref 50), (1, .int (nI s))]) (st' := [.ref 50]) (μ' := μ1) (by rfl) ?_
        refine zq_gfr hc hH (by rfl) (ci := 6) (f := 2) (q := 52) (by rfl) (by decide +kernel) (by rfl) (by decide +kernel) ?_
        refine z_rcs hc hH 2 (pc' := 52) (lv' := [(2, .int (nI i)), (0, .ref 50), (1, .int (nI s))]) (st' := [.ref 50, .int (nI i), .ref 52]) (μ' := μ1) (by rfl) ?_
        refine zq_gfr hc hH (by rfl) (ci := 6) (f := 30) (q := 62) (by rfl) (by decide +kernel) (by rfl) (by decide +kernel) ?_
        refine z_rcs hc hH 5 (pc' := 60) (lv' := [(2, .int (nI i)), (0, .ref 50), (1, .int (nI s))]) (st' := [.int ((4 * (nI s)) + (nI i)), .ref 62, .int (nI i), .ref 52]) (μ' := μ1) (by rfl) ?_
        rw [nI_k4]
        refine zq_iald hc hH (by rfl) 16 (oka_i (by decide +kernel)) (vp_in_nI (by omega) (by decide)) ?_
        rw [nI_clamp (by omega)]
        refine zq_iast hc hH (by rfl) 8 (oka_i (by decide +kernel)).2 (vp_in_nI (by omega) (by decide)) ?_
        rw [nI_clamp (by omega)]
        show Z 0 62 [(2, .int (nI i)), (0, .ref 50), (1, .int (nI s))] [] (z_ui μ1 52 i (μ1.1 62 (4 * s + i)))
        refine z_rcs hc hH 1 (pc' := 63) (lv' := [(2, .int (nI i)), (0, .ref 50), (1, .int (nI s))]) (st' := [.ref 50]) (μ' := z_ui μ1 52 i (μ1.1 62 (4 * s + i))) (by rfl) ?_
        refine zq_gfr hc hH (by rfl) (ci := 6) (f := 3) (q := 53) (by rfl) (by decide +kernel) (by rfl) (by decide +kernel) ?_
        refine z_rcs hc hH 2 (pc' := 68) (lv' := [(2, .int (nI i)), (0, .ref 50), (1, .int (nI s))]) (st' := [.ref 50, .int (nI i), .ref 53]) (μ' := z_ui μ1 52 i (μ1.1 62 (4 * s + i))) (by rfl) ?_
        refine zq_gfr hc hH (by rfl) (ci := 6) (f := 31) (q := 63) (by rfl) (by decide +kernel) (by rfl) (by decide +kernel) ?_
        refine z_rcs hc hH 5 (pc' := 76) (lv' := [(2, .int (nI i)), (0, .ref 50), (1, .int (nI s))]) (st' := [.int ((4 * (nI s)) + (nI i)), .ref 63, .int (nI i), .ref 53]) (μ' := z_ui μ1 52 i (μ1.1 62 (4 * s + i))) (by rfl) ?_
        rw [nI_k4]
        refine zq_iald hc hH (by rfl) 16 (oka_i (by decide +kernel)) (vp_in_nI (by omega) (by decide)) ?_
        rw [nI_clamp (by omega)]
        rw [ui_o (by omega)]
        refine zq_iast hc hH (by rfl) 8 (oka_i (by decide +kernel)).2 (vp_in_nI (by omega) (by decide)) ?_
        rw [nI_clamp (by omega)]
        show Z 0 78 [(2, .int (nI i)), (0, .ref 50), (1, .int (nI s))] [] (z_ui (z_ui μ1 52 i (μ1.1 62 (4 * s + i))) 53 i (μ1.1 63 (4 * s + i)))
        refine z_rcs hc hH 2 (pc' := 38) (lv' := [(2, .int ((nI i) + 1)), (0, .ref 50), (1, .int (nI s))]) (st' := []) (μ' := z_ui (z_ui μ1 52 i (μ1.1 62 (4 * s + i))) 53 i (μ1.1 63 (4 * s + i))) (by rfl) ?_
        have e9 := ih (i + 1) (by omega) _ g1.nx
        rw [nI_s1]
        exact e9
  have hL : ∀ n k, k + n = 34 → ∀ μ1, TK1 μ s k μ1 → Z 0 2 [(2, .int (nI k)), (0, .ref 50), (1, .int (nI s))] [] μ1 := by
    intro n
    induction n with
    | zero =>
      intro k hk μ1 g1
      have hk : k = 34 := by omega
      subst hk
      have e64b : μ1.1 64 s = nI q := by rw [g1.2.1 64 s (by decide)]; exact e64
      refine z_rcs hc hH 2 (pc' := 5) (lv' := [(2, .int (nI 34)), (0, .ref 50), (1, .int (nI s))]) (st' := [.int 34, .int (nI 34)]) (μ' := μ1) (by rfl) ?_
      refine zq_ic hc hH (by rfl) (tg := 26) (by rfl) (fun h1 => ?_) (fun h1 => ?_)
      · have h1 : (decide (34 ≤ (nI 34))) = true := decide_eq_true (cm_ge.mp h1)
        refine z_rcs hc hH 2 (pc' := 28) (lv' := [(2, .int (nI 34)), (0, .ref 50), (1, .int (nI s))]) (st' := [.ref 50, .ref 50]) (μ' := μ1) (by rfl) ?_
        refine zq_gfr hc hH (by rfl) (ci := 6) (f := 32) (q := 64) (by rfl) (by decide +kernel) (by rfl) (by decide +kernel) ?_
        refine z_rcs hc hH 1 (pc' := 32) (lv' := [(2, .int (nI 34)), (0, .ref 50), (1, .int (nI s))]) (st' := [.int (nI s), .ref 64, .ref 50]) (μ' := μ1) (by rfl) ?_
        refine zq_iald hc hH (by rfl) 4 (oka_i (by decide +kernel)) (vp_in_nI (by omega) (by decide)) ?_
        rw [nI_clamp (by omega)]
        rw [e64b]
        refine zq_pfi hc hH (by rfl) (ci := 6) (f := 4) (by rfl) (by decide +kernel) (by rfl) ?_
        show Z 0 36 [(2, .int (nI 34)), (0, .ref 50), (1, .int (nI s))] [] (z_ui μ1 50 4 (nI q))
        refine z_rcs hc hH 2 (pc' := 38) (lv' := [(2, .int 0), (0, .ref 50), (1, .int (nI s))]) (st' := []) (μ' := z_ui μ1 50 4 (nI q)) (by rfl) ?_
        exact hM q 0 (by omega) _ g1.to
      · have h1 : (decide (34 ≤ (nI 34))) = false := decide_eq_false (cn_ge.mp h1)
        exact absurd (Eq.trans (Eq.symm (kn_le2 (m := 34) rfl (by omega) (by omega))) h1) (by decide)
    | succ n ih =>
      intro k hk μ1 g1
      refine z_rcs hc hH 2 (pc' := 5) (lv' := [(2, .int (nI k)), (0, .ref 50), (1, .int (nI s))]) (st' := [.int 34, .int (nI k)]) (μ' := μ1) (by rfl) ?_
      refine zq_ic hc hH (by rfl) (tg := 26) (by rfl) (fun h1 => ?_) (fun h1 => ?_)
      · have h1 : (decide (34 ≤ (nI k))) = true := decide_eq_true (cm_ge.mp h1)
        exact absurd (Eq.trans (Eq.symm (kn_le (m := 34) rfl (by omega) (by omega))) h1) (by decide)
      · have h1 : (decide (34 ≤ (nI k))) = false := decide_eq_false (cn_ge.mp h1)
        refine z_rcs hc hH 1 (pc' := 9) (lv' := [(2, .int (nI k)), (0, .ref 50), (1, .int (nI s))]) (st' := [.ref 50]) (μ' := μ1) (by rfl) ?_
        refine zq_gfr hc hH (by rfl) (ci := 6) (f := 1) (q := 51) (by rfl) (by decide +kernel) (by rfl) (by decide +kernel) ?_
        refine z_rcs hc hH 4 (pc' := 16) (lv' := [(2, .int (nI k)), (0, .ref 50), (1, .int (nI s))]) (st' := [.int (nI k), .int (nI s), .ref 50, .int (nI k), .ref 51]) (μ' := μ1) (by rfl) ?_
        refine zq_call hc (by rfl) (fc_X7_has_ d' (by omega) μ1 s k hs4 (by omega)) (by decide +kernel) (fun r9 μ9 hq => ?_)
        obtain ⟨hμ9, rfl⟩ := hq
        rw [hμ9]
        clear hμ9 μ9
        show Z 0 19 [(2, .int (nI k)), (0, .ref 50), (1, .int (nI s))] [.int (μ1.1 60 (34 * s + k)), .int (nI k), .ref 51] μ1
        refine zq_iast hc hH (by rfl) 34 (oka_i (by decide +kernel)).2 (vp_in_nI (by omega) (by decide)) ?_
        rw [nI_clamp (by omega)]
        show Z 0 20 [(2, .int (nI k)), (0, .ref 50), (1, .int (nI s))] [] (z_ui μ1 51 k (μ1.1 60 (34 * s + k)))
        refine z_rcs hc hH 2 (pc' := 2) (lv' := [(2, .int ((nI k) + 1)), (0, .ref 50), (1, .int (nI s))]) (st' := []) (μ' := z_ui μ1 51 k (μ1.1 60 (34 * s + k))) (by rfl) ?_
        have e9 := ih (k + 1) (by omega) _ g1.nx
        rw [nI_s1]
        exact e9
  exact z_rcs hc hH 2 (pc' := 2) (lv' := [(2, .int (nI 0)), (0, .ref 50), (1, .int (nI s))]) (st' := []) (μ' := μ) (by rfl) (hL 34 0 (by omega) μ ⟨fun k hk => absurd hk (by omega), fun _ _ _ => rfl, rfl⟩)
/-- a hand of the reference -/
def HM (μ : zM) (s : Nat) (w : Nat → Nat) (q : Nat) (sL lL : Nat → Nat) : Prop := (∀ k, k < 34 → μ.1 60 (34 * s + k) = nI (w k) ∧ w k ≤ 4) ∧ μ.1 64 s = nI q ∧ q ≤ 4 ∧ ∀ j, j < q → μ.1 62 (4 * s + j) = nI (sL j) ∧ sL j ≤ 3 ∧ μ.1 63 (4 * s + j) = nI (lL j) ∧ lL j < 34 ∧ (sL j = 0 → rs (lL j))
theorem HM.se {μ M : zM} {s : Nat} {w : Nat → Nat} {q : Nat} {sL lL : Nat → Nat} (h : HM μ s w q sL lL) (e : SE μ M) : HM M s w q sL lL := ⟨fun k hk => by rw [e 60 _ (by omega)]; exact h.1 k hk, by rw [e 64 _ (by omega)]; exact h.2.1, h.2.2.1, fun j hj => by rw [e 62 _ (by omega), e 63 _ (by omega)]; exact h.2.2.2 j hj⟩
theorem seat_arg {s : Nat} (hs : s < 4) : bI 0 3 (nI s) := bd_nI (by omega) ⟨by omega, by omega⟩
theorem gm_takeH (d : Nat) (hd : 695 ≤ d) (μ : zM) (hH : a_H μ) (s q : Nat) (hs4 : s < 4) (hq : q ≤ 4) (e64 : μ.1 64 s = nI q) : z_C d mi_X7_take [.ref 50, .int (nI s)] μ (fun r μ' => (r = none ∧ TK2 μ s q q μ') ∧ a_H μ') :=
  z_C_mono (zC_and d (gm_take d (by omega) μ s q hs4 hq e64) (a_use (i := 117) (K := ak_117) rfl hd [.ref 50, .int (nI s)] μ (aArg_pre ⟨⟨50, by decide, rfl⟩, ⟨_, rfl, seat_arg hs4⟩, trivial⟩ rfl) hH)) (fun r μ' q => ⟨q.1, q.2.1⟩)
theorem TK2.sm {μ μ1 : zM} {s q i : Nat} (h : TK2 μ s q i μ1) : SMj μ μ1 := fun r k hr => ⟨h.2.2.2.1 r k (by omega) (by omega) (by omega) (by omega), by rw [h.2.2.2.2]⟩
theorem SM_fz {md : List (Nat × Nat)} {μ μ1 : zM} (h : a_Fz md μ μ1) (hm : md.all (fun q => (Nat.ble 51 q.1 && Nat.ble q.1 58) || (Nat.beq q.1 50 && (Nat.ble 1 q.2 && Nat.ble q.2 39))) = true) : SMj μ μ1 := by
  intro r k hr
  refine h.1 r k ?_
  unfold a_md
  rw [List.any_eq_false]
  intro q hq hb
  have := List.all_eq_true.mp hm q hq
  obtain ⟨b1, b2⟩ := z_and hb
  have b1 := z_beq b1
  rw [Bool.or_eq_true] at this b2
  rcases this with t | t
  · obtain ⟨t1, t2⟩ := z_and t
    have t1 := Nat.le_of_ble_eq_true t1
    have t2 := Nat.le_of_ble_eq_true t2
    omega
  · obtain ⟨t1, t2⟩ := z_and t
    have t1 := z_beq t1
    obtain ⟨t2, t3⟩ := z_and t2
    have t2 := Nat.le_of_ble_eq_true t2
    have t3 := Nat.le_of_ble_eq_true t3
    rcases b2 with b2 | b2
    · have b2 := z_beq b2
      omega
    · have b2 := z_beq b2
      omega
def WMs (μ : zM) (s : Nat) (w : Nat → Nat) (q c : Nat) : Prop := sn w 34 + 3 * q = 13 ∧ ¬ (4 : Int32) ≤ ofv (nI (w c)) (fun i => μ.1 62 (4 * s + i)) (fun i => μ.1 63 (4 * s + i)) (nI c) q ∧ FM (ad1 w c) q
theorem gm_waitsAt (d : Nat) (hd : 696 ≤ d) (μ : zM) (hH : a_H μ) (s : Nat) (hs4 : s < 4) (w : Nat → Nat) (q : Nat) (sL lL : Nat → Nat) (hM : HM μ s w q sL lL) : z_C d mi_X7_waitsAt [.ref 50, .int (nI s)] μ (fun r W => r = some (.long (kb (wb (WMs μ s w q)) 34)) ∧ SMj μ W ∧ a_H W) := by
  refine z_C_in (by decide) (by omega) (fun d' Z ed hc hr => ?_)
  have hH2 : zH mi_X7_waitsAt zc_X7_waitsAt 79 7 2 := ⟨by rfl, by rfl, by rfl, by rfl⟩
  refine z_rcs hc hH2 2 (pc' := 2) (lv' := [(0, .ref 50), (1, .int (nI s))]) (st' := [.int (nI s), .ref 50]) (μ' := μ) (by rfl) ?_
  refine zq_call hc (by rfl) (gm_takeH d' (by omega) μ hH s q hs4 hM.2.2.1 hM.2.1) (by decide +kernel) (fun r9 μ9 hq => ?_)
  obtain ⟨⟨rfl, hT⟩, hH9⟩ := hq
  refine z_rcs hc hH2 1 (pc' := 6) (lv' := [(0, .ref 50), (1, .int (nI s))]) (st' := [.ref 50]) (μ' := μ9) (by rfl) ?_
  have hw : RW μ9 51 w := fun k hk => by rw [hT.1 k hk]; exact ⟨(hM.1 k hk).1, by have := (hM.1 k hk).2; omega⟩
  refine zq_call hc (by rfl) (fc_X7_waitsOf d' (by omega) μ9 w q hM.2.2.1 hw (fun k hk => (hM.1 k hk).2) hT.2.1 hH9) (by decide +kernel) (fun r9 μ8 hq => ?_)
  obtain ⟨hW, rfl⟩ := hq
  have e : kb (wb (WM μ9 w q)) 34 = kb (wb (WMs μ s w q)) 34 := by
    congr 1
    funext c
    refine wb_iff ?_
    unfold WM WMs
    rw [ofv_cg (s' := fun i => μ.1 62 (4 * s + i)) (l' := fun i => μ.1 63 (4 * s + i)) q (fun i hi => hT.2.2.1 i hi)]
  rw [e]
  exact hr 0 9 _ _ _ (some (.long (kb (wb (WMs μ s w q)) 34))) (by decide +kernel) (by rfl) ⟨rfl, SM_tr hT.sm (SM_fz hW.2.1 (by decide)), hW.2.2⟩

/-! what holds of the model's game between calls -/
noncomputable def hI (μ : zM) (j : Nat) : Int := (μ.1 60 j).toInt
noncomputable def mI (μ : zM) (s : Nat) : Int := (μ.1 64 s).toInt
noncomputable def rI (μ : zM) (s : Nat) : Int := (μ.1 66 s).toInt
noncomputable def si (f : Nat → Int) : Nat → Int
  | 0 => 0
  | n + 1 => si f n + f n
noncomputable def hs (μ : zM) (s : Nat) : Int := si (fun k => hI μ (34 * s + k)) 34
theorem si_congr {f g : Nat → Int} {n : Nat} (h : ∀ k, k < n → g k = f k) : si g n = si f n := by
  induction n with
  | zero => rfl
  | succ n ih =>
    show si g n + g n = si f n + f n
    rw [ih (fun k hk => h k (by omega)), h n (by omega)]
theorem si_upd {f g : Nat → Int} {c n : Nat} (hc : c < n) (h : ∀ k, k < n → k ≠ c → g k = f k) : si g n = si f n + (g c - f c) := by
  induction n with
  | zero => omega
  | succ n ih =>
    show si g n + g n = si f n + f n + (g c - f c)
    by_cases e : c = n
    · subst e
      rw [si_congr (fun k hk => h k (by omega) (by omega))]
      omega
    · rw [ih (by omega) (fun k hk => h k (by omega)), h n (by omega) (by omega)]
      omega
theorem si_nn {f : Nat → Int} {n : Nat} (h : ∀ k, k < n → 0 ≤ f k) : 0 ≤ si f n := by
  induction n with
  | zero => exact Int.le_refl _
  | succ n ih =>
    show 0 ≤ si f n + f n
    have := ih (fun k hk => h k (by omega))
    have := h n (by omega)
    omega
theorem si_le {f : Nat → Int} {c n : Nat} (h : ∀ k, k < n → 0 ≤ f k) (hc : c < n) : f c ≤ si f n := by
  induction n with
  | zero => omega
  | succ n ih =>
    show f c ≤ si f n + f n
    by_cases e : c = n
    · subst e
      have := si_nn (n := c) (fun k hk => h k (by omega))
      omega
    · have := ih (fun k hk => h k (by omega)) (by omega)
      have := h n (by omega)
      omega
/-- one kind of one hand changes by n -/
noncomputable def HR (μ μ' : zM) (a c : Nat) (n : Int) : Prop := hI μ' (34 * a + c) = hI μ (34 * a + c) + n ∧ ∀ j, j ≠ 34 * a + c → hI μ' j = hI μ j
theorem HR.sum {μ μ' : zM} {a c : Nat} {n : Int} (h : HR μ μ' a c n) (hc : c < 34) : hs μ' a = hs μ a + n := by
  unfold hs
  rw [si_upd (f := fun k => hI μ (34 * a + k)) hc (fun k hk hne => h.2 _ (by omega)), h.1]
  omega
theorem HR.sum' {μ μ' : zM} {a c s : Nat} {n : Int} (h : HR μ μ' a c n) (hc : c < 34) (hne : s ≠ a) : hs μ' s = hs μ s := by
  unfold hs
  exact si_congr (fun k hk => h.2 _ (by omega))
theorem hs_row {μ μ' : zM} (h : ∀ j, μ'.1 60 j = μ.1 60 j) : hs μ' = hs μ := by
  funext s
  unfold hs hI
  exact si_congr (fun k _ => by rw [h])
/-- the hands are no less than nothing; with the SETS no more than lim -/
noncomputable def GH (μ : zM) (lim : Nat → Int) : Prop := (∀ j, j < 136 → 0 ≤ hI μ j) ∧ ∀ s, s < 4 → hs μ s + 3 * mI μ s ≤ lim s
theorem GH.le {μ : zM} {lim : Nat → Int} (h : GH μ lim) {a c : Nat} (ha : a < 4) (hc : c < 34) : hI μ (34 * a + c) ≤ hs μ a := si_le (f := fun k => hI μ (34 * a + k)) (fun k hk => h.1 _ (by omega)) hc
theorem GH.keep {μ μ' : zM} {lim : Nat → Int} (h : GH μ lim) (h1 : ∀ j, μ'.1 60 j = μ.1 60 j) (h2 : ∀ j, μ'.1 64 j = μ.1 64 j) : GH μ' lim := by
  refine ⟨fun j hj => ?_, fun s hs4 => ?_⟩
  · unfold hI; rw [h1]; exact h.1 j hj
  · rw [hs_row h1]; unfold mI; rw [h2]; exact h.2 s hs4
/-- a hand gets or gives -/
theorem HR_of {μ μ' : zM} {lim : Nat → Int} {a c : Nat} {n : Int32} (h : GH μ lim) (hl : ∀ s, s < 4 → lim s ≤ 14) (hm : ∀ s, s < 4 → 0 ≤ mI μ s) (ha : a < 4) (hc : c < 34) (hn : -4 ≤ n.toInt ∧ n.toInt ≤ 4) (e : ∀ j, μ'.1 60 j = if j = 34 * a + c then μ.1 60 j + n else μ.1 60 j) : HR μ μ' a c n.toInt := by
  have q := h.le ha hc
  have q2 := h.2 a ha
  have q3 := h.1 (34 * a + c) (by omega)
  have q4 := hl a ha
  have q5 := hm a ha
  refine ⟨?_, fun j hj => by unfold hI; rw [e, if_neg hj]⟩
  show (μ'.1 60 (34 * a + c)).toInt = _
  rw [e, if_pos rfl]
  have b : bI (hI μ (34 * a + c) + n.toInt) (hI μ (34 * a + c) + n.toInt) (μ.1 60 (34 * a + c) + n) := bI_add rfl (a := hI μ (34 * a + c)) (b := hI μ (34 * a + c)) ⟨Int.le_refl _, Int.le_refl _⟩ (c := n.toInt) (d := n.toInt) ⟨Int.le_refl _, Int.le_refl _⟩ ⟨by omega, by omega, by omega, by omega⟩
  have := b.1
  have := b.2
  omega
theorem GH.upd {μ μ' : zM} {lim lim' : Nat → Int} {a c : Nat} {n : Int} (h : GH μ lim) (hr : HR μ μ' a c n) (ha : a < 4) (hc : c < 34) (h0 : 0 ≤ hI μ (34 * a + c) + n) (h1 : ∀ s, s < 4 → s ≠ a → mI μ' s = mI μ s) (h2 : hs μ a + n + 3 * mI μ' a ≤ lim' a) (h3 : ∀ s, s < 4 → s ≠ a → lim s ≤ lim' s) : GH μ' lim' := by
  refine ⟨fun j hj => ?_, fun s hs4 => ?_⟩
  · by_cases e : j = 34 * a + c
    · rw [e, hr.1]; exact h0
    · rw [hr.2 j e]; exact h.1 j hj
  · by_cases e : s = a
    · subst e
      rw [hr.sum hc]; exact h2
    · rw [hr.sum' hc e, h1 s hs4 e]
      have := h.2 s hs4
      have := h3 s hs4 e
      omega
noncomputable def glim (μ : zM) (s : Nat) : Int := if μ.1 50 44 = 1 ∧ μ.1 50 45 = nI s then 14 else 13
noncomputable def sM (μ : zM) : Int := mI μ 0 + mI μ 1 + mI μ 2 + mI μ 3
noncomputable def sR (μ : zM) : Int := rI μ 0 + rI μ 1 + rI μ 2 + rI μ 3
noncomputable def GP (μ : zM) : Prop := GH μ (glim μ) ∧ (μ.1 50 46).toInt + (μ.1 50 47).toInt ≤ 122 ∧ μ.1 50 48 = μ.1 50 47 ∧ (μ.1 50 44 = 3 → (μ.1 50 46).toInt + (μ.1 50 47).toInt < 122 ∧ (μ.1 50 47).toInt < 4) ∧ ((μ.1 50 44 = 1 → μ.1 50 57 = 0) → 0 ≤ (μ.1 50 49).toInt) ∧ sR μ + (if μ.1 50 44 = 1 then 1 else 0) + 52 ≤ (μ.1 50 46).toInt + (μ.1 50 48).toInt + sM μ
noncomputable def GI (μ : zM) : Prop := a_H μ ∧ GW μ ∧ (¬ μ.1 50 44 = 0 → GP μ)
/-- what leaves the game's own cells alone keeps it -/
theorem GP.keep {md : List (Nat × Nat)} {μ μ' : zM} (h : GP μ) (hz : a_Fz md μ μ') (hm : (md.all (fun q => !(Nat.beq q.1 60 || Nat.beq q.1 64 || Nat.beq q.1 66 || (Nat.beq q.1 50 && (Nat.beq q.2 9999 || (Nat.ble 44 q.2 && Nat.ble q.2 49) || Nat.beq q.2 57))))) = true) : GP μ' := by
  have row : ∀ r, (r = 60 ∨ r = 64 ∨ r = 66) → ∀ k, μ'.1 r k = μ.1 r k := by
    intro r hr k
    refine a_Fz_at hz r k (a_md_row (List.all_eq_true.mpr fun q hq => ?_))
    have := List.all_eq_true.mp hm q hq
    cases e : Nat.beq q.1 r with
    | false => rfl
    | true =>
      exfalso
      rw [z_beq e] at this
      rcases hr with rfl | rfl | rfl <;> simp at this
  have cel : ∀ k, ((44 ≤ k ∧ k ≤ 49) ∨ k = 57) → μ'.1 50 k = μ.1 50 k := by
    intro k hk
    refine a_Fz_at hz 50 k ?_
    unfold a_md
    rw [List.any_eq_false]
    intro q hq hb
    have := List.all_eq_true.mp hm q hq
    obtain ⟨b1, b2⟩ := z_and hb
    have b1 := z_beq b1
    rw [Bool.or_eq_true] at b2
    rw [b1] at this
    rcases b2 with b2 | b2
    · rw [z_beq b2] at this
      rcases hk with hk | hk
      · have e1 : Nat.ble 44 k = true := Nat.ble_eq.mpr hk.1
        have e2 : Nat.ble k 49 = true := Nat.ble_eq.mpr hk.2
        rw [e1, e2] at this
        simp at this
      · rw [hk] at this
        simp at this
    · rw [b2] at this
      simp at this
  obtain ⟨h1, h2, h3, h4, h5, h6⟩ := h
  have c44 := cel 44 (by omega)
  have c45 := cel 45 (by omega)
  have c46 := cel 46 (by omega)
  have c47 := cel 47 (by omega)
  have c48 := cel 48 (by omega)
  have c49 := cel 49 (by omega)
  have c57 := cel 57 (by omega)
  have eM : sM μ' = sM μ := by unfold sM mI; simp only [row 64 (by omega)]
  have eR : sR μ' = sR μ := by unfold sR rI; simp only [row 66 (by omega)]
  have eL : glim μ' = glim μ := by funext s; unfold glim; rw [c44, c45]
  unfold GP
  rw [c44, c46, c47, c48, c49, c57, eM, eR, eL]
  exact ⟨h1.keep (row 60 (by omega)) (row 64 (by omega)), h2, h3, h4, h5, h6⟩
/-! pass keeps the game -/
noncomputable abbrev md_G : List (Nat × Nat) := [(50, 0), (50, 1), (50, 2), (50, 3), (50, 4), (50, 5), (50, 6), (50, 7), (50, 8), (50, 9), (50, 10), (50, 11), (50, 12), (50, 13), (50, 14), (50, 15), (50, 16), (50, 17), (50, 18), (50, 19), (50, 20), (50, 21), (50, 22), (50, 23), (50, 24), (50, 25), (50, 26), (50, 27), (50, 28), (50, 29), (50, 30), (50, 31), (50, 32), (50, 33), (50, 34), (50, 35), (50, 36), (50, 37), (50, 38), (50, 39), (50, 40), (50, 41), (50, 42), (50, 43), (50, 44), (50, 45), (50, 46), (50, 47), (50, 48), (50, 49), (50, 50), (50, 51), (50, 52), (50, 53), (50, 54), (50, 55), (50, 56), (50, 57), (50, 58), (50, 59), (50, 60), (50, 61), (50, 62), (50, 63), (50, 64), (50, 65), (50, 67), (51, 9999), (52, 9999), (53, 9999), (54, 9999), (55, 9999), (56, 9999), (57, 9999), (58, 9999), (59, 9999), (60, 9999), (61, 9999), (62, 9999), (63, 9999), (64, 9999), (65, 9999), (66, 9999), (67, 9999), (68, 9999), (69, 9999), (70, 9999), (71, 9999), (72, 9999), (73, 9999), (77, 9999), (79, 9999)]
theorem left0 {x y : Int32} (hx : 0 ≤ x.toInt ∧ x.toInt ≤ 122) (hy : 0 ≤ y.toInt ∧ y.toInt ≤ 4) (h : x.toInt + y.toInt = 122) : 122 - y - x = 0 := by
  have b : bI (122 - y.toInt) (122 - y.toInt) (122 - y) := bI_sub (a := 122) (b := 122) (c := y.toInt) (d := y.toInt) rfl ⟨by decide, by decide⟩ ⟨Int.le_refl _, Int.le_refl _⟩ ⟨by omega, by omega, by omega, by omega⟩
  have c : bI (122 - y.toInt - x.toInt) (122 - y.toInt - x.toInt) (122 - y - x) := bI_sub (c := x.toInt) (d := x.toInt) rfl b ⟨Int.le_refl _, Int.le_refl _⟩ ⟨by omega, by omega, by omega, by omega⟩
  refine Int32.toInt_inj.mp ?_
  have := c.1
  have := c.2
  show _ = (0 : Int)
  omega
noncomputable def zPG (μ : zM) (r : Option Value) (μ' : zM) : Prop := (∃ x, r = some (.int x)) ∧ GI μ' ∧ a_Fz md_G μ μ'
theorem GH.lim {μ : zM} {l l' : Nat → Int} (h : GH μ l) (hl : ∀ s, s < 4 → l s ≤ l' s) : GH μ l' := ⟨h.1, fun s hs4 => Int.le_trans (h.2 s hs4) (hl s hs4)⟩
theorem GP.flat {μ : zM} (h : GP μ) (hp : ¬ μ.1 50 44 = 1) : GH μ (fun _ => 13) := h.1.lim (fun s _ => by unfold glim; rw [if_neg (fun q => hp q.1)]; exact Int.le_refl _)
theorem mI_nn {μ : zM} (h : a_H μ) (s : Nat) : 0 ≤ mI μ s := (h 64 s).1
theorem ph2 {x : Int32} (h : (2 : Int32) ≤ x) : ¬ x = 0 ∧ ¬ x = 1 := ⟨fun e => by rw [e] at h; exact absurd h (by decide), fun e => by rw [e] at h; exact absurd h (by decide)⟩
theorem GP_drawn {μ1 μ' : zM} {a c : Nat} (ha : a < 4) (hc : c < 34) (hz : a_Fz md_draws μ1 μ') (hH : a_H μ1) (h1 : GH μ1 (fun _ => 13)) (e44 : μ'.1 50 44 = 1) (e45 : μ'.1 50 45 = nI a) (e49 : μ'.1 50 49 = nI c) (e60 : ∀ j, μ'.1 60 j = (z_giv μ1 a c 1).1 60 j) (h46 : (μ'.1 50 46).toInt + (μ1.1 50 47).toInt ≤ 122) (h48 : μ'.1 50 48 = μ1.1 50 47) (hR : sR μ1 + 53 ≤ (μ'.1 50 46).toInt + (μ'.1 50 48).toInt + sM μ1) : GP μ' := by
  have c47 : μ'.1 50 47 = μ1.1 50 47 := a_Fz_at hz 50 47 (by decide +kernel)
  have r64 : ∀ k, μ'.1 64 k = μ1.1 64 k := fun k => a_Fz_at hz 64 k (a_md_row (by decide +kernel))
  have r66 : ∀ k, μ'.1 66 k = μ1.1 66 k := fun k => a_Fz_at hz 66 k (a_md_row (by decide +kernel))
  have em : ∀ s, mI μ' s = mI μ1 s := fun s => by unfold mI; rw [r64]
  have eM : sM μ' = sM μ1 := by unfold sM; simp only [em]
  have eR : sR μ' = sR μ1 := by unfold sR rI; simp only [r66]
  have e : ∀ j, μ'.1 60 j = if j = 34 * a + c then μ1.1 60 j + 1 else μ1.1 60 j := fun j => by
    rw [e60]; unfold z_giv; rw [z_ui_rd]
    by_cases q : j = 34 * a + c
    · rw [if_pos ⟨rfl, q⟩, if_pos q, q]
    · rw [if_neg (fun z => q z.2), if_neg q]
  have hr := HR_of h1 (fun _ _ => by decide) (fun s _ => mI_nn hH s) ha hc (n := 1) (by decide) e
  have hr : HR μ1 μ' a c 1 := hr
  have n0 := h1.1 (34 * a + c) (by omega)
  have n1 := h1.2 a ha
  refine ⟨h1.upd hr ha hc (by omega) (fun s _ _ => em s) ?_ (fun s _ _ => ?_), by rw [c47]; exact h46, by rw [h48, c47], fun q => ?_, fun _ => ?_, ?_⟩
  · rw [em]
    unfold glim
    rw [if_pos ⟨e44, e45⟩]
    have n1 : hs μ1 a + 3 * mI μ1 a ≤ 13 := n1
    omega
  · unfold glim
    split <;> decide
  · rw [e44] at q
    exact absurd q (by decide)
  · rw [e49, nI_toInt (by omega)]
    omega
  · rw [if_pos e44, eR, eM]
    omega
theorem a_nI {x : Int32} {n : Nat} (h0 : 0 ≤ x.toInt) (h1 : x.toInt < n) (hn : n < 2 ^ 31) : ∃ t, t < n ∧ x = nI t := by
  obtain ⟨t, t1, t2⟩ := vp_in_of (n := n) (vp_in_iff.mpr ⟨h0, h1⟩) hn
  exact ⟨t, t1, t2⟩
theorem GI.put {μ : zM} (h : GI μ) : GI (z_ui μ 50 0 0) := ⟨a_H_ui h.1 (bI_top _), GW_ne h.2.1 (by decide +kernel), fun q => (h.2.2 q).keep (md := [(50, 0)]) (a_Fz_ui (a_Fz_rf _ _) (by decide +kernel)) (by decide +kernel)⟩
theorem fG0 (μ : zM) : a_Fz md_G μ (z_ui μ 50 0 0) := a_Fz_ui (a_Fz_rf _ _) (by decide +kernel)
theorem zh_X7_pass : zH mi_X7_pass zt_X7_pass 79 7 2 := hh_X7_pass
set_option maxRecDepth 100000 in
theorem fc_X7_pass (d : Nat) (hd : 704 ≤ d) (μ : zM) (hi : GI μ) : z_C d mi_X7_pass [.ref 50] μ (zPG μ) := by
  refine z_C_in (by decide) (by omega) (fun d' Z ed hc hr => ?_)
  have hH := zh_X7_pass
  have h0 := hi.put
  obtain ⟨a, ha4, ea⟩ := seat_nI hi.1
  refine z_rcs hc hH 6 (pc' := 10) (lv' := [(0, .ref 50)]) (st' := [.int 2, .int (μ.1 50 44)]) (μ' := z_ui μ 50 0 0) (by rfl) ?_
  refine zq_ic hc hH (by rfl) (tg := 15) (by rfl) (fun h1 => ?_) (fun h1 => ?_)
  · have h1 := cm_ge.mp h1
    refine z_rcs hc hH 1 (pc' := 16) (lv' := [(0, .ref 50)]) (st' := [.ref 50]) (μ' := z_ui μ 50 0 0) (by rfl) ?_
    refine zq_call hc (z_cx_ok hH (by rfl)) (bs_X7_anySays (by omega) [.ref 50] _ (aArg_pre ⟨⟨50, by decide, rfl⟩, trivial⟩ rfl) h0.1) (by decide +kernel) (fun r9 μ9 hq => ?_)
    obtain ⟨-, hz, hr9⟩ := hq
    obtain ⟨v9, rfl, x9, rfl, -⟩ := hr9
    rw [a_Fz_nil hz]
    clear hz μ9
    have hP := hi.2.2 (ph2 h1).1
    have hP0 : GP (z_ui μ 50 0 0) := h0.2.2 (ph2 h1).1
    have hn1 := (ph2 h1).2
    show Z 0 19 [(0, .ref 50)] [.int x9] (z_ui μ 50 0 0)
    refine zq_if hc hH (by rfl) (tg := 28) (by rfl) (fun h2 => ?_) (fun h2 => ?_)
    · have h2 := cm_eq9.mp h2
      refine z_rcs hc hH 3 (pc' := 33) (lv' := [(0, .ref 50)]) (st' := [.int 3, .int (μ.1 50 44)]) (μ' := z_ui μ 50 0 0) (by rfl) ?_
      refine zq_ic hc hH (by rfl) (tg := 40) (by rfl) (fun h3 => ?_) (fun h3 => ?_)
      · have h3 := cm_ne.mp h3
        refine z_rcs hc hH 3 (pc' := 43) (lv' := [(1, .int 0), (0, .ref 50)]) (st' := [.ref 50]) (μ' := z_ui μ 50 0 0) (by rfl) ?_
        refine zq_call hc (z_cx_ok hH (by rfl)) (a_use (i := 122) (K := ak_122) rfl (by omega) [.ref 50] _ (aArg_pre ⟨⟨50, by decide, rfl⟩, trivial⟩ rfl) h0.1) (by decide +kernel) (fun r9 μ9 hq => ?_)
        obtain ⟨q1, q3, rfl⟩ := hq
        have g9 := GW_keep h0.2.1 q3 (by decide)
        have hP9 := hP0.keep q3 (by decide)
        have f9 : a_Fz md_G μ μ9 := a_Fz_tr (by decide +kernel) (fG0 μ) q3
        have e44 : μ9.1 50 44 = μ.1 50 44 := by rw [a_Fz_at q3 50 44 (by decide +kernel)]; rfl
        have e45 : μ9.1 50 45 = nI a := by rw [a_Fz_at q3 50 45 (by decide +kernel)]; exact ea
        have hfl := hP9.flat (by rw [e44]; exact hn1)
        show Z 0 46 [(1, .int 0), (0, .ref 50)] [] μ9
        refine z_rcs hc hH 3 (pc' := 77) (lv' := [(1, .int 0), (0, .ref 50)]) (st' := [.ref 50]) (μ' := μ9) (by rfl) ?_
        refine zq_call hc (z_cx_ok hH (by rfl)) (fc_X7_left d' (by omega) μ9) (by decide +kernel) (fun r8 μ8 hq => ?_)
        obtain ⟨hμ8, rfl⟩ := hq
        rw [hμ8]
        clear hμ8 μ8
        show Z 0 80 [(1, .int 0), (0, .ref 50)] [.int ((122 - μ9.1 50 47) - μ9.1 50 46)] μ9
        refine zq_if hc hH (by rfl) (tg := 90) (by rfl) (fun h4 => ?_) (fun h4 => ?_)
        · have h4 := cm_ne.mp h4
          refine z_rcs hc hH 8 (pc' := 100) (lv' := [(1, .int 0), (0, .ref 50)]) (st' := [.int 0, .int (((μ9.1 50 45) + 1) - ((μ9.1 50 45) + 1) / 4 * 4), .ref 50]) (μ' := μ9) (by rfl) ?_
          rw [e45, nI_1, nI_r4 _ (by omega)]
          have h46 := hP9.2.1
          have b47 := q1 50 47
          have b46 := q1 50 46
          have b47 : 0 ≤ (μ9.1 50 47).toInt ∧ (μ9.1 50 47).toInt ≤ 4 := b47
          have b46 : 0 ≤ (μ9.1 50 46).toInt ∧ (μ9.1 50 46).toInt ≤ 122 := b46
          have hlt : (μ9.1 50 46).toInt + (μ9.1 50 47).toInt ≠ 122 := fun q => h4 (left0 b46 b47 q)
          obtain ⟨t, ht, et⟩ := a_nI (x := μ9.1 50 46) (n := 122) b46.1 (by omega) (by decide)
          refine zq_call hc (z_cx_ok hH (by rfl)) (fc_X7_draws0 d' (by omega) μ9 ((a + 1) % 4) t (by omega) ht et q1) (by decide +kernel) (fun r7 μ7 hq => ?_)
          obtain ⟨rfl, k1, k2, k3, k4, k5, k6, k7, c, hc4, k8, k9⟩ := hq
          have hG : GP μ7 := by
            have n46 := nI_toInt (n := t) (by omega)
            have n47 := nI_toInt (n := t + 1) (by omega)
            have hR := hP9.2.2.2.2.2
            rw [if_neg (by rw [e44]; exact hn1)] at hR
            rw [et, n46] at hR hlt h46
            refine GP_drawn (by omega) hc4 k2 q1 hfl k3 k4 k8 k9 ?_ (by rw [k7]; exact hP9.2.2.1) ?_
            · rw [k6, n47]; omega
            · rw [k6, n47, k7]; omega
          have hE : zPG μ (some (.int 1)) μ7 := ⟨⟨1, rfl⟩, ⟨k1, GW_keep g9 k2 (by decide +kernel), fun _ => hG⟩, a_Fz_tr (by decide +kernel) f9 k2⟩
          show Z 0 103 [(1, .int 0), (0, .ref 50)] [] μ7
          refine z_rcs hc hH 1 (pc' := 104) (lv' := [(1, .int 0), (0, .ref 50)]) (st' := [.int 1]) (μ' := μ7) (by rfl) ?_
          exact hr 0 104 _ _ _ (some (.int 1)) (by decide +kernel) (by rfl) hE
        · have h4 := cn_ne.mp h4
          refine z_rcs hc hH 1 (pc' := 84) (lv' := [(1, .int 0), (0, .ref 50)]) (st' := [.ref 50]) (μ' := μ9) (by rfl) ?_
          refine zq_call hc (z_cx_ok hH (by rfl)) (fc_X7_nobodyWins d' (by omega) μ9 q1 g9) (by decide +kernel) (fun r7 μ7 hq => ?_)
          obtain ⟨rfl, hS, e7⟩ := hq
          have hE : zPG μ (some (.int 1)) μ7 := ⟨⟨1, rfl⟩, ⟨hS.1, hS.2.1, fun q => absurd e7 q⟩, a_Fz_tr (by decide +kernel) f9 hS.2.2⟩
          show Z 1 87 [(1, .int 0), (0, .ref 50)] [] μ7
          refine z_rcs hc hH 2 (pc' := 104) (lv' := [(1, .int 0), (0, .ref 50)]) (st' := [.int 1]) (μ' := μ7) (by rfl) ?_
          exact hr 1 104 _ _ _ (some (.int 1)) (by decide +kernel) (by rfl) hE
      · have h3 := cn_ne.mp h3
        refine z_rcs hc hH 4 (pc' := 43) (lv' := [(1, .int 1), (0, .ref 50)]) (st' := [.ref 50]) (μ' := z_ui μ 50 0 0) (by rfl) ?_
        refine zq_call hc (z_cx_ok hH (by rfl)) (a_use (i := 122) (K := ak_122) rfl (by omega) [.ref 50] _ (aArg_pre ⟨⟨50, by decide, rfl⟩, trivial⟩ rfl) h0.1) (by decide +kernel) (fun r9 μ9 hq => ?_)
        obtain ⟨q1, q3, rfl⟩ := hq
        have g9 := GW_keep h0.2.1 q3 (by decide)
        have hP9 := hP0.keep q3 (by decide)
        have f9 : a_Fz md_G μ μ9 := a_Fz_tr (by decide +kernel) (fG0 μ) q3
        have e44 : μ9.1 50 44 = μ.1 50 44 := by rw [a_Fz_at q3 50 44 (by decide +kernel)]; rfl
        have e45 : μ9.1 50 45 = nI a := by rw [a_Fz_at q3 50 45 (by decide +kernel)]; exact ea
        have hfl := hP9.flat (by rw [e44]; exact hn1)
        show Z 0 46 [(1, .int 1), (0, .ref 50)] [] μ9
        refine z_rcs hc hH 7 (pc' := 57) (lv' := [(1, .int 1), (0, .ref 50)]) (st' := [.int ((μ9.1 50 47) + 1), .ref 50]) (μ' := μ9) (by rfl) ?_
        obtain ⟨hp1, hp2⟩ := hP9.2.2.2.1 (by rw [e44]; exact h3)
        obtain ⟨t, ht, et⟩ := a_nI (n := 4) (q1 50 47).1 hp2 (by decide)
        have et8 : μ9.1 50 48 = nI t := by rw [hP9.2.2.1, et]
        rw [et, nI_1]
        refine z_rcs hc hH 2 (pc' := 61) (lv' := [(1, .int 1), (0, .ref 50)]) (st' := [.ref 50]) (μ' := z_ui μ9 50 47 (nI (t + 1))) (by rfl) ?_
        have q7 : a_H (z_ui μ9 50 47 (nI (t + 1))) := a_H_ui q1 (show bI 0 4 _ from bd_nI (by omega) ⟨by omega, by omega⟩)
        refine zq_call hc (z_cx_ok hH (by rfl)) (a_use (i := 123) (K := ak_123) rfl (by omega) [.ref 50] _ (aArg_pre ⟨⟨50, by decide, rfl⟩, trivial⟩ rfl) q7) (by decide +kernel) (fun r8 μ8 hq => ?_)
        obtain ⟨q8, z8, rfl⟩ := hq
        have g8 : GW μ8 := GW_keep (GW_ne g9 (by decide)) z8 (by decide)
        have f8 : a_Fz md_G μ μ8 := a_Fz_tr (by decide +kernel) (a_Fz_ui f9 (by decide +kernel)) z8
        have r60 : ∀ j, μ8.1 60 j = μ9.1 60 j := fun j => by rw [a_Fz_at z8 60 j (a_md_row (by decide +kernel)), z_ui_rd, if_neg (by omega)]
        have r64 : ∀ j, μ8.1 64 j = μ9.1 64 j := fun j => by rw [a_Fz_at z8 64 j (a_md_row (by decide +kernel)), z_ui_rd, if_neg (by omega)]
        have r66 : ∀ j, μ8.1 66 j = μ9.1 66 j := fun j => by rw [a_Fz_at z8 66 j (a_md_row (by decide +kernel)), z_ui_rd, if_neg (by omega)]
        have c45 : μ8.1 50 45 = nI a := by rw [a_Fz_at z8 50 45 (by decide +kernel), z_ui_rd, if_neg (by omega), e45]
        have c46 : μ8.1 50 46 = μ9.1 50 46 := by rw [a_Fz_at z8 50 46 (by decide +kernel), z_ui_rd, if_neg (by omega)]
        have c47 : μ8.1 50 47 = nI (t + 1) := by rw [a_Fz_at z8 50 47 (by decide +kernel), z_ui_rd, if_pos ⟨rfl, rfl⟩]
        have c48 : μ8.1 50 48 = nI t := by rw [a_Fz_at z8 50 48 (by decide +kernel), z_ui_rd, if_neg (by omega), et8]
        show Z 0 64 [(1, .int 1), (0, .ref 50)] [] μ8
        refine z_rcs hc hH 4 (pc' := 70) (lv' := [(1, .int 1), (0, .ref 50)]) (st' := [.int 1, .int (μ8.1 50 45), .ref 50]) (μ' := μ8) (by rfl) ?_
        rw [c45]
        refine zq_call hc (z_cx_ok hH (by rfl)) (fc_X7_draws1 d' (by omega) μ8 a t ha4 ht c48 q8) (by decide +kernel) (fun r7 μ7 hq => ?_)
        obtain ⟨rfl, k1, k2, k3, k4, k5, k6, k7, c, hc4, k8, k9⟩ := hq
        have hG : GP μ7 := by
          have n46 := nI_toInt (n := t) (by omega)
          have n47 := nI_toInt (n := t + 1) (by omega)
          have hR := hP9.2.2.2.2.2
          rw [if_neg (by rw [e44]; exact hn1)] at hR
          have eM : sM μ8 = sM μ9 := by unfold sM mI; simp only [r64]
          have eR : sR μ8 = sR μ9 := by unfold sR rI; simp only [r66]
          rw [et8, n46] at hR
          rw [et, n46] at hp1
          refine GP_drawn ha4 hc4 k2 q8 (hfl.keep r60 r64) k3 k4 k8 k9 ?_ (by rw [k6, c47]) ?_
          · rw [k7, c46, c47, n47]; omega
          · rw [k7, c46, k6, n47, eM, eR]; omega
        have hE : zPG μ (some (.int 1)) μ7 := ⟨⟨1, rfl⟩, ⟨k1, GW_keep g8 k2 (by decide +kernel), fun _ => hG⟩, a_Fz_tr (by decide +kernel) f8 k2⟩
        show Z 0 73 [(1, .int 1), (0, .ref 50)] [] μ7
        refine z_rcs hc hH 2 (pc' := 104) (lv' := [(1, .int 1), (0, .ref 50)]) (st' := [.int 1]) (μ' := μ7) (by rfl) ?_
        exact hr 0 104 _ _ _ (some (.int 1)) (by decide +kernel) (by rfl) hE
    · have h2 := cn_eq.mp h2
      refine z_rcs hc hH 1 (pc' := 23) (lv' := [(0, .ref 50)]) (st' := [.ref 50]) (μ' := z_ui μ 50 0 0) (by rfl) ?_
      refine zq_call hc (z_cx_ok hH (by rfl)) (fc_X7_allWin d' (by omega) (z_ui μ 50 0 0) h0.1 h0.2.1 (hP0.2.2.2.2.1 (fun q => absurd q hn1))) (by decide +kernel) (fun r9 μ9 hq => ?_)
      obtain ⟨rfl, hS, e44⟩ := hq
      have hE : zPG μ (some (.int 1)) μ9 := ⟨⟨1, rfl⟩, ⟨hS.1, hS.2.1, fun q => absurd e44 q⟩, a_Fz_tr (by decide +kernel) (fG0 μ) hS.2.2⟩
      show Z 0 26 [(0, .ref 50)] [] μ9
      refine z_rcs hc hH 1 (pc' := 27) (lv' := [(0, .ref 50)]) (st' := [.int 1]) (μ' := μ9) (by rfl) ?_
      exact hr 0 27 _ _ _ (some (.int 1)) (by decide +kernel) (by rfl) hE
  · have h1 := cn_ge.mp h1
    refine z_rcs hc hH 1 (pc' := 14) (lv' := [(0, .ref 50)]) (st' := [.int 0]) (μ' := z_ui μ 50 0 0) (by rfl) ?_
    exact hr 0 14 _ _ _ (some (.int 0)) (by decide +kernel) (z_rx_ok hH (by rfl)) (⟨⟨0, rfl⟩, h0, fG0 μ⟩)
/-! fours -/
theorem leftp {x y : Int32} (hx : 0 ≤ x.toInt ∧ x.toInt ≤ 122) (hy : 0 ≤ y.toInt ∧ y.toInt ≤ 4) (h : ¬ 122 - y - x ≤ 0) : x.toInt + y.toInt < 122 := by
  have b : bI (122 - y.toInt) (122 - y.toInt) (122 - y) := bI_sub (a := 122) (b := 122) (c := y.toInt) (d := y.toInt) rfl ⟨by decide, by decide⟩ ⟨Int.le_refl _, Int.le_refl _⟩ ⟨by omega, by omega, by omega, by omega⟩
  have c : bI (122 - y.toInt - x.toInt) (122 - y.toInt - x.toInt) (122 - y - x) := bI_sub (c := x.toInt) (d := x.toInt) rfl b ⟨Int.le_refl _, Int.le_refl _⟩ ⟨by omega, by omega, by omega, by omega⟩
  rw [Int32.not_le, Int32.lt_iff_toInt_lt] at h
  have := c.1
  have := c.2
  have h : (0 : Int) < _ := h
  omega
theorem giv_60 (μ : zM) (a c : Nat) (n : Int32) (j : Nat) : (z_giv μ a c n).1 60 j = if j = 34 * a + c then μ.1 60 j + n else μ.1 60 j := by
  unfold z_giv
  rw [z_ui_rd]
  by_cases q : j = 34 * a + c
  · rw [if_pos ⟨rfl, q⟩, if_pos q, q]
  · rw [if_neg (fun z => q z.2), if_neg q]
theorem giv_ne (μ : zM) (a c : Nat) (n : Int32) {r : Nat} (hr : r ≠ 60) (j : Nat) : (z_giv μ a c n).1 r j = μ.1 r j := by
  unfold z_giv
  rw [z_ui_rd, if_neg (fun z => hr z.1)]
theorem lys_64 (μ : zM) (a q : Nat) (so k : Int32) (j : Nat) : (z_lys μ a q so k).1 64 j = if j = a then nI (q + 1) else μ.1 64 j := by
  unfold z_lys
  rw [z_ui_rd]
  by_cases e : j = a
  · rw [if_pos ⟨rfl, e⟩, if_pos e]
  · rw [if_neg (fun z => e z.2), if_neg e, z_ui_rd, if_neg (by omega), z_ui_rd, if_neg (by omega)]
theorem lys_ne (μ : zM) (a q : Nat) (so k : Int32) {r : Nat} (h1 : r ≠ 62) (h2 : r ≠ 63) (h3 : r ≠ 64) (j : Nat) : (z_lys μ a q so k).1 r j = μ.1 r j := by
  unfold z_lys
  rw [z_ui_rd, if_neg (fun z => h3 z.1), z_ui_rd, if_neg (fun z => h2 z.1), z_ui_rd, if_neg (fun z => h1 z.1)]
theorem sM_lay {μ μ' : zM} {a q : Nat} (ha : a < 4) (hq : q < 4) (e : μ.1 64 a = nI q) (h : ∀ i, μ'.1 64 i = if i = a then nI (q + 1) else μ.1 64 i) : sM μ' = sM μ + 1 := by
  have t0 := nI_toInt (n := q) (by omega)
  have t1 := nI_toInt (n := q + 1) (by omega)
  have ma : mI μ a = q := by unfold mI; rw [e, t0]
  have ma' : mI μ' a = q + 1 := by unfold mI; rw [h, if_pos rfl, t1]; omega
  have mo : ∀ i, i ≠ a → mI μ' i = mI μ i := fun i hi => by unfold mI; rw [h, if_neg hi]
  unfold sM
  rcases (show a = 0 ∨ a = 1 ∨ a = 2 ∨ a = 3 by omega) with rfl | rfl | rfl | rfl
  · rw [ma', ma, mo 1 (by decide), mo 2 (by decide), mo 3 (by decide)]; omega
  · rw [ma', ma, mo 0 (by decide), mo 2 (by decide), mo 3 (by decide)]; omega
  · rw [ma', ma, mo 0 (by decide), mo 1 (by decide), mo 3 (by decide)]; omega
  · rw [ma', ma, mo 0 (by decide), mo 1 (by decide), mo 2 (by decide)]; omega
/-- a SET is laid from the hand -/
theorem GH_lays {μ μ' : zM} {lim : Nat → Int} {a c q : Nat} {n : Int32} (h : GH μ lim) (hl : ∀ s, s < 4 → lim s ≤ 14) (hH : a_H μ) (ha : a < 4) (hc : c < 34) (hq : q < 4) (e : μ.1 64 a = nI q) (hn : -4 ≤ n.toInt ∧ n.toInt ≤ 4) (h0 : 0 ≤ hI μ (34 * a + c) + n.toInt) (h13 : lim a + n.toInt + 3 ≤ 13) (ho : ∀ s, s < 4 → s ≠ a → lim s ≤ 13) (e60 : ∀ j, μ'.1 60 j = if j = 34 * a + c then μ.1 60 j + n else μ.1 60 j) (e64 : ∀ i, μ'.1 64 i = if i = a then nI (q + 1) else μ.1 64 i) : GH μ' (fun _ => 13) := by
  have hr := HR_of h hl (fun s _ => mI_nn hH s) ha hc hn e60
  have t0 := nI_toInt (n := q) (by omega)
  have t1 := nI_toInt (n := q + 1) (by omega)
  have ma : mI μ a = q := by unfold mI; rw [e, t0]
  have ma' : mI μ' a = q + 1 := by unfold mI; rw [e64, if_pos rfl, t1]; omega
  have n1 := h.2 a ha
  refine h.upd hr ha hc h0 (fun s _ hs => by unfold mI; rw [e64, if_neg hs]) ?_ ho
  rw [ma']
  rw [ma] at n1
  show _ ≤ (13 : Int)
  omega
theorem sets_nI {μ : zM} (h : a_H μ) (a : Nat) : ∃ q, q ≤ 4 ∧ μ.1 64 a = nI q := by
  obtain ⟨q, h1, h2⟩ := a_nI (x := μ.1 64 a) (n := 5) (h 64 a).1 (by have : (μ.1 64 a).toInt ≤ 4 := (h 64 a).2; omega) (by decide)
  exact ⟨q, by omega, h2⟩
theorem a_H_lys {μ : zM} {a c q : Nat} {n so k : Int32} (h : a_H μ) (hq : q < 4) : a_H (z_lys (z_giv μ a c n) a q so k) := a_H_ui (a_H_ui (a_H_ui (a_H_ui h (bI_top _)) (bI_top _)) (bI_top _)) (show bI 0 4 _ from bd_nI (by omega) ⟨by omega, by omega⟩)
theorem GW_lys {μ : zM} {a c q : Nat} {n so k : Int32} (h : GW μ) : GW (z_lys (z_giv μ a c n) a q so k) := GW_ne (GW_ne (GW_ne (GW_ne h (by decide)) (by decide)) (by decide)) (by decide)
theorem fG_lys {μ0 μ : zM} {a c q : Nat} {n so k : Int32} (h : a_Fz md_G μ0 μ) : a_Fz md_G μ0 (z_lys (z_giv μ a c n) a q so k) := a_Fz_ui (a_Fz_ui (a_Fz_ui (a_Fz_ui h (a_mda_md (by decide +kernel) _)) (a_mda_md (by decide +kernel) _)) (a_mda_md (by decide +kernel) _)) (a_mda_md (by decide +kernel) _)
theorem zh_X7_hide : zH mi_X7_hide zt_X7_hide 79 7 2 := hh_X7_hide
set_option maxRecDepth 100000 in
theorem fc_X7_hide (d : Nat) (hd : 704 ≤ d) (μ : zM) (k : Int32) (hi : GI μ) : z_C d mi_X7_hide [.ref 50, .int k] μ (zPG μ) := by
  refine z_C_in (by decide) (by omega) (fun d' Z ed hc hr => ?_)
  have hH := zh_X7_hide
  have h0 := hi.put
  obtain ⟨a, ha4, ea⟩ := seat_nI hi.1
  refine z_rcs hc hH 4 (pc' := 6) (lv' := [(0, .ref 50), (1, .int k)]) (st' := [.ref 50]) (μ' := z_ui μ 50 0 0) (by rfl) ?_
  refine zq_call hc (z_cx_ok hH (by rfl)) (fc_X7_mayMake d' (by omega) (z_ui μ 50 0 0) h0.1) (by decide +kernel) (fun r9 μ9 hq => ?_)
  obtain ⟨hμ9, hq⟩ := hq
  rw [hμ9]
  clear hμ9 μ9
  obtain ⟨rfl, y1, y2, y3, y4⟩ | rfl := hq
  · show Z 0 9 [(0, .ref 50), (1, .int k)] [.int 1] (z_ui μ 50 0 0)
    refine z_rcs hc hH 2 (pc' := 13) (lv' := [(0, .ref 50), (1, .int k)]) (st' := [.int k]) (μ' := z_ui μ 50 0 0) (by rfl) ?_
    refine zq_call hc (z_cx_ok hH (by rfl)) (fc_X7_isKind d' (by omega) (z_ui μ 50 0 0) k) (by decide +kernel) (fun r9 μ9 hq => ?_)
    obtain ⟨hμ9, hq⟩ := hq
    rw [hμ9]
    clear hμ9 μ9
    obtain ⟨rfl, hk⟩ | ⟨rfl, hk⟩ := hq
    · show Z 0 16 [(0, .ref 50), (1, .int k)] [.int 1] (z_ui μ 50 0 0)
      refine z_rcs hc hH 5 (pc' := 25) (lv' := [(0, .ref 50), (1, .int k)]) (st' := [.int k, .int (μ.1 50 45), .ref 50]) (μ' := z_ui μ 50 0 0) (by rfl) ?_
      obtain ⟨cc, hcc, rfl⟩ := vp_in_of hk (by decide)
      rw [ea]
      refine zq_call hc (z_cx_ok hH (by rfl)) (fc_X7_has_ d' (by omega) (z_ui μ 50 0 0) a cc ha4 hcc) (by decide +kernel) (fun r9 μ9 hq => ?_)
      obtain ⟨hμ9, rfl⟩ := hq
      rw [hμ9]
      clear hμ9 μ9
      show Z 0 28 [(0, .ref 50), (1, .int (nI cc))] [.int (μ.1 60 (34 * a + cc))] (z_ui μ 50 0 0)
      refine z_rcs hc hH 1 (pc' := 29) (lv' := [(0, .ref 50), (1, .int (nI cc))]) (st' := [.int 4, .int (μ.1 60 (34 * a + cc))]) (μ' := z_ui μ 50 0 0) (by rfl) ?_
      refine zq_ic hc hH (by rfl) (tg := 34) (by rfl) (fun h1 => ?_) (fun h1 => ?_)
      · have h1 := cm_eq9.mp h1
        refine z_rcs hc hH 5 (pc' := 42) (lv' := [(0, .ref 50), (1, .int (nI cc))]) (st' := [.int (-4), .int (nI cc), .int (μ.1 50 45), .ref 50]) (μ' := z_ui μ 50 0 0) (by rfl) ?_
        have y1 : μ.1 50 44 = 1 := y1
        have hP := hi.2.2 (by rw [y1]; decide)
        obtain ⟨q, hq4, eq⟩ := sets_nI hi.1 a
        have tq := nI_toInt (n := q) (by omega)
        have l1 := hP.1.le ha4 hcc
        have l2 := hP.1.2 a ha4
        have l3 : glim μ a = 14 := by unfold glim; rw [if_pos ⟨y1, ea⟩]
        have lo : ∀ s, s < 4 → s ≠ a → glim μ s ≤ 13 := fun s hs4 hs => by unfold glim; rw [if_neg (fun z => hs ((nI_eq (by omega) (by omega)).mp (z.2.symm.trans ea)))]; exact Int.le_refl _
        have ll : ∀ s, s < 4 → glim μ s ≤ 14 := fun s _ => by unfold glim; split <;> decide
        have l4 : hI μ (34 * a + cc) = 4 := by unfold hI; rw [h1]; rfl
        have l5 : mI μ a = q := by unfold mI; rw [eq, tq]
        have hq : q < 4 := by omega
        rw [ea]
        refine zq_call hc (z_cx_ok hH (by rfl)) (fc_X7_gives d' (by omega) (z_ui μ 50 0 0) a cc (-4) ha4 hcc) (by decide +kernel) (fun r9 μ9 hq => ?_)
        obtain ⟨rfl, rfl⟩ := hq
        show Z 0 45 [(0, .ref 50), (1, .int (nI cc))] [] (z_giv (z_ui μ 50 0 0) a cc (-4))
        refine z_rcs hc hH 5 (pc' := 52) (lv' := [(0, .ref 50), (1, .int (nI cc))]) (st' := [.int (nI cc), .int 3, .int ((z_giv (z_ui μ 50 0 0) a cc (-4)).1 50 45), .ref 50]) (μ' := (z_giv (z_ui μ 50 0 0) a cc (-4))) (by rfl) ?_
        rw [show (z_giv (z_ui μ 50 0 0) a cc (-4)).1 50 45 = nI a from ea]
        refine zq_call hc (z_cx_ok hH (by rfl)) (fc_X7_lays d' (by omega) (z_giv (z_ui μ 50 0 0) a cc (-4)) a q 3 (nI cc) ha4 hq eq) (by decide +kernel) (fun r9 μ9 hq => ?_)
        obtain ⟨rfl, rfl⟩ := hq
        have H2 := a_H_lys (μ := z_ui μ 50 0 0) (a := a) (c := cc) (q := q) (n := -4) (so := 3) (k := nI cc) h0.1 hq
        have g2 := GW_lys (a := a) (c := cc) (q := q) (n := -4) (so := 3) (k := nI cc) h0.2.1
        have f2 := fG_lys (a := a) (c := cc) (q := q) (n := -4) (so := 3) (k := nI cc) (fG0 μ)
        have i60 : ∀ j, (z_lys (z_giv (z_ui μ 50 0 0) a cc (-4)) a q (3) (nI cc)).1 60 j = if j = 34 * a + cc then (z_ui μ 50 0 0).1 60 j + (-4) else (z_ui μ 50 0 0).1 60 j := fun j => by rw [lys_ne _ _ _ _ _ (by decide) (by decide) (by decide), giv_60]
        have i64 : ∀ j, (z_lys (z_giv (z_ui μ 50 0 0) a cc (-4)) a q (3) (nI cc)).1 64 j = if j = a then nI (q + 1) else (z_ui μ 50 0 0).1 64 j := fun j => by rw [lys_64, giv_ne _ _ _ _ (by decide)]
        have i66 : ∀ j, (z_lys (z_giv (z_ui μ 50 0 0) a cc (-4)) a q (3) (nI cc)).1 66 j = (z_ui μ 50 0 0).1 66 j := fun j => by rw [lys_ne _ _ _ _ _ (by decide) (by decide) (by decide), giv_ne _ _ _ _ (by decide)]
        have i50 : ∀ j, (z_lys (z_giv (z_ui μ 50 0 0) a cc (-4)) a q (3) (nI cc)).1 50 j = (z_ui μ 50 0 0).1 50 j := fun j => by rw [lys_ne _ _ _ _ _ (by decide) (by decide) (by decide), giv_ne _ _ _ _ (by decide)]
        generalize z_lys (z_giv (z_ui μ 50 0 0) a cc (-4)) a q (3) (nI cc) = μ2 at H2 g2 f2 i60 i64 i66 i50 ⊢
        have gh2 : GH μ2 (fun _ => 13) := GH_lays (μ := z_ui μ 50 0 0) (hP.1.keep (fun j => rfl) (fun j => rfl)) ll h0.1 ha4 hcc hq eq (by decide) (by show 0 ≤ hI μ (34 * a + cc) + -4; omega) (by rw [l3]; decide) lo i60 i64
        have hM2 := sM_lay (μ := z_ui μ 50 0 0) ha4 hq eq i64
        have hM3 : sM (z_ui μ 50 0 0) = sM μ := rfl
        have hR3 : sR μ2 = sR μ := by unfold sR rI; simp only [i66]; rfl
        have b47 : 0 ≤ (μ.1 50 47).toInt ∧ (μ.1 50 47).toInt ≤ 4 := hi.1 50 47
        have b46 : 0 ≤ (μ.1 50 46).toInt ∧ (μ.1 50 46).toInt ≤ 122 := hi.1 50 46
        have hlt := leftp b46 b47 y3
        have y4 : ¬ (4 : Int32) ≤ μ.1 50 47 := y4
        rw [Int32.not_le, Int32.lt_iff_toInt_lt] at y4
        obtain ⟨t, ht, et⟩ := a_nI (x := μ.1 50 47) (n := 4) b47.1 y4 (by decide)
        have tt := nI_toInt (n := t) (by omega)
        have e47 : μ2.1 50 47 = nI t := (i50 47).trans et
        have e48 : μ2.1 50 48 = nI t := (i50 48).trans (hP.2.2.1.trans et)
        have e45 : μ2.1 50 45 = nI a := (i50 45).trans ea
        have e46 : μ2.1 50 46 = μ.1 50 46 := i50 46
        have h46 : (μ2.1 50 46).toInt + t < 122 := by rw [e46]; rw [et, tt] at hlt; exact hlt
        have hR := hP.2.2.2.2.2
        rw [if_pos y1, hP.2.2.1, et, tt] at hR
        have hR2 : sR μ2 + 53 ≤ (μ2.1 50 46).toInt + (t + 1) + sM μ2 := by rw [e46, hR3, hM2, hM3]; omega
        show Z 0 55 [(0, .ref 50), (1, .int (nI cc))] [] μ2
        refine z_rcs hc hH 1 (pc' := 56) (lv' := [(0, .ref 50), (1, .int (nI cc))]) (st' := [.ref 50]) (μ' := μ2) (by rfl) ?_
        refine zq_call hc (z_cx_ok hH (by rfl)) (a_use (i := 123) (K := ak_123) rfl (by omega) [.ref 50] _ (aArg_pre ⟨⟨50, by decide, rfl⟩, trivial⟩ rfl) H2) (by decide +kernel) (fun r8 μ8 hq => ?_)
        obtain ⟨q8, z8, rfl⟩ := hq
        have g8 : GW μ8 := GW_keep g2 z8 (by decide)
        have f8 : a_Fz md_G μ μ8 := a_Fz_tr (by decide +kernel) f2 z8
        have r60 : ∀ j, μ8.1 60 j = μ2.1 60 j := fun j => a_Fz_at z8 60 j (a_md_row (by decide +kernel))
        have r64 : ∀ j, μ8.1 64 j = μ2.1 64 j := fun j => a_Fz_at z8 64 j (a_md_row (by decide +kernel))
        have r66 : ∀ j, μ8.1 66 j = μ2.1 66 j := fun j => a_Fz_at z8 66 j (a_md_row (by decide +kernel))
        have c45 : μ8.1 50 45 = μ2.1 50 45 := a_Fz_at z8 50 45 (by decide +kernel)
        have c46 : μ8.1 50 46 = μ2.1 50 46 := a_Fz_at z8 50 46 (by decide +kernel)
        have c47 : μ8.1 50 47 = μ2.1 50 47 := a_Fz_at z8 50 47 (by decide +kernel)
        have c48 : μ8.1 50 48 = μ2.1 50 48 := a_Fz_at z8 50 48 (by decide +kernel)
        show Z 0 59 [(0, .ref 50), (1, .int (nI cc))] [] μ8
        refine z_rcs hc hH 5 (pc' := 66) (lv' := [(0, .ref 50), (1, .int (nI cc))]) (st' := [.int ((μ8.1 50 47) + 1), .ref 50]) (μ' := μ8) (by rfl) ?_
        rw [c47, e47, nI_1]
        refine z_rcs hc hH 5 (pc' := 75) (lv' := [(0, .ref 50), (1, .int (nI cc))]) (st' := [.int 1, .int (μ8.1 50 45), .ref 50]) (μ' := z_ui μ8 50 47 (nI (t + 1))) (by rfl) ?_
        rw [c45, e45]
        have q7 : a_H (z_ui μ8 50 47 (nI (t + 1))) := a_H_ui q8 (show bI 0 4 _ from bd_nI (by omega) ⟨by omega, by omega⟩)
        refine zq_call hc (z_cx_ok hH (by rfl)) (fc_X7_draws1 d' (by omega) (z_ui μ8 50 47 (nI (t + 1))) a t ha4 ht (by rw [z_ui_rd, if_neg (by omega), c48, e48]) q7) (by decide +kernel) (fun r7 μ7 hq => ?_)
        obtain ⟨rfl, k1, k2, k3, k4, k5, k6, k7, c, hc4, k8, k9⟩ := hq
        have hG : GP μ7 := by
          have n46 := nI_toInt (n := t) (by omega)
          have n47 := nI_toInt (n := t + 1) (by omega)
          have e7 : ∀ r j, r ≠ 50 → (z_ui μ8 50 47 (nI (t + 1))).1 r j = μ8.1 r j := fun r j h => by rw [z_ui_rd, if_neg (fun z => h z.1)]
          have eM : sM (z_ui μ8 50 47 (nI (t + 1))) = sM μ2 := by unfold sM mI; simp only [e7 64 _ (by decide), r64]
          have eR : sR (z_ui μ8 50 47 (nI (t + 1))) = sR μ2 := by unfold sR rI; simp only [e7 66 _ (by decide), r66]
          refine GP_drawn ha4 hc4 k2 q7 (gh2.keep (fun j => by rw [e7 60 _ (by decide), r60]) (fun j => by rw [e7 64 _ (by decide), r64])) k3 k4 k8 k9 ?_ (by rw [k6, z_ui_rd, if_pos ⟨rfl, rfl⟩]) ?_
          · rw [k7, z_ui_rd, if_neg (by omega), c46, z_ui_rd, if_pos ⟨rfl, rfl⟩, n47]; omega
          · rw [k7, z_ui_rd, if_neg (by omega), c46, k6, n47, eM, eR]; omega
        have hE : zPG μ (some (.int 1)) μ7 := ⟨⟨1, rfl⟩, ⟨k1, GW_keep (μ := z_ui μ8 50 47 (nI (t + 1))) (GW_ne g8 (by decide +kernel)) k2 (by decide +kernel), fun _ => hG⟩, a_Fz_tr (by decide +kernel) (a_Fz_ui f8 (by decide +kernel)) k2⟩
        show Z 0 78 [(0, .ref 50), (1, .int (nI cc))] [] μ7
        refine z_rcs hc hH 1 (pc' := 79) (lv' := [(0, .ref 50), (1, .int (nI cc))]) (st' := [.int 1]) (μ' := μ7) (by rfl) ?_
        exact hr 0 79 _ _ _ (some (.int 1)) (by decide +kernel) (by rfl) hE
      · have h1 := cn_eq.mp h1
        refine z_rcs hc hH 1 (pc' := 33) (lv' := [(0, .ref 50), (1, .int (nI cc))]) (st' := [.int 0]) (μ' := z_ui μ 50 0 0) (by rfl) ?_
        exact hr 0 33 _ _ _ (some (.int 0)) (by decide +kernel) (z_rx_ok hH (by rfl)) (⟨⟨0, rfl⟩, h0, fG0 μ⟩)
    · show Z 0 16 [(0, .ref 50), (1, .int k)] [.int 0] (z_ui μ 50 0 0)
      refine z_rcs hc hH 2 (pc' := 33) (lv' := [(0, .ref 50), (1, .int k)]) (st' := [.int 0]) (μ' := z_ui μ 50 0 0) (by rfl) ?_
      exact hr 0 33 _ _ _ (some (.int 0)) (by decide +kernel) (z_rx_ok hH (by rfl)) (⟨⟨0, rfl⟩, h0, fG0 μ⟩)
  · show Z 0 9 [(0, .ref 50), (1, .int k)] [.int 0] (z_ui μ 50 0 0)
    refine z_rcs hc hH 2 (pc' := 33) (lv' := [(0, .ref 50), (1, .int k)]) (st' := [.int 0]) (μ' := z_ui μ 50 0 0) (by rfl) ?_
    exact hr 0 33 _ _ _ (some (.int 0)) (by decide +kernel) (z_rx_ok hH (by rfl)) (⟨⟨0, rfl⟩, h0, fG0 μ⟩)
theorem zh_X7_four : zH mi_X7_four zt_X7_four 79 7 2 := hh_X7_four
set_option maxRecDepth 100000 in
theorem fc_X7_four (d : Nat) (hd : 704 ≤ d) (μ : zM) (s : Int32) (hi : GI μ) : z_C d mi_X7_four [.ref 50, .int s] μ (zPG μ) := by
  refine z_C_in (by decide) (by omega) (fun d' Z ed hc hr => ?_)
  have hH := zh_X7_four
  have h0 := hi.put
  refine z_rcs hc hH 5 (pc' := 7) (lv' := [(0, .ref 50), (1, .int s)]) (st' := [.int s, .ref 50]) (μ' := z_ui μ 50 0 0) (by rfl) ?_
  refine zq_call hc (z_cx_ok hH (by rfl)) (fc_X7_mayClaim d' (by omega) (z_ui μ 50 0 0) s h0.1) (by decide +kernel) (fun r9 μ9 hq => ?_)
  obtain ⟨hμ9, hq⟩ := hq
  rw [hμ9]
  clear hμ9 μ9
  obtain ⟨rfl, y1, y3, y5, y6⟩ | rfl := hq
  · show Z 0 10 [(0, .ref 50), (1, .int s)] [.int 1] (z_ui μ 50 0 0)
    obtain ⟨a, ha4, rfl⟩ := vp_in_of y5 (by decide)
    have y1 : μ.1 50 44 = 2 := y1
    have hP := hi.2.2 (by rw [y1]; decide)
    have hP0 : GP (z_ui μ 50 0 0) := h0.2.2 (by show ¬ μ.1 50 44 = 0; rw [y1]; decide)
    have hn1 : ¬ μ.1 50 44 = 1 := by rw [y1]; decide
    obtain ⟨cc, hcc, ec⟩ := a_nI (x := μ.1 50 49) (n := 34) (hP.2.2.2.2.1 (fun q => absurd q hn1)) (by have : (μ.1 50 49).toInt ≤ 33 := (hi.1 50 49).2; omega) (by decide)
    refine z_rcs hc hH 5 (pc' := 19) (lv' := [(0, .ref 50), (1, .int (nI a))]) (st' := [.int (μ.1 50 49), .int (nI a), .ref 50]) (μ' := z_ui μ 50 0 0) (by rfl) ?_
    rw [ec]
    refine zq_call hc (z_cx_ok hH (by rfl)) (fc_X7_has_ d' (by omega) (z_ui μ 50 0 0) a cc ha4 hcc) (by decide +kernel) (fun r9 μ9 hq => ?_)
    obtain ⟨hμ9, rfl⟩ := hq
    rw [hμ9]
    clear hμ9 μ9
    show Z 0 22 [(0, .ref 50), (1, .int (nI a))] [.int (μ.1 60 (34 * a + cc))] (z_ui μ 50 0 0)
    refine z_rcs hc hH 1 (pc' := 23) (lv' := [(0, .ref 50), (1, .int (nI a))]) (st' := [.int 3, .int (μ.1 60 (34 * a + cc))]) (μ' := z_ui μ 50 0 0) (by rfl) ?_
    refine zq_ic hc hH (by rfl) (tg := 34) (by rfl) (fun h1 => ?_) (fun h1 => ?_)
    · have h1 := cm_lt.mp h1
      refine z_rcs hc hH 1 (pc' := 35) (lv' := [(0, .ref 50), (1, .int (nI a))]) (st' := [.int 0]) (μ' := z_ui μ 50 0 0) (by rfl) ?_
      exact hr 0 35 _ _ _ (some (.int 0)) (by decide +kernel) (z_rx_ok hH (by rfl)) (⟨⟨0, rfl⟩, h0, fG0 μ⟩)
    · have h1 := cn_lt.mp h1
      refine z_rcs hc hH 3 (pc' := 31) (lv' := [(0, .ref 50), (1, .int (nI a))]) (st' := [.int 4, .int (μ.1 50 47)]) (μ' := z_ui μ 50 0 0) (by rfl) ?_
      refine zq_ic hc hH (by rfl) (tg := 36) (by rfl) (fun h2 => ?_) (fun h2 => ?_)
      · have h2 := cm_ne.mp h2
        refine z_rcs hc hH 1 (pc' := 37) (lv' := [(0, .ref 50), (1, .int (nI a))]) (st' := [.ref 50]) (μ' := z_ui μ 50 0 0) (by rfl) ?_
        refine zq_call hc (z_cx_ok hH (by rfl)) (a_use (i := 122) (K := ak_122) rfl (by omega) [.ref 50] _ (aArg_pre ⟨⟨50, by decide, rfl⟩, trivial⟩ rfl) h0.1) (by decide +kernel) (fun r9 μ9 hq => ?_)
        obtain ⟨hB1, q3, rfl⟩ := hq
        have hB2 := GW_keep h0.2.1 q3 (by decide)
        have hP9 := hP0.keep q3 (by decide)
        have fB : a_Fz md_G μ μ9 := a_Fz_tr (by decide +kernel) (fG0 μ) q3
        have e44 : μ9.1 50 44 = μ.1 50 44 := by rw [a_Fz_at q3 50 44 (by decide +kernel)]; rfl
        have e46 : μ9.1 50 46 = μ.1 50 46 := by rw [a_Fz_at q3 50 46 (by decide +kernel)]; rfl
        have e47 : μ9.1 50 47 = μ.1 50 47 := by rw [a_Fz_at q3 50 47 (by decide +kernel)]; rfl
        have e49 : μ9.1 50 49 = nI cc := by rw [a_Fz_at q3 50 49 (by decide +kernel)]; exact ec
        have r60 : ∀ j, μ9.1 60 j = μ.1 60 j := fun j => by rw [a_Fz_at q3 60 j (a_md_row (by decide +kernel))]; rfl
        have hfl := hP9.flat (by rw [e44]; exact hn1)
        obtain ⟨q, hq4, eq⟩ := sets_nI hB1 a
        have tq := nI_toInt (n := q) (by omega)
        have l1 := hfl.le ha4 hcc
        have l2 : hs μ9 a + 3 * mI μ9 a ≤ 13 := hfl.2 a ha4
        have l5 : mI μ9 a = q := by unfold mI; rw [eq, tq]
        show Z 0 40 [(0, .ref 50), (1, .int (nI a))] [] μ9
        refine z_rcs hc hH 5 (pc' := 48) (lv' := [(0, .ref 50), (1, .int (nI a))]) (st' := [.int (-3), .int (μ9.1 50 49), .int (nI a), .ref 50]) (μ' := μ9) (by rfl) ?_
        have l4 : 3 ≤ hI μ9 (34 * a + cc) := by
          have z := h1
          rw [Int32.not_lt, Int32.le_iff_toInt_le] at z
          unfold hI; rw [r60]; exact z
        have hq : q < 4 := by omega
        rw [e49]
        refine zq_call hc (z_cx_ok hH (by rfl)) (fc_X7_gives d' (by omega) μ9 a cc (-3) ha4 hcc) (by decide +kernel) (fun r8 μ8 hq => ?_)
        obtain ⟨rfl, rfl⟩ := hq
        show Z 0 51 [(0, .ref 50), (1, .int (nI a))] [] (z_giv μ9 a cc (-3))
        refine z_rcs hc hH 5 (pc' := 58) (lv' := [(0, .ref 50), (1, .int (nI a))]) (st' := [.int ((z_giv μ9 a cc (-3)).1 50 49), .int 2, .int (nI a), .ref 50]) (μ' := (z_giv μ9 a cc (-3))) (by rfl) ?_
        rw [show (z_giv μ9 a cc (-3)).1 50 49 = nI cc from e49]
        refine zq_call hc (z_cx_ok hH (by rfl)) (fc_X7_lays d' (by omega) (z_giv μ9 a cc (-3)) a q 2 (nI cc) ha4 hq eq) (by decide +kernel) (fun r8 μ8 hq => ?_)
        obtain ⟨rfl, rfl⟩ := hq
        have H2 := a_H_lys (μ := μ9) (a := a) (c := cc) (q := q) (n := -3) (so := 2) (k := nI cc) hB1 hq
        have g2 := GW_lys (a := a) (c := cc) (q := q) (n := -3) (so := 2) (k := nI cc) hB2
        have f2 := fG_lys (a := a) (c := cc) (q := q) (n := -3) (so := 2) (k := nI cc) (fB)
        have i60 : ∀ j, (z_lys (z_giv (μ9) a cc (-3)) a q (2) (nI cc)).1 60 j = if j = 34 * a + cc then (μ9).1 60 j + (-3) else (μ9).1 60 j := fun j => by rw [lys_ne _ _ _ _ _ (by decide) (by decide) (by decide), giv_60]
        have i64 : ∀ j, (z_lys (z_giv (μ9) a cc (-3)) a q (2) (nI cc)).1 64 j = if j = a then nI (q + 1) else (μ9).1 64 j := fun j => by rw [lys_64, giv_ne _ _ _ _ (by decide)]
        have i66 : ∀ j, (z_lys (z_giv (μ9) a cc (-3)) a q (2) (nI cc)).1 66 j = (μ9).1 66 j := fun j => by rw [lys_ne _ _ _ _ _ (by decide) (by decide) (by decide), giv_ne _ _ _ _ (by decide)]
        have i50 : ∀ j, (z_lys (z_giv (μ9) a cc (-3)) a q (2) (nI cc)).1 50 j = (μ9).1 50 j := fun j => by rw [lys_ne _ _ _ _ _ (by decide) (by decide) (by decide), giv_ne _ _ _ _ (by decide)]
        generalize z_lys (z_giv (μ9) a cc (-3)) a q (2) (nI cc) = μ2 at H2 g2 f2 i60 i64 i66 i50 ⊢
        have gh2 : GH μ2 (fun _ => 13) := GH_lays (μ := μ9) hfl (fun _ _ => by decide) hB1 ha4 hcc hq eq (by decide) (by show 0 ≤ hI μ9 (34 * a + cc) + -3; omega) (by decide) (fun _ _ _ => Int.le_refl _) i60 i64
        have hM2 := sM_lay (μ := μ9) ha4 hq eq i64
        have hR3 : sR μ2 = sR μ9 := by unfold sR rI; simp only [i66]
        have b47 : 0 ≤ (μ.1 50 47).toInt ∧ (μ.1 50 47).toInt ≤ 4 := hi.1 50 47
        have b46 : 0 ≤ (μ.1 50 46).toInt ∧ (μ.1 50 46).toInt ≤ 122 := hi.1 50 46
        have hlt := leftp b46 b47 y3
        have n4 : (μ.1 50 47).toInt ≠ 4 := fun z => h2 (Int32.toInt_inj.mp z)
        obtain ⟨t, ht, et⟩ := a_nI (x := μ.1 50 47) (n := 4) b47.1 (by omega) (by decide)
        have tt := nI_toInt (n := t) (by omega)
        have e48 : μ2.1 50 48 = nI t := (i50 48).trans (hP9.2.2.1.trans (e47.trans et))
        have hR := hP9.2.2.2.2.2
        rw [if_neg (by rw [e44]; exact hn1), hP9.2.2.1, e47, et, tt] at hR
        have e47 : μ2.1 50 47 = nI t := (i50 47).trans (e47.trans et)
        have e46b : μ2.1 50 46 = μ9.1 50 46 := i50 46
        have h46 : (μ2.1 50 46).toInt + t < 122 := by rw [e46b, e46]; rw [et, tt] at hlt; exact hlt
        have hR2 : sR μ2 + 53 ≤ (μ2.1 50 46).toInt + (t + 1) + sM μ2 := by rw [e46b, hR3, hM2]; omega
        clear r60 e44
        show Z 0 61 [(0, .ref 50), (1, .int (nI a))] [] μ2
        refine z_rcs hc hH 1 (pc' := 62) (lv' := [(0, .ref 50), (1, .int (nI a))]) (st' := [.ref 50]) (μ' := μ2) (by rfl) ?_
        refine zq_call hc (z_cx_ok hH (by rfl)) (a_use (i := 123) (K := ak_123) rfl (by omega) [.ref 50] _ (aArg_pre ⟨⟨50, by decide, rfl⟩, trivial⟩ rfl) H2) (by decide +kernel) (fun r8 μ8 hq => ?_)
        obtain ⟨q8, z8, rfl⟩ := hq
        have g8 : GW μ8 := GW_keep g2 z8 (by decide)
        have f8 : a_Fz md_G μ μ8 := a_Fz_tr (by decide +kernel) f2 z8
        have r60 : ∀ j, μ8.1 60 j = μ2.1 60 j := fun j => a_Fz_at z8 60 j (a_md_row (by decide +kernel))
        have r64 : ∀ j, μ8.1 64 j = μ2.1 64 j := fun j => a_Fz_at z8 64 j (a_md_row (by decide +kernel))
        have r66 : ∀ j, μ8.1 66 j = μ2.1 66 j := fun j => a_Fz_at z8 66 j (a_md_row (by decide +kernel))
        have c45 : μ8.1 50 45 = μ2.1 50 45 := a_Fz_at z8 50 45 (by decide +kernel)
        have c46 : μ8.1 50 46 = μ2.1 50 46 := a_Fz_at z8 50 46 (by decide +kernel)
        have c47 : μ8.1 50 47 = μ2.1 50 47 := a_Fz_at z8 50 47 (by decide +kernel)
        have c48 : μ8.1 50 48 = μ2.1 50 48 := a_Fz_at z8 50 48 (by decide +kernel)
        show Z 0 65 [(0, .ref 50), (1, .int (nI a))] [] μ8
        refine z_rcs hc hH 5 (pc' := 72) (lv' := [(0, .ref 50), (1, .int (nI a))]) (st' := [.int ((μ8.1 50 47) + 1), .ref 50]) (μ' := μ8) (by rfl) ?_
        rw [c47, e47, nI_1]
        refine z_rcs hc hH 4 (pc' := 78) (lv' := [(0, .ref 50), (1, .int (nI a))]) (st' := [.int 1, .int (nI a), .ref 50]) (μ' := z_ui μ8 50 47 (nI (t + 1))) (by rfl) ?_
        have q7 : a_H (z_ui μ8 50 47 (nI (t + 1))) := a_H_ui q8 (show bI 0 4 _ from bd_nI (by omega) ⟨by omega, by omega⟩)
        refine zq_call hc (z_cx_ok hH (by rfl)) (fc_X7_draws1 d' (by omega) (z_ui μ8 50 47 (nI (t + 1))) a t ha4 ht (by rw [z_ui_rd, if_neg (by omega), c48, e48]) q7) (by decide +kernel) (fun r7 μ7 hq => ?_)
        obtain ⟨rfl, k1, k2, k3, k4, k5, k6, k7, c, hc4, k8, k9⟩ := hq
        have hG : GP μ7 := by
          have n46 := nI_toInt (n := t) (by omega)
          have n47 := nI_toInt (n := t + 1) (by omega)
          have e7 : ∀ r j, r ≠ 50 → (z_ui μ8 50 47 (nI (t + 1))).1 r j = μ8.1 r j := fun r j h => by rw [z_ui_rd, if_neg (fun z => h z.1)]
          have eM : sM (z_ui μ8 50 47 (nI (t + 1))) = sM μ2 := by unfold sM mI; simp only [e7 64 _ (by decide), r64]
          have eR : sR (z_ui μ8 50 47 (nI (t + 1))) = sR μ2 := by unfold sR rI; simp only [e7 66 _ (by decide), r66]
          refine GP_drawn ha4 hc4 k2 q7 (gh2.keep (fun j => by rw [e7 60 _ (by decide), r60]) (fun j => by rw [e7 64 _ (by decide), r64])) k3 k4 k8 k9 ?_ (by rw [k6, z_ui_rd, if_pos ⟨rfl, rfl⟩]) ?_
          · rw [k7, z_ui_rd, if_neg (by omega), c46, z_ui_rd, if_pos ⟨rfl, rfl⟩, n47]; omega
          · rw [k7, z_ui_rd, if_neg (by omega), c46, k6, n47, eM, eR]; omega
        have hE : zPG μ (some (.int 1)) μ7 := ⟨⟨1, rfl⟩, ⟨k1, GW_keep (μ := z_ui μ8 50 47 (nI (t + 1))) (GW_ne g8 (by decide +kernel)) k2 (by decide +kernel), fun _ => hG⟩, a_Fz_tr (by decide +kernel) (a_Fz_ui f8 (by decide +kernel)) k2⟩
        show Z 0 81 [(0, .ref 50), (1, .int (nI a))] [] μ7
        refine z_rcs hc hH 1 (pc' := 82) (lv' := [(0, .ref 50), (1, .int (nI a))]) (st' := [.int 1]) (μ' := μ7) (by rfl) ?_
        exact hr 0 82 _ _ _ (some (.int 1)) (by decide +kernel) (by rfl) hE
      · have h2 := cn_ne.mp h2
        refine z_rcs hc hH 1 (pc' := 35) (lv' := [(0, .ref 50), (1, .int (nI a))]) (st' := [.int 0]) (μ' := z_ui μ 50 0 0) (by rfl) ?_
        exact hr 0 35 _ _ _ (some (.int 0)) (by decide +kernel) (z_rx_ok hH (by rfl)) (⟨⟨0, rfl⟩, h0, fG0 μ⟩)
  · show Z 0 10 [(0, .ref 50), (1, .int s)] [.int 0] (z_ui μ 50 0 0)
    refine z_rcs hc hH 2 (pc' := 35) (lv' := [(0, .ref 50), (1, .int s)]) (st' := [.int 0]) (μ' := z_ui μ 50 0 0) (by rfl) ?_
    exact hr 0 35 _ _ _ (some (.int 0)) (by decide +kernel) (z_rx_ok hH (by rfl)) (⟨⟨0, rfl⟩, h0, fG0 μ⟩)
/-! three -/
theorem i_22 : (-2 : Int32) + 2 = 0 := by rw [Int32.add_comm, ← Int32.sub_eq_add_neg, Int32.sub_self]
theorem giv_back (μ : zM) (a c : Nat) {n m : Int32} (h : n + m = 0) : z_giv (z_giv μ a c n) a c m = μ := by
  refine Prod.ext (funext fun r => funext fun j => ?_) rfl
  by_cases hr : r = 60
  · subst hr
    rw [giv_60, giv_60]
    by_cases e : j = 34 * a + c
    · rw [if_pos e, if_pos e, Int32.add_assoc, h, Int32.add_zero]
    · rw [if_neg e, if_neg e]
  · rw [giv_ne _ _ _ _ hr, giv_ne _ _ _ _ hr]
theorem GH_lay4 {μ μ' : zM} {lim : Nat → Int} {a c q : Nat} {n : Int32} (h : GH μ lim) (hl : ∀ s, s < 4 → lim s ≤ 14) (hH : a_H μ) (ha : a < 4) (hc : c < 34) (hq : q < 4) (e : μ.1 64 a = nI q) (hn : -4 ≤ n.toInt ∧ n.toInt ≤ 4) (h0 : 0 ≤ hI μ (34 * a + c) + n.toInt) (h13 : lim a + n.toInt + 3 ≤ 14) (ho : ∀ s, s < 4 → s ≠ a → lim s ≤ 13) (e60 : ∀ j, μ'.1 60 j = if j = 34 * a + c then μ.1 60 j + n else μ.1 60 j) (e64 : ∀ i, μ'.1 64 i = if i = a then nI (q + 1) else μ.1 64 i) : GH μ' (fun s => if s = a then 14 else 13) := by
  have hr := HR_of h hl (fun s _ => mI_nn hH s) ha hc hn e60
  have t0 := nI_toInt (n := q) (by omega)
  have t1 := nI_toInt (n := q + 1) (by omega)
  have ma : mI μ a = q := by unfold mI; rw [e, t0]
  have ma' : mI μ' a = q + 1 := by unfold mI; rw [e64, if_pos rfl, t1]; omega
  have n1 := h.2 a ha
  refine h.upd hr ha hc h0 (fun s _ hs => by unfold mI; rw [e64, if_neg hs]) ?_ (fun s h1 h2 => by rw [if_neg h2]; exact ho s h1 h2)
  rw [ma']
  rw [ma] at n1
  rw [if_pos rfl]
  omega
theorem GP_claimed {μ9 μ' : zM} {a : Nat} (hP : GP μ9) (hn : ¬ μ9.1 50 44 = 1) (gh : GH μ' (fun s => if s = a then 14 else 13)) (e44 : μ'.1 50 44 = 1) (e45 : μ'.1 50 45 = nI a) (e57 : μ'.1 50 57 = 1) (c46 : μ'.1 50 46 = μ9.1 50 46) (c47 : μ'.1 50 47 = μ9.1 50 47) (c48 : μ'.1 50 48 = μ9.1 50 48) (r66 : ∀ j, μ'.1 66 j = μ9.1 66 j) (hM : sM μ' = sM μ9 + 1) : GP μ' := by
  obtain ⟨h1, h2, h3, h4, h5, h6⟩ := hP
  rw [if_neg hn] at h6
  have eR : sR μ' = sR μ9 := by unfold sR rI; simp only [r66]
  refine ⟨gh.lim (fun s _ => ?_), by rw [c46, c47]; exact h2, by rw [c48, c47]; exact h3, fun q => ?_, fun q => ?_, ?_⟩
  · unfold glim
    by_cases e : s = a
    · rw [if_pos e, if_pos ⟨e44, by rw [e45, e]⟩]; exact Int.le_refl _
    · rw [if_neg e]; split <;> decide
  · rw [e44] at q
    exact absurd q (by decide)
  · have := q e44
    rw [e57] at this
    exact absurd this (by decide)
  · rw [if_pos e44, eR, c46, c48, hM]
    omega
theorem zh_X7_three : zH mi_X7_three zt_X7_three 79 7 3 := hh_X7_three
set_option maxRecDepth 2000 in
theorem fc_X7_three (d : Nat) (hd : 704 ≤ d) (μ : zM) (s : Int32) (hi : GI μ) : z_C d mi_X7_three [.ref 50, .int s] μ (zPG μ) := by
  refine z_C_in (by decide) (by omega) (fun d' Z ed hc hr => ?_)
  have hH := zh_X7_three
  have h0 := hi.put
  refine z_rcs hc hH 5 (pc' := 7) (lv' := [(0, .ref 50), (1, .int s)]) (st' := [.int s, .ref 50]) (μ' := z_ui μ 50 0 0) (by rfl) ?_
  refine zq_call hc (z_cx_ok hH (by rfl)) (fc_X7_mayClaim d' (by omega) (z_ui μ 50 0 0) s h0.1) (by decide +kernel) (fun r9 μ9 hq => ?_)
  obtain ⟨hμ9, hq⟩ := hq
  rw [hμ9]
  clear hμ9 μ9
  obtain ⟨rfl, y1, y3, y5, y6⟩ | rfl := hq
  · show Z 0 10 [(0, .ref 50), (1, .int s)] [.int 1] (z_ui μ 50 0 0)
    obtain ⟨a, ha4, rfl⟩ := vp_in_of y5 (by decide)
    have y1 : μ.1 50 44 = 2 := y1
    have hP := hi.2.2 (by rw [y1]; decide)
    have hP0 : GP (z_ui μ 50 0 0) := h0.2.2 (by show ¬ μ.1 50 44 = 0; rw [y1]; decide)
    have hn1 : ¬ μ.1 50 44 = 1 := by rw [y1]; decide
    obtain ⟨cc, hcc, ec⟩ := a_nI (x := μ.1 50 49) (n := 34) (hP.2.2.2.2.1 (fun q => absurd q hn1)) (by have : (μ.1 50 49).toInt ≤ 33 := (hi.1 50 49).2; omega) (by decide)
    refine z_rcs hc hH 5 (pc' := 19) (lv' := [(0, .ref 50), (1, .int (nI a))]) (st' := [.int (μ.1 50 49), .int (nI a), .ref 50]) (μ' := z_ui μ 50 0 0) (by rfl) ?_
    rw [ec]
    refine zq_call hc (z_cx_ok hH (by rfl)) (fc_X7_has_ d' (by omega) (z_ui μ 50 0 0) a cc ha4 hcc) (by decide +kernel) (fun r9 μ9 hq => ?_)
    obtain ⟨hμ9, rfl⟩ := hq
    rw [hμ9]
    clear hμ9 μ9
    show Z 0 22 [(0, .ref 50), (1, .int (nI a))] [.int (μ.1 60 (34 * a + cc))] (z_ui μ 50 0 0)
    refine z_rcs hc hH 1 (pc' := 23) (lv' := [(0, .ref 50), (1, .int (nI a))]) (st' := [.int 2, .int (μ.1 60 (34 * a + cc))]) (μ' := z_ui μ 50 0 0) (by rfl) ?_
    refine zq_ic hc hH (by rfl) (tg := 28) (by rfl) (fun h1 => ?_) (fun h1 => ?_)
    · have h1 := cm_ge.mp h1
      refine z_rcs hc hH 3 (pc' := 33) (lv' := [(0, .ref 50), (1, .int (nI a))]) (st' := [.int (μ.1 50 49), .ref 50]) (μ' := z_ui μ 50 0 0) (by rfl) ?_
      rw [ec]
      refine z_rcs hc hH 1 (pc' := 36) (lv' := [(0, .ref 50), (1, .int (nI a))]) (st' := []) (μ' := z_ui (z_ui μ 50 0 0) 50 50 (nI cc)) (by rfl) ?_
      refine z_rcs hc hH 3 (pc' := 41) (lv' := [(0, .ref 50), (1, .int (nI a))]) (st' := []) (μ' := z_ui (z_ui (z_ui μ 50 0 0) 50 50 (nI cc)) 50 51 (-1)) (by rfl) ?_
      refine z_rcs hc hH 5 (pc' := 49) (lv' := [(0, .ref 50), (1, .int (nI a))]) (st' := [.int (-2), .int (μ.1 50 49), .int (nI a), .ref 50]) (μ' := z_ui (z_ui (z_ui μ 50 0 0) 50 50 (nI cc)) 50 51 (-1)) (by rfl) ?_
      rw [ec]
      have hN : GI (z_ui (z_ui (z_ui μ 50 0 0) 50 50 (nI cc)) 50 51 (-1)) := ⟨a_H_ui (a_H_ui h0.1 (bI_top _)) (bI_top _), GW_ne (GW_ne h0.2.1 (by decide +kernel)) (by decide +kernel), fun q => (h0.2.2 q).keep (md := [(50, 50), (50, 51)]) (a_Fz_ui (a_Fz_ui (a_Fz_rf _ _) (by decide +kernel)) (by decide +kernel)) (by decide +kernel)⟩
      have fN : a_Fz md_G μ (z_ui (z_ui (z_ui μ 50 0 0) 50 50 (nI cc)) 50 51 (-1)) := a_Fz_ui (a_Fz_ui (fG0 μ) (by decide +kernel)) (by decide +kernel)
      have cN : (z_ui (z_ui (z_ui μ 50 0 0) 50 50 (nI cc)) 50 51 (-1)).1 50 49 = nI cc := ec
      have pN : (z_ui (z_ui (z_ui μ 50 0 0) 50 50 (nI cc)) 50 51 (-1)).1 50 44 = μ.1 50 44 := rfl
      have hN60 : ∀ j, (z_ui (z_ui (z_ui μ 50 0 0) 50 50 (nI cc)) 50 51 (-1)).1 60 j = μ.1 60 j := fun _ => rfl
      have hPN : GP (z_ui (z_ui (z_ui μ 50 0 0) 50 50 (nI cc)) 50 51 (-1)) := hN.2.2 (by rw [pN, y1]; decide)
      have hlN : (z_ui (z_ui (z_ui μ 50 0 0) 50 50 (nI cc)) 50 51 (-1)).1 50 46 = μ.1 50 46 ∧ (z_ui (z_ui (z_ui μ 50 0 0) 50 50 (nI cc)) 50 51 (-1)).1 50 47 = μ.1 50 47 := ⟨rfl, rfl⟩
      generalize z_ui (z_ui (z_ui μ 50 0 0) 50 50 (nI cc)) 50 51 (-1) = μn at hN fN cN pN hN60 hPN hlN ⊢
      refine zq_call hc (z_cx_ok hH (by rfl)) (fc_X7_gives d' (by omega) μn a cc (-2) ha4 hcc) (by decide +kernel) (fun r8 μ8 hq => ?_)
      obtain ⟨rfl, rfl⟩ := hq
      have hg1 : a_H (z_giv μn a cc (-2)) := a_H_ui hN.1 (bI_top _)
      have hback : z_giv (z_giv μn a cc (-2)) a cc 2 = μn := giv_back μn a cc i_22
      have cM : (z_giv μn a cc (-2)).1 50 49 = nI cc := (giv_ne μn a cc (-2) (by decide) 49).trans cN
      generalize z_giv μn a cc (-2) = μm at hg1 hback cM ⊢
      show Z 0 52 [(0, .ref 50), (1, .int (nI a))] [] μm
      refine z_rcs hc hH 2 (pc' := 54) (lv' := [(0, .ref 50), (1, .int (nI a))]) (st' := [.int (nI a), .ref 50]) (μ' := μm) (by rfl) ?_
      refine zq_call hc (z_cx_ok hH (by rfl)) (bs_X7_canDiscard (by omega) [.ref 50, .int (nI a)] _ (aArg_pre ⟨⟨50, by decide, rfl⟩, ⟨_, rfl, (show bI 0 3 _ from bd_nI (by omega) ⟨by omega, by omega⟩)⟩, trivial⟩ rfl) hg1) (by decide +kernel) (fun r8 μ8 hq => ?_)
      obtain ⟨-, hz, hr9⟩ := hq
      obtain ⟨v9, rfl, x9, rfl, -⟩ := hr9
      rw [a_Fz_nil hz]
      clear hz μ8
      show Z 0 57 [(0, .ref 50), (1, .int (nI a))] [.int x9] μm
      refine z_rcs hc hH 3 (pc' := 60) (lv' := [(2, .int x9), (0, .ref 50), (1, .int (nI a))]) (st' := [.int (nI a), .ref 50]) (μ' := μm) (by rfl) ?_
      refine z_rcs hc hH 3 (pc' := 65) (lv' := [(2, .int x9), (0, .ref 50), (1, .int (nI a))]) (st' := [.int 2, .int (μm.1 50 49), .int (nI a), .ref 50]) (μ' := μm) (by rfl) ?_
      rw [cM]
      refine zq_call hc (z_cx_ok hH (by rfl)) (fc_X7_gives d' (by omega) μm a cc 2 ha4 hcc) (by decide +kernel) (fun r8 μ8 hq => ?_)
      obtain ⟨rfl, rfl⟩ := hq
      rw [hback]
      show Z 0 68 [(2, .int x9), (0, .ref 50), (1, .int (nI a))] [] μn
      refine z_rcs hc hH 1 (pc' := 69) (lv' := [(2, .int x9), (0, .ref 50), (1, .int (nI a))]) (st' := [.int x9]) (μ' := μn) (by rfl) ?_
      refine zq_if hc hH (by rfl) (tg := 74) (by rfl) (fun h2 => ?_) (fun h2 => ?_)
      · have h2 := cm_ne.mp h2
        refine z_rcs hc hH 1 (pc' := 75) (lv' := [(2, .int x9), (0, .ref 50), (1, .int (nI a))]) (st' := [.ref 50]) (μ' := μn) (by rfl) ?_
        refine zq_call hc (z_cx_ok hH (by rfl)) (a_use (i := 122) (K := ak_122) rfl (by omega) [.ref 50] _ (aArg_pre ⟨⟨50, by decide, rfl⟩, trivial⟩ rfl) hN.1) (by decide +kernel) (fun r9 μ9 hq => ?_)
        obtain ⟨hB1, q3, rfl⟩ := hq
        have hB2 := GW_keep hN.2.1 q3 (by decide)
        have hP9 := hPN.keep q3 (by decide)
        have fB : a_Fz md_G μ μ9 := a_Fz_tr (by decide +kernel) fN q3
        have e44 : ¬ μ9.1 50 44 = 1 := by rw [a_Fz_at q3 50 44 (by decide +kernel), pN]; exact hn1
        have e49 : μ9.1 50 49 = nI cc := by rw [a_Fz_at q3 50 49 (by decide +kernel)]; exact cN
        have r60 : ∀ j, μ9.1 60 j = μ.1 60 j := fun j => by rw [a_Fz_at q3 60 j (a_md_row (by decide +kernel)), hN60]
        have hfl := hP9.flat e44
        obtain ⟨q, hq4, eq⟩ := sets_nI hB1 a
        have tq := nI_toInt (n := q) (by omega)
        have l1 := hfl.le ha4 hcc
        have l2 : hs μ9 a + 3 * mI μ9 a ≤ 13 := hfl.2 a ha4
        have l5 : mI μ9 a = q := by unfold mI; rw [eq, tq]
        show Z 0 78 [(2, .int x9), (0, .ref 50), (1, .int (nI a))] [] μ9
        refine z_rcs hc hH 5 (pc' := 86) (lv' := [(2, .int x9), (0, .ref 50), (1, .int (nI a))]) (st' := [.int (-2), .int (μ9.1 50 49), .int (nI a), .ref 50]) (μ' := μ9) (by rfl) ?_
        have l4 : 2 ≤ hI μ9 (34 * a + cc) := by
          have z := h1
          rw [Int32.le_iff_toInt_le] at z
          unfold hI; rw [r60]; exact z
        have hq : q < 4 := by omega
        rw [e49]
        refine zq_call hc (z_cx_ok hH (by rfl)) (fc_X7_gives d' (by omega) μ9 a cc (-2) ha4 hcc) (by decide +kernel) (fun r8 μ8 hq => ?_)
        obtain ⟨rfl, rfl⟩ := hq
        have hg2 : a_H (z_giv μ9 a cc (-2)) := a_H_ui hB1 (bI_top _)
        show Z 0 89 [(2, .int x9), (0, .ref 50), (1, .int (nI a))] [] (z_giv μ9 a cc (-2))
        refine z_rcs hc hH 5 (pc' := 96) (lv' := [(2, .int x9), (0, .ref 50), (1, .int (nI a))]) (st' := [.int ((z_giv μ9 a cc (-2)).1 50 49), .int 1, .int (nI a), .ref 50]) (μ' := (z_giv μ9 a cc (-2))) (by rfl) ?_
        rw [show (z_giv μ9 a cc (-2)).1 50 49 = nI cc from e49]
        refine zq_call hc (z_cx_ok hH (by rfl)) (fc_X7_claims d' (by omega) (z_giv μ9 a cc (-2)) a q 1 (nI cc) ha4 hq eq hg2) (by decide +kernel) (fun r7 μ7 hq => ?_)
        obtain ⟨rfl, k1, k2, k3, k4, k5, k6, k7⟩ := hq
        have i60 : ∀ j, μ7.1 60 j = if j = 34 * a + cc then μ9.1 60 j + (-2) else μ9.1 60 j := fun j => by rw [a_Fz_at k2 60 j (a_md_row (by decide +kernel)), giv_60]
        have i64 : ∀ i, μ7.1 64 i = if i = a then nI (q + 1) else μ9.1 64 i := fun i => by rw [k7, giv_ne _ _ _ _ (by decide)]
        have gh := GH_lay4 (μ := μ9) hfl (fun _ _ => by decide) hB1 ha4 hcc hq eq (n := -2) (by decide) (by show 0 ≤ hI μ9 (34 * a + cc) + -2; omega) (by decide) (fun _ _ _ => Int.le_refl _) i60 i64
        have hG : GP μ7 := GP_claimed hP9 e44 gh k3 k4 k6 (a_Fz_at k2 50 46 (by decide +kernel)) (a_Fz_at k2 50 47 (by decide +kernel)) (a_Fz_at k2 50 48 (by decide +kernel)) (fun j => by rw [a_Fz_at k2 66 j (a_md_row (by decide +kernel)), giv_ne _ _ _ _ (by decide +kernel)]) (sM_lay ha4 hq eq i64)
        have hE : zPG μ (some (.int 1)) μ7 := ⟨⟨1, rfl⟩, ⟨k1, GW_keep (μ := z_giv μ9 a cc (-2)) (GW_ne hB2 (by decide +kernel)) k2 (by decide +kernel), fun _ => hG⟩, a_Fz_tr (by decide +kernel) (a_Fz_ui fB (a_mda_md (by decide +kernel) _)) k2⟩
        show Z 0 99 [(2, .int x9), (0, .ref 50), (1, .int (nI a))] [] μ7
        refine z_rcs hc hH 1 (pc' := 100) (lv' := [(2, .int x9), (0, .ref 50), (1, .int (nI a))]) (st' := [.int 1]) (μ' := μ7) (by rfl) ?_
        exact hr 0 100 _ _ _ (some (.int 1)) (by decide +kernel) (by rfl) hE
      · have h2 := cn_ne.mp h2
        refine z_rcs hc hH 1 (pc' := 73) (lv' := [(2, .int x9), (0, .ref 50), (1, .int (nI a))]) (st' := [.int 0]) (μ' := μn) (by rfl) ?_
        exact hr 0 73 _ _ _ (some (.int 0)) (by decide +kernel) (z_rx_ok hH (by rfl)) (⟨⟨0, rfl⟩, hN, fN⟩)
    · have h1 := cn_ge.mp h1
      refine z_rcs hc hH 1 (pc' := 27) (lv' := [(0, .ref 50), (1, .int (nI a))]) (st' := [.int 0]) (μ' := z_ui μ 50 0 0) (by rfl) ?_
      exact hr 0 27 _ _ _ (some (.int 0)) (by decide +kernel) (z_rx_ok hH (by rfl)) (⟨⟨0, rfl⟩, h0, fG0 μ⟩)
  · show Z 0 10 [(0, .ref 50), (1, .int s)] [.int 0] (z_ui μ 50 0 0)
    refine z_rcs hc hH 2 (pc' := 27) (lv' := [(0, .ref 50), (1, .int s)]) (st' := [.int 0]) (μ' := z_ui μ 50 0 0) (by rfl) ?_
    exact hr 0 27 _ _ _ (some (.int 0)) (by decide +kernel) (z_rx_ok hH (by rfl)) (⟨⟨0, rfl⟩, h0, fG0 μ⟩)
/-! add -/
theorem GP_added {μ0 μg μ' : zM} {a cc : Nat} (hP : GP μ0) (hH : a_H μ0) (ha : a < 4) (hcc : cc < 34) (y1 : μ0.1 50 44 = 1) (ea : μ0.1 50 45 = nI a) (h1 : 1 ≤ hI μ0 (34 * a + cc)) (hlt : (μ0.1 50 46).toInt + (μ0.1 50 47).toInt < 122) (h4 : (μ0.1 50 47).toInt < 4) (e60 : ∀ j, μ'.1 60 j = if j = 34 * a + cc then μ0.1 60 j + (-1) else μ0.1 60 j) (r64 : ∀ j, μ'.1 64 j = μ0.1 64 j) (r66 : ∀ j, μ'.1 66 j = μ0.1 66 j) (e44 : μ'.1 50 44 = 3) (e49 : μ'.1 50 49 = nI cc) (c46 : μ'.1 50 46 = μ0.1 50 46) (c47 : μ'.1 50 47 = μ0.1 50 47) (c48 : μ'.1 50 48 = μ0.1 50 48) : GP μ' := by
  obtain ⟨g1, g2, g3, g4, g5, g6⟩ := hP
  rw [if_pos y1] at g6
  have ll : ∀ s, s < 4 → glim μ0 s ≤ 14 := fun s _ => by unfold glim; split <;> decide
  have em : ∀ s, mI μ' s = mI μ0 s := fun s => by unfold mI; rw [r64]
  have eM : sM μ' = sM μ0 := by unfold sM; simp only [em]
  have eR : sR μ' = sR μ0 := by unfold sR rI; simp only [r66]
  have hr := HR_of g1 ll (fun s _ => mI_nn hH s) ha hcc (n := -1) (by decide) e60
  have hr : HR μ0 μ' a cc (-1) := hr
  have n1 := g1.2 a ha
  have l3 : glim μ0 a = 14 := by unfold glim; rw [if_pos ⟨y1, ea⟩]
  have lim' : ∀ s, glim μ' s = 13 := fun s => by unfold glim; rw [if_neg (fun z => absurd (e44.symm.trans z.1) (by decide))]
  refine ⟨g1.upd hr ha hcc (by omega) (fun s _ _ => em s) (by rw [lim', em]; omega) (fun s hs4 hs => ?_), by rw [c46, c47]; exact g2, by rw [c48, c47]; exact g3, fun _ => by rw [c46, c47]; exact ⟨hlt, h4⟩, fun _ => by rw [e49, nI_toInt (by omega)]; omega, ?_⟩
  · rw [lim']
    unfold glim
    rw [if_neg (fun z => hs ((nI_eq (by omega) (by omega)).mp (z.2.symm.trans ea)))]
    exact Int.le_refl _
  · rw [if_neg (by rw [e44]; decide), eR, eM, c46, c48]
    omega
theorem zh_X7_add : zH mi_X7_add zt_X7_add 79 7 3 := hh_X7_add
set_option maxRecDepth 2000 in
theorem fc_X7_add (d : Nat) (hd : 704 ≤ d) (μ : zM) (k : Int32) (hi : GI μ) : z_C d mi_X7_add [.ref 50, .int k] μ (zPG μ) := by
  refine z_C_in (by decide) (by omega) (fun d' Z ed hc hr => ?_)
  have hH := zh_X7_add
  refine z_rcs hc hH 3 (pc' := 5) (lv' := [(0, .ref 50), (1, .int k)]) (st' := []) (μ' := z_ui μ 50 0 0) (by rfl) ?_
  have h0 := hi.put
  obtain ⟨a, ha4, ea⟩ := seat_nI h0.1
  have f0 := fG0 μ
  generalize z_ui μ 50 0 0 = μ0 at h0 ea f0 ⊢
  refine z_rcs hc hH 1 (pc' := 6) (lv' := [(0, .ref 50), (1, .int k)]) (st' := [.ref 50]) (μ' := μ0) (by rfl) ?_
  refine zq_call hc (z_cx_ok hH (by rfl)) (fc_X7_mayMake d' (by omega) μ0 h0.1) (by decide +kernel) (fun r9 μ9 hq => ?_)
  obtain ⟨hμ9, hq⟩ := hq
  rw [hμ9]
  clear hμ9 μ9
  obtain ⟨rfl, y1, y2, y3, y4⟩ | rfl := hq
  · show Z 0 9 [(0, .ref 50), (1, .int k)] [.int 1] μ0
    refine z_rcs hc hH 2 (pc' := 13) (lv' := [(0, .ref 50), (1, .int k)]) (st' := [.int k]) (μ' := μ0) (by rfl) ?_
    refine zq_call hc (z_cx_ok hH (by rfl)) (fc_X7_isKind d' (by omega) μ0 k) (by decide +kernel) (fun r9 μ9 hq => ?_)
    obtain ⟨hμ9, hq⟩ := hq
    rw [hμ9]
    clear hμ9 μ9
    obtain ⟨rfl, hk⟩ | ⟨rfl, hk⟩ := hq
    · show Z 0 16 [(0, .ref 50), (1, .int k)] [.int 1] μ0
      refine z_rcs hc hH 5 (pc' := 25) (lv' := [(0, .ref 50), (1, .int k)]) (st' := [.int k, .int (μ0.1 50 45), .ref 50]) (μ' := μ0) (by rfl) ?_
      obtain ⟨cc, hcc, rfl⟩ := vp_in_of hk (by decide)
      rw [ea]
      refine zq_call hc (z_cx_ok hH (by rfl)) (fc_X7_has_ d' (by omega) μ0 a cc ha4 hcc) (by decide +kernel) (fun r9 μ9 hq => ?_)
      obtain ⟨hμ9, rfl⟩ := hq
      rw [hμ9]
      clear hμ9 μ9
      show Z 0 28 [(0, .ref 50), (1, .int (nI cc))] [.int (μ0.1 60 (34 * a + cc))] μ0
      refine zq_if hc hH (by rfl) (tg := 33) (by rfl) (fun h1 => ?_) (fun h1 => ?_)
      · have h1 := cm_ne.mp h1
        refine z_rcs hc hH 2 (pc' := 35) (lv' := [(2, .int 0), (0, .ref 50), (1, .int (nI cc))]) (st' := []) (μ' := μ0) (by rfl) ?_
        have hP := h0.2.2 (by rw [y1]; decide)
        have l0 := hP.1.1 (34 * a + cc) (by omega)
        have l1 : 1 ≤ hI μ0 (34 * a + cc) := by
          have z : hI μ0 (34 * a + cc) ≠ 0 := fun q9 => h1 (Int32.toInt_inj.mp q9)
          omega
        obtain ⟨q, hq4, eq⟩ := sets_nI h0.1 a
        have b47 : 0 ≤ (μ0.1 50 47).toInt ∧ (μ0.1 50 47).toInt ≤ 4 := h0.1 50 47
        have b46 : 0 ≤ (μ0.1 50 46).toInt ∧ (μ0.1 50 46).toInt ≤ 122 := h0.1 50 46
        have hlt := leftp b46 b47 y3
        have y4 : (μ0.1 50 47).toInt < 4 := by rw [Int32.not_le, Int32.lt_iff_toInt_lt] at y4; exact y4
        have ini : vp_in (μ0.1 50 45) 4 := by rw [ea]; exact vp_in_nI ha4 (by decide)
        have lp : ∀ (n i : Nat), i + n = q → Z 0 35 [(2, .int (nI i)), (0, .ref 50), (1, .int (nI cc))] [] μ0 := by
          intro n
          induction n with
          | zero =>
            intro i hi9
            have hi9 : i = q := by omega
            subst hi9
            refine z_rcs hc hH 5 (pc' := 44) (lv' := [(2, .int (nI i)), (0, .ref 50), (1, .int (nI cc))]) (st' := [.int (μ0.1 50 45), .ref 64, .int (nI i)]) (μ' := μ0) (by rfl) ?_
            refine zq_iald hc hH (by rfl) 4 (by decide +kernel) (ini) ?_
            rw [ea, nI_clamp (n := a) (by omega), eq]
            refine zq_ic hc hH (by rfl) (tg := 127) (by rfl) (fun _ => ?_) (fun h9 => (zb_t (ge_nIt (n := i) (i := i) (Nat.le_refl _) (by omega)) h9).elim)
            refine z_rcs hc hH 1 (pc' := 128) (lv' := [(2, .int (nI i)), (0, .ref 50), (1, .int (nI cc))]) (st' := [.int 0]) (μ' := μ0) (by rfl) ?_
            exact hr 0 128 _ _ _ (some (.int 0)) (by decide +kernel) (z_rx_ok hH (by rfl)) (⟨⟨0, rfl⟩, h0, f0⟩)
          | succ n ih =>
            intro i hi9
            refine z_rcs hc hH 5 (pc' := 44) (lv' := [(2, .int (nI i)), (0, .ref 50), (1, .int (nI cc))]) (st' := [.int (μ0.1 50 45), .ref 64, .int (nI i)]) (μ' := μ0) (by rfl) ?_
            refine zq_iald hc hH (by rfl) 4 (by decide +kernel) (ini) ?_
            rw [ea, nI_clamp (n := a) (by omega), eq]
            refine zq_ic hc hH (by rfl) (tg := 127) (by rfl) (fun h9 => (zb_t h9 (ge_nI (by omega) (by omega))).elim) (fun _ => ?_)
            refine z_rcs hc hH 8 (pc' := 60) (lv' := [(2, .int (nI i)), (0, .ref 50), (1, .int (nI cc))]) (st' := [.int ((4 * (μ0.1 50 45)) + (nI i)), .ref 62]) (μ' := μ0) (by rfl) ?_
            refine zq_iald hc hH (by rfl) 16 (by decide +kernel) (by rw [ea, nI_4q]; exact vp_in_nI (by omega) (by decide)) ?_
            refine z_rcs hc hH 1 (pc' := 62) (lv' := [(2, .int (nI i)), (0, .ref 50), (1, .int (nI cc))]) (st' := [.int 1, .int (μ0.1 62 ((4 * (μ0.1 50 45)) + (nI i)).toNatClampNeg)]) (μ' := μ0) (by rfl) ?_
            refine zq_ic hc hH (by rfl) (tg := 121) (by rfl) (fun h1 => ?_) (fun h1 => ?_)
            · have h1 := cm_ne.mp h1
              refine z_rcs hc hH 2 (pc' := 35) (lv' := [(2, .int ((nI i) + 1)), (0, .ref 50), (1, .int (nI cc))]) (st' := []) (μ' := μ0) (by rfl) ?_
              rw [nI_1]
              exact ih (i + 1) (by omega)
            · have h1 := cn_ne.mp h1
              refine z_rcs hc hH 8 (pc' := 77) (lv' := [(2, .int (nI i)), (0, .ref 50), (1, .int (nI cc))]) (st' := [.int ((4 * (μ0.1 50 45)) + (nI i)), .ref 63]) (μ' := μ0) (by rfl) ?_
              refine zq_iald hc hH (by rfl) 16 (by decide +kernel) (by rw [ea, nI_4q]; exact vp_in_nI (by omega) (by decide)) ?_
              refine z_rcs hc hH 1 (pc' := 79) (lv' := [(2, .int (nI i)), (0, .ref 50), (1, .int (nI cc))]) (st' := [.int (nI cc), .int (μ0.1 63 ((4 * (μ0.1 50 45)) + (nI i)).toNatClampNeg)]) (μ' := μ0) (by rfl) ?_
              refine zq_ic hc hH (by rfl) (tg := 85) (by rfl) (fun h2 => ?_) (fun h2 => ?_)
              · have h2 := cm_eq9.mp h2
                refine z_rcs hc hH 9 (pc' := 98) (lv' := [(2, .int (nI i)), (0, .ref 50), (1, .int (nI cc))]) (st' := [.int 2, .int ((4 * (μ0.1 50 45)) + (nI i)), .ref 62]) (μ' := μ0) (by rfl) ?_
                refine zq_iast hc hH (by rfl) 16 (by decide +kernel) (by rw [ea, nI_4q]; exact vp_in_nI (by omega) (by decide)) ?_
                refine z_rcs hc hH 5 (pc' := 106) (lv' := [(2, .int (nI i)), (0, .ref 50), (1, .int (nI cc))]) (st' := [.int (-1), .int (nI cc), .int (μ0.1 50 45), .ref 50]) (μ' := z_ui μ0 62 (((4 * (μ0.1 50 45)) + (nI i)).toNatClampNeg) 2) (by rfl) ?_
                rw [ea]
                have s1 : a_H (z_ui μ0 62 (((4 * nI a) + (nI i)).toNatClampNeg) 2) := a_H_ui h0.1 (bI_top _)
                have s2 : GW (z_ui μ0 62 (((4 * nI a) + (nI i)).toNatClampNeg) 2) := GW_ne h0.2.1 (by decide)
                have s3 : a_Fz md_G μ (z_ui μ0 62 (((4 * nI a) + (nI i)).toNatClampNeg) 2) := a_Fz_ui f0 (a_mda_md (by decide +kernel) _)
                have s4 : ∀ r j, r ≠ 62 → (z_ui μ0 62 (((4 * nI a) + (nI i)).toNatClampNeg) 2).1 r j = μ0.1 r j := fun r j hr => by rw [z_ui_rd, if_neg (fun z => hr z.1)]
                generalize z_ui μ0 62 (((4 * nI a) + (nI i)).toNatClampNeg) 2 = μs at s1 s2 s3 s4 ⊢
                refine zq_call hc (z_cx_ok hH (by rfl)) (fc_X7_gives d' (by omega) μs a cc (-1) ha4 hcc) (by decide +kernel) (fun r8 μ8 hq => ?_)
                obtain ⟨rfl, rfl⟩ := hq
                have u1 : a_H (z_giv μs a cc (-1)) := a_H_ui s1 (bI_top _)
                have u2 : GW (z_giv μs a cc (-1)) := GW_ne s2 (by decide)
                have u3 : a_Fz md_G μ (z_giv μs a cc (-1)) := a_Fz_ui s3 (a_mda_md (by decide +kernel) _)
                have u4 : ∀ r j, r ≠ 60 → (z_giv μs a cc (-1)).1 r j = μs.1 r j := fun r j hr => giv_ne _ _ _ _ hr j
                have u5 := giv_60 μs a cc (-1)
                generalize z_giv μs a cc (-1) = μg at u1 u2 u3 u4 u5 ⊢
                show Z 0 109 [(2, .int (nI i)), (0, .ref 50), (1, .int (nI cc))] [] μg
                refine z_rcs hc hH 7 (pc' := 120) (lv' := [(2, .int (nI i)), (0, .ref 50), (1, .int (nI cc))]) (st' := [.int 1]) (μ' := z_ui (z_ui μg 50 49 (nI cc)) 50 44 3) (by rfl) ?_
                exact hr 0 120 _ _ _ (some (.int 1)) (by decide +kernel) (z_rx_ok hH (by rfl)) (⟨⟨1, rfl⟩, ⟨a_H_ui (a_H_ui u1 (show bI (-1) 33 _ from bd_nI (by omega) ⟨by omega, by omega⟩)) ⟨by decide, by decide⟩, GW_ne (GW_ne u2 (by decide +kernel)) (by decide +kernel), fun _ => GP_added (μg := μg) hP h0.1 ha4 hcc y1 ea l1 hlt y4 (fun j => by rw [z_ui_rd, if_neg (by omega), z_ui_rd, if_neg (by omega), u5, s4 60 j (by decide +kernel)]) (fun j => by rw [z_ui_rd, if_neg (by omega), z_ui_rd, if_neg (by omega), u4 64 j (by decide +kernel), s4 64 j (by decide +kernel)]) (fun j => by rw [z_ui_rd, if_neg (by omega), z_ui_rd, if_neg (by omega), u4 66 j (by decide +kernel), s4 66 j (by decide +kernel)]) (by rw [z_ui_rd, if_pos ⟨rfl, rfl⟩]) (by rw [z_ui_rd, if_neg (by omega), z_ui_rd, if_pos ⟨rfl, rfl⟩]) (by rw [z_ui_rd, if_neg (by omega), z_ui_rd, if_neg (by omega), u4 50 46 (by decide +kernel), s4 50 46 (by decide +kernel)]) (by rw [z_ui_rd, if_neg (by omega), z_ui_rd, if_neg (by omega), u4 50 47 (by decide +kernel), s4 50 47 (by decide +kernel)]) (by rw [z_ui_rd, if_neg (by omega), z_ui_rd, if_neg (by omega), u4 50 48 (by decide +kernel), s4 50 48 (by decide +kernel)])⟩, a_Fz_ui (a_Fz_ui u3 (by decide +kernel)) (by decide +kernel)⟩)
              · have h2 := cn_eq.mp h2
                refine z_rcs hc hH 3 (pc' := 35) (lv' := [(2, .int ((nI i) + 1)), (0, .ref 50), (1, .int (nI cc))]) (st' := []) (μ' := μ0) (by rfl) ?_
                rw [nI_1]
                exact ih (i + 1) (by omega)
        exact lp q 0 (by omega)
      · have h1 := cn_ne.mp h1
        refine z_rcs hc hH 1 (pc' := 32) (lv' := [(0, .ref 50), (1, .int (nI cc))]) (st' := [.int 0]) (μ' := μ0) (by rfl) ?_
        exact hr 0 32 _ _ _ (some (.int 0)) (by decide +kernel) (z_rx_ok hH (by rfl)) (⟨⟨0, rfl⟩, h0, f0⟩)
    · show Z 0 16 [(0, .ref 50), (1, .int k)] [.int 0] μ0
      refine z_rcs hc hH 2 (pc' := 32) (lv' := [(0, .ref 50), (1, .int k)]) (st' := [.int 0]) (μ' := μ0) (by rfl) ?_
      exact hr 0 32 _ _ _ (some (.int 0)) (by decide +kernel) (z_rx_ok hH (by rfl)) (⟨⟨0, rfl⟩, h0, f0⟩)
  · show Z 0 9 [(0, .ref 50), (1, .int k)] [.int 0] μ0
    refine z_rcs hc hH 2 (pc' := 32) (lv' := [(0, .ref 50), (1, .int k)]) (st' := [.int 0]) (μ' := μ0) (by rfl) ?_
    exact hr 0 32 _ _ _ (some (.int 0)) (by decide +kernel) (z_rx_ok hH (by rfl)) (⟨⟨0, rfl⟩, h0, f0⟩)
/-! discard -/
theorem sR_add {μ μ' : zM} {a rr : Nat} (ha : a < 4) (hr : rr < 2 ^ 30) (e : μ.1 66 a = nI rr) (h : ∀ i, μ'.1 66 i = if i = a then nI (rr + 1) else μ.1 66 i) : sR μ' = sR μ + 1 := by
  have t0 := nI_toInt (n := rr) (by omega)
  have t1 := nI_toInt (n := rr + 1) (by omega)
  have ma : rI μ a = rr := by unfold rI; rw [e, t0]
  have ma' : rI μ' a = rr + 1 := by unfold rI; rw [h, if_pos rfl, t1]; omega
  have mo : ∀ i, i ≠ a → rI μ' i = rI μ i := fun i hi => by unfold rI; rw [h, if_neg hi]
  unfold sR
  rcases (show a = 0 ∨ a = 1 ∨ a = 2 ∨ a = 3 by omega) with rfl | rfl | rfl | rfl
  · rw [ma', ma, mo 1 (by decide), mo 2 (by decide), mo 3 (by decide)]; omega
  · rw [ma', ma, mo 0 (by decide), mo 2 (by decide), mo 3 (by decide)]; omega
  · rw [ma', ma, mo 0 (by decide), mo 1 (by decide), mo 3 (by decide)]; omega
  · rw [ma', ma, mo 0 (by decide), mo 1 (by decide), mo 2 (by decide)]; omega
/-- a river is short -/
theorem rv_nI {μ : zM} {a : Nat} (hP : GP μ) (hH : a_H μ) (ha : a < 4) (y1 : μ.1 50 44 = 1) : ∃ rr, rr < 100 ∧ μ.1 66 a = nI rr := by
  have g6 := hP.2.2.2.2.2
  rw [if_pos y1] at g6
  have b46 : (μ.1 50 46).toInt ≤ 122 := (hH 50 46).2
  have b48 : (μ.1 50 48).toInt ≤ 4 := (hH 50 48).2
  have m : ∀ s, mI μ s ≤ 4 := fun s => (hH 64 s).2
  have r : ∀ s, 0 ≤ rI μ s := fun s => (hH 66 s).1
  have m0 := m 0
  have m1 := m 1
  have m2 := m 2
  have m3 := m 3
  have r0 := r 0
  have r1 := r 1
  have r2 := r 2
  have r3 := r 3
  unfold sM sR at g6
  have hb : rI μ a < 100 := by
    rcases (show a = 0 ∨ a = 1 ∨ a = 2 ∨ a = 3 by omega) with rfl | rfl | rfl | rfl <;> omega
  exact a_nI (x := μ.1 66 a) (n := 100) (r a) hb (by decide)
theorem GP_disc {μ0 μ' : zM} {a cc rr : Nat} (hP : GP μ0) (hH : a_H μ0) (ha : a < 4) (hcc : cc < 34) (hrr : rr < 100) (y1 : μ0.1 50 44 = 1) (ea : μ0.1 50 45 = nI a) (h1 : 1 ≤ hI μ0 (34 * a + cc)) (er : μ0.1 66 a = nI rr) (e60 : ∀ j, μ'.1 60 j = if j = 34 * a + cc then μ0.1 60 j + (-1) else μ0.1 60 j) (r64 : ∀ j, μ'.1 64 j = μ0.1 64 j) (r66 : ∀ j, μ'.1 66 j = if j = a then nI (rr + 1) else μ0.1 66 j) (e44 : μ'.1 50 44 = 2) (e49 : μ'.1 50 49 = nI cc) (c46 : μ'.1 50 46 = μ0.1 50 46) (c47 : μ'.1 50 47 = μ0.1 50 47) (c48 : μ'.1 50 48 = μ0.1 50 48) : GP μ' := by
  obtain ⟨g1, g2, g3, g4, g5, g6⟩ := hP
  rw [if_pos y1] at g6
  have ll : ∀ s, s < 4 → glim μ0 s ≤ 14 := fun s _ => by unfold glim; split <;> decide
  have em : ∀ s, mI μ' s = mI μ0 s := fun s => by unfold mI; rw [r64]
  have eM : sM μ' = sM μ0 := by unfold sM; simp only [em]
  have eR := sR_add ha (by omega) er r66
  have hr := HR_of g1 ll (fun s _ => mI_nn hH s) ha hcc (n := -1) (by decide) e60
  have hr : HR μ0 μ' a cc (-1) := hr
  have n1 := g1.2 a ha
  have l3 : glim μ0 a = 14 := by unfold glim; rw [if_pos ⟨y1, ea⟩]
  have lim' : ∀ s, glim μ' s = 13 := fun s => by unfold glim; rw [if_neg (fun z => absurd (e44.symm.trans z.1) (by decide))]
  refine ⟨g1.upd hr ha hcc (by omega) (fun s _ _ => em s) (by rw [lim', em]; omega) (fun s hs4 hs => ?_), by rw [c46, c47]; exact g2, by rw [c48, c47]; exact g3, fun z => absurd (e44.symm.trans z) (by decide), fun _ => by rw [e49, nI_toInt (by omega)]; omega, ?_⟩
  · rw [lim']
    unfold glim
    rw [if_neg (fun z => hs ((nI_eq (by omega) (by omega)).mp (z.2.symm.trans ea)))]
    exact Int.le_refl _
  · rw [if_neg (by rw [e44]; decide), eR, eM, c46, c48]
    omega
theorem b01_bI {x : Int32} (h : bI 0 1 x) : z_b01 x = true := by
  obtain ⟨t, ht, rfl⟩ := a_nI (x := x) (n := 2) h.1 (by have := h.2; omega) (by decide)
  rcases (show t = 0 ∨ t = 1 by omega) with rfl | rfl <;> decide
theorem nI_136 (a q : Nat) : (136 : Int32) * nI a + nI q = nI (136 * a + q) := by
  rw [show (136 : Int32) = nI 136 from rfl, nI_ml, nI_add]
theorem i_11 : (-1 : Int32) + 1 = 0 := by rw [Int32.add_comm, ← Int32.sub_eq_add_neg, Int32.sub_self]
theorem zh_X7_discard : zH mi_X7_discard zt_X7_discard 79 7 5 := hh_X7_discard
theorem giv_2 (μ : zM) (a cc : Nat) (n : Int32) : (z_giv μ a cc n).2 = μ.2 := z_ui_2 _ _ _ _
set_option maxRecDepth 2000 in
theorem dta_X7_discard (d' : Nat) (Z : zK) (hd : 703 ≤ d') (μ : zM) (hc : z_clo z_x0 mi_X7_discard (z_C d') Z) (hr : z_ret mi_X7_discard (zPG μ) Z) (a cc : Nat) (ha4 : a < 4) (wb : Int32) (hw : bI 0 1 wb) (μ1 : zM) (hcc : cc < 34) (q1 : a_H μ1) (q2 : GW μ1) (q3 : a_Fz md_G μ μ1) (hP1 : GP μ1) (y1 : μ1.1 50 44 = 1) (e1 : μ1.1 50 45 = nI a) (l1 : 1 ≤ hI μ1 (34 * a + cc)) : Z 0 193 [(0, .ref 50), (1, .int (nI cc)), (2, .int wb)] [] μ1 := by
  have hH := zh_X7_discard
  obtain ⟨rr, hrr, er⟩ := rv_nI hP1 q1 ha4 y1
  have ini1 : vp_in (μ1.1 50 45) 4 := by rw [e1]; exact vp_in_nI ha4 (by decide)
  refine z_rcs hc hH 5 (pc' := 200) (lv' := [(0, .ref 50), (1, .int (nI cc)), (2, .int wb)]) (st' := [.int (-1), .int (nI cc), .int (μ1.1 50 45), .ref 50]) (μ' := μ1) (by rfl) ?_
  rw [e1]
  refine zq_call hc (z_cx_ok hH (by rfl)) (fc_X7_gives d' (by omega) μ1 a cc (-1) ha4 hcc) (by decide +kernel) (fun r8 μ8 hq => ?_)
  obtain ⟨rfl, rfl⟩ := hq
  have u1 : a_H (z_giv μ1 a cc (-1)) := a_H_ui q1 (bI_top _)
  have u2 : GW (z_giv μ1 a cc (-1)) := GW_ne q2 (by decide)
  have u3 : a_Fz md_G μ (z_giv μ1 a cc (-1)) := a_Fz_ui q3 (a_mda_md (by decide +kernel) _)
  have u4 : ∀ r j, r ≠ 60 → (z_giv μ1 a cc (-1)).1 r j = μ1.1 r j := fun r j hr => giv_ne _ _ _ _ hr j
  have u5 := giv_60 μ1 a cc (-1)
  generalize z_giv μ1 a cc (-1) = μg at u1 u2 u3 u4 u5 ⊢
  have eg : μg.1 50 45 = nI a := (u4 50 45 (by decide)).trans e1
  have egr : μg.1 66 a = nI rr := (u4 66 a (by decide)).trans er
  have inig : vp_in (μg.1 50 45) 4 := by rw [eg]; exact vp_in_nI ha4 (by decide)
  show Z 0 203 [(0, .ref 50), (1, .int (nI cc)), (2, .int wb)] [] μg
  refine z_rcs hc hH 10 (pc' := 223) (lv' := [(0, .ref 50), (1, .int (nI cc)), (2, .int wb)]) (st' := [.int (μg.1 50 45), .ref 66, .int (136 * (μg.1 50 45)), .ref 65]) (μ' := μg) (by rfl) ?_
  refine zq_iald hc hH (by rfl) 4 (by decide +kernel) (inig) ?_
  rw [eg, nI_clamp (n := a) (by omega), egr]
  refine z_rcs hc hH 1 (pc' := 225) (lv' := [(0, .ref 50), (1, .int (nI cc)), (2, .int wb)]) (st' := [.int ((136 * nI a) + (nI rr)), .ref 65]) (μ' := μg) (by rfl) ?_
  rw [nI_136]
  refine z_rcs hc hH 1 (pc' := 226) (lv' := [(0, .ref 50), (1, .int (nI cc)), (2, .int wb)]) (st' := [.int (nI cc), .int (nI (136 * a + rr)), .ref 65]) (μ' := μg) (by rfl) ?_
  refine zq_iast hc hH (by rfl) 544 (by decide +kernel) (vp_in_nI (by omega) (by decide)) ?_
  have v1 : a_H (z_ui μg 65 ((nI (136 * a + rr)).toNatClampNeg) (nI cc)) := a_H_ui u1 (bI_top _)
  have v2 : GW (z_ui μg 65 ((nI (136 * a + rr)).toNatClampNeg) (nI cc)) := GW_ne u2 (by decide)
  have v3 : a_Fz md_G μ (z_ui μg 65 ((nI (136 * a + rr)).toNatClampNeg) (nI cc)) := a_Fz_ui u3 (a_mda_md (by decide +kernel) _)
  have v4 : ∀ r j, r ≠ 65 → (z_ui μg 65 ((nI (136 * a + rr)).toNatClampNeg) (nI cc)).1 r j = μg.1 r j := fun r j hr => by rw [z_ui_rd, if_neg (fun z => hr z.1)]
  generalize z_ui μg 65 ((nI (136 * a + rr)).toNatClampNeg) (nI cc) = μh at v1 v2 v3 v4 ⊢
  have eh : μh.1 50 45 = nI a := (v4 50 45 (by decide)).trans eg
  have ehr : μh.1 66 a = nI rr := (v4 66 a (by decide)).trans egr
  have inih : vp_in (μh.1 50 45) 4 := by rw [eh]; exact vp_in_nI ha4 (by decide)
  refine z_rcs hc hH 5 (pc' := 236) (lv' := [(0, .ref 50), (1, .int (nI cc)), (2, .int wb)]) (st' := [.int (μh.1 50 45), .ref 66, .int (μh.1 50 45), .ref 66]) (μ' := μh) (by rfl) ?_
  refine zq_iald hc hH (by rfl) 4 (by decide +kernel) (inih) ?_
  refine z_rcs hc hH 2 (pc' := 239) (lv' := [(0, .ref 50), (1, .int (nI cc)), (2, .int wb)]) (st' := [.int ((μh.1 66 (μh.1 50 45).toNatClampNeg) + 1), .int (μh.1 50 45), .ref 66]) (μ' := μh) (by rfl) ?_
  rw [eh, nI_clamp (n := a) (by omega), ehr, nI_1]
  refine zq_iast hc hH (by rfl) 4 (by decide +kernel) (vp_in_nI ha4 (by decide)) ?_
  rw [nI_clamp (n := a) (by omega)]
  have t1 : a_H (z_ui μh 66 a (nI (rr + 1))) := a_H_ui v1 (show bI 0 135 _ from bd_nI (by omega) ⟨by omega, by omega⟩)
  have t2 : GW (z_ui μh 66 a (nI (rr + 1))) := GW_ne v2 (by decide)
  have t3 : a_Fz md_G μ (z_ui μh 66 a (nI (rr + 1))) := a_Fz_ui v3 (a_mda_md (by decide +kernel) _)
  have t4 : ∀ r j, r ≠ 66 → (z_ui μh 66 a (nI (rr + 1))).1 r j = μh.1 r j := fun r j hr => by rw [z_ui_rd, if_neg (fun z => hr z.1)]
  have t5 : ∀ j, (z_ui μh 66 a (nI (rr + 1))).1 66 j = if j = a then nI (rr + 1) else μh.1 66 j := fun j => by rw [z_ui_rd]; by_cases e : j = a <;> simp [e]
  generalize z_ui μh 66 a (nI (rr + 1)) = μi at t1 t2 t3 t4 t5 ⊢
  have ei : μi.1 50 45 = nI a := (t4 50 45 (by decide)).trans eh
  have inii : vp_in (μi.1 50 45) 4 := by rw [ei]; exact vp_in_nI ha4 (by decide)
  refine z_rcs hc hH 5 (pc' := 249) (lv' := [(0, .ref 50), (1, .int (nI cc)), (2, .int wb)]) (st' := [.int wb, .int (μi.1 50 45), .ref 69]) (μ' := μi) (by rfl) ?_
  refine zq_bast hc hH (by rfl) 4 (by decide +kernel) (inii) (b01_bI hw) ?_
  have s1 : a_H (z_ui μi 69 ((μi.1 50 45).toNatClampNeg) wb) := a_H_ui t1 (show bI 0 1 _ from hw)
  have s2 : GW (z_ui μi 69 ((μi.1 50 45).toNatClampNeg) wb) := GW_ne t2 (by decide)
  have s3 : a_Fz md_G μ (z_ui μi 69 ((μi.1 50 45).toNatClampNeg) wb) := a_Fz_ui t3 (a_mda_md (by decide +kernel) _)
  have s4 : ∀ r j, r ≠ 69 → (z_ui μi 69 ((μi.1 50 45).toNatClampNeg) wb).1 r j = μi.1 r j := fun r j hr => by rw [z_ui_rd, if_neg (fun z => hr z.1)]
  generalize z_ui μi 69 ((μi.1 50 45).toNatClampNeg) wb = μj at s1 s2 s3 s4 ⊢
  refine z_rcs hc hH 2 (pc' := 252) (lv' := [(0, .ref 50), (1, .int (nI cc)), (2, .int wb)]) (st' := [.int wb, .ref 50]) (μ' := μj) (by rfl) ?_
  refine zq_zput hc hH (by rfl) (ci := 6) (f := 59) (by decide +kernel) (b01_bI hw) ?_
  refine z_rcs hc hH 10 (pc' := 271) (lv' := [(0, .ref 50), (1, .int (nI cc)), (2, .int wb)]) (st' := [.int 1]) (μ' := z_ui (z_ui (z_ui (z_ui μj 50 59 wb) 50 44 2) 50 49 (nI cc)) 50 57 0) (by rfl) ?_
  exact hr 0 271 _ _ _ (some (.int 1)) (by decide +kernel) (z_rx_ok hH (by rfl)) (⟨⟨1, rfl⟩, ⟨a_H_ui (a_H_ui (a_H_ui (a_H_ui s1 hw) ⟨by decide, by decide⟩) (show bI (-1) 33 _ from bd_nI (by omega) ⟨by omega, by omega⟩)) ⟨by decide, by decide⟩, GW_ne (GW_ne (GW_ne (GW_ne s2 (by decide +kernel)) (by decide +kernel)) (by decide +kernel)) (by decide +kernel), fun _ => GP_disc hP1 q1 ha4 hcc hrr y1 e1 l1 er (fun j => by rw [z_ui_rd, if_neg (by omega), z_ui_rd, if_neg (by omega), z_ui_rd, if_neg (by omega), z_ui_rd, if_neg (by omega), s4 60 j (by decide +kernel), t4 60 j (by decide +kernel), v4 60 j (by decide +kernel), u5]) (fun j => by rw [z_ui_rd, if_neg (by omega), z_ui_rd, if_neg (by omega), z_ui_rd, if_neg (by omega), z_ui_rd, if_neg (by omega), s4 64 j (by decide +kernel), t4 64 j (by decide +kernel), v4 64 j (by decide +kernel), u4 64 j (by decide +kernel)]) (fun j => by rw [z_ui_rd, if_neg (by omega), z_ui_rd, if_neg (by omega), z_ui_rd, if_neg (by omega), z_ui_rd, if_neg (by omega), s4 66 j (by decide +kernel), t5, v4 66 j (by decide +kernel), u4 66 j (by decide +kernel)]) (by rw [z_ui_rd, if_neg (by omega), z_ui_rd, if_neg (by omega), z_ui_rd, if_pos ⟨rfl, rfl⟩]) (by rw [z_ui_rd, if_neg (by omega), z_ui_rd, if_pos ⟨rfl, rfl⟩]) (by rw [z_ui_rd, if_neg (by omega), z_ui_rd, if_neg (by omega), z_ui_rd, if_neg (by omega), z_ui_rd, if_neg (by omega), s4 50 46 (by decide +kernel), t4 50 46 (by decide +kernel), v4 50 46 (by decide +kernel), u4 50 46 (by decide +kernel)]) (by rw [z_ui_rd, if_neg (by omega), z_ui_rd, if_neg (by omega), z_ui_rd, if_neg (by omega), z_ui_rd, if_neg (by omega), s4 50 47 (by decide +kernel), t4 50 47 (by decide +kernel), v4 50 47 (by decide +kernel), u4 50 47 (by decide +kernel)]) (by rw [z_ui_rd, if_neg (by omega), z_ui_rd, if_neg (by omega), z_ui_rd, if_neg (by omega), z_ui_rd, if_neg (by omega), s4 50 48 (by decide +kernel), t4 50 48 (by decide +kernel), v4 50 48 (by decide +kernel), u4 50 48 (by decide +kernel)])⟩, a_Fz_ui (a_Fz_ui (a_Fz_ui (a_Fz_ui s3 (by decide +kernel)) (by decide +kernel)) (by decide +kernel)) (by decide +kernel)⟩)
set_option maxRecDepth 2000 in
theorem dtb_X7_discard (d' : Nat) (Z : zK) (hd : 703 ≤ d') (μ : zM) (hc : z_clo z_x0 mi_X7_discard (z_C d') Z) (hr : z_ret mi_X7_discard (zPG μ) Z) (a cc : Nat) (ha4 : a < 4) (wb : Int32) (hw : bI 0 1 wb) (y : Int64) (μ1 : zM) (hcc : cc < 34) (q1 : a_H μ1) (q2 : GW μ1) (q3 : a_Fz md_G μ μ1) (hP1 : GP μ1) (y1 : μ1.1 50 44 = 1) (e1 : μ1.1 50 45 = nI a) (l1 : 1 ≤ hI μ1 (34 * a + cc)) : Z 0 193 [(3, .long y), (0, .ref 50), (1, .int (nI cc)), (2, .int wb)] [] μ1 := by
  have hH := zh_X7_discard
  obtain ⟨rr, hrr, er⟩ := rv_nI hP1 q1 ha4 y1
  have ini1 : vp_in (μ1.1 50 45) 4 := by rw [e1]; exact vp_in_nI ha4 (by decide)
  refine z_rcs hc hH 5 (pc' := 200) (lv' := [(3, .long y), (0, .ref 50), (1, .int (nI cc)), (2, .int wb)]) (st' := [.int (-1), .int (nI cc), .int (μ1.1 50 45), .ref 50]) (μ' := μ1) (by rfl) ?_
  rw [e1]
  refine zq_call hc (z_cx_ok hH (by rfl)) (fc_X7_gives d' (by omega) μ1 a cc (-1) ha4 hcc) (by decide +kernel) (fun r8 μ8 hq => ?_)
  obtain ⟨rfl, rfl⟩ := hq
  have u1 : a_H (z_giv μ1 a cc (-1)) := a_H_ui q1 (bI_top _)
  have u2 : GW (z_giv μ1 a cc (-1)) := GW_ne q2 (by decide)
  have u3 : a_Fz md_G μ (z_giv μ1 a cc (-1)) := a_Fz_ui q3 (a_mda_md (by decide +kernel) _)
  have u4 : ∀ r j, r ≠ 60 → (z_giv μ1 a cc (-1)).1 r j = μ1.1 r j := fun r j hr => giv_ne _ _ _ _ hr j
  have u5 := giv_60 μ1 a cc (-1)
  generalize z_giv μ1 a cc (-1) = μg at u1 u2 u3 u4 u5 ⊢
  have eg : μg.1 50 45 = nI a := (u4 50 45 (by decide)).trans e1
  have egr : μg.1 66 a = nI rr := (u4 66 a (by decide)).trans er
  have inig : vp_in (μg.1 50 45) 4 := by rw [eg]; exact vp_in_nI ha4 (by decide)
  show Z 0 203 [(3, .long y), (0, .ref 50), (1, .int (nI cc)), (2, .int wb)] [] μg
  refine z_rcs hc hH 10 (pc' := 223) (lv' := [(3, .long y), (0, .ref 50), (1, .int (nI cc)), (2, .int wb)]) (st' := [.int (μg.1 50 45), .ref 66, .int (136 * (μg.1 50 45)), .ref 65]) (μ' := μg) (by rfl) ?_
  refine zq_iald hc hH (by rfl) 4 (by decide +kernel) (inig) ?_
  rw [eg, nI_clamp (n := a) (by omega), egr]
  refine z_rcs hc hH 1 (pc' := 225) (lv' := [(3, .long y), (0, .ref 50), (1, .int (nI cc)), (2, .int wb)]) (st' := [.int ((136 * nI a) + (nI rr)), .ref 65]) (μ' := μg) (by rfl) ?_
  rw [nI_136]
  refine z_rcs hc hH 1 (pc' := 226) (lv' := [(3, .long y), (0, .ref 50), (1, .int (nI cc)), (2, .int wb)]) (st' := [.int (nI cc), .int (nI (136 * a + rr)), .ref 65]) (μ' := μg) (by rfl) ?_
  refine zq_iast hc hH (by rfl) 544 (by decide +kernel) (vp_in_nI (by omega) (by decide)) ?_
  have v1 : a_H (z_ui μg 65 ((nI (136 * a + rr)).toNatClampNeg) (nI cc)) := a_H_ui u1 (bI_top _)
  have v2 : GW (z_ui μg 65 ((nI (136 * a + rr)).toNatClampNeg) (nI cc)) := GW_ne u2 (by decide)
  have v3 : a_Fz md_G μ (z_ui μg 65 ((nI (136 * a + rr)).toNatClampNeg) (nI cc)) := a_Fz_ui u3 (a_mda_md (by decide +kernel) _)
  have v4 : ∀ r j, r ≠ 65 → (z_ui μg 65 ((nI (136 * a + rr)).toNatClampNeg) (nI cc)).1 r j = μg.1 r j := fun r j hr => by rw [z_ui_rd, if_neg (fun z => hr z.1)]
  generalize z_ui μg 65 ((nI (136 * a + rr)).toNatClampNeg) (nI cc) = μh at v1 v2 v3 v4 ⊢
  have eh : μh.1 50 45 = nI a := (v4 50 45 (by decide)).trans eg
  have ehr : μh.1 66 a = nI rr := (v4 66 a (by decide)).trans egr
  have inih : vp_in (μh.1 50 45) 4 := by rw [eh]; exact vp_in_nI ha4 (by decide)
  refine z_rcs hc hH 5 (pc' := 236) (lv' := [(3, .long y), (0, .ref 50), (1, .int (nI cc)), (2, .int wb)]) (st' := [.int (μh.1 50 45), .ref 66, .int (μh.1 50 45), .ref 66]) (μ' := μh) (by rfl) ?_
  refine zq_iald hc hH (by rfl) 4 (by decide +kernel) (inih) ?_
  refine z_rcs hc hH 2 (pc' := 239) (lv' := [(3, .long y), (0, .ref 50), (1, .int (nI cc)), (2, .int wb)]) (st' := [.int ((μh.1 66 (μh.1 50 45).toNatClampNeg) + 1), .int (μh.1 50 45), .ref 66]) (μ' := μh) (by rfl) ?_
  rw [eh, nI_clamp (n := a) (by omega), ehr, nI_1]
  refine zq_iast hc hH (by rfl) 4 (by decide +kernel) (vp_in_nI ha4 (by decide)) ?_
  rw [nI_clamp (n := a) (by omega)]
  have t1 : a_H (z_ui μh 66 a (nI (rr + 1))) := a_H_ui v1 (show bI 0 135 _ from bd_nI (by omega) ⟨by omega, by omega⟩)
  have t2 : GW (z_ui μh 66 a (nI (rr + 1))) := GW_ne v2 (by decide)
  have t3 : a_Fz md_G μ (z_ui μh 66 a (nI (rr + 1))) := a_Fz_ui v3 (a_mda_md (by decide +kernel) _)
  have t4 : ∀ r j, r ≠ 66 → (z_ui μh 66 a (nI (rr + 1))).1 r j = μh.1 r j := fun r j hr => by rw [z_ui_rd, if_neg (fun z => hr z.1)]
  have t5 : ∀ j, (z_ui μh 66 a (nI (rr + 1))).1 66 j = if j = a then nI (rr + 1) else μh.1 66 j := fun j => by rw [z_ui_rd]; by_cases e : j = a <;> simp [e]
  generalize z_ui μh 66 a (nI (rr + 1)) = μi at t1 t2 t3 t4 t5 ⊢
  have ei : μi.1 50 45 = nI a := (t4 50 45 (by decide)).trans eh
  have inii : vp_in (μi.1 50 45) 4 := by rw [ei]; exact vp_in_nI ha4 (by decide)
  refine z_rcs hc hH 5 (pc' := 249) (lv' := [(3, .long y), (0, .ref 50), (1, .int (nI cc)), (2, .int wb)]) (st' := [.int wb, .int (μi.1 50 45), .ref 69]) (μ' := μi) (by rfl) ?_
  refine zq_bast hc hH (by rfl) 4 (by decide +kernel) (inii) (b01_bI hw) ?_
  have s1 : a_H (z_ui μi 69 ((μi.1 50 45).toNatClampNeg) wb) := a_H_ui t1 (show bI 0 1 _ from hw)
  have s2 : GW (z_ui μi 69 ((μi.1 50 45).toNatClampNeg) wb) := GW_ne t2 (by decide)
  have s3 : a_Fz md_G μ (z_ui μi 69 ((μi.1 50 45).toNatClampNeg) wb) := a_Fz_ui t3 (a_mda_md (by decide +kernel) _)
  have s4 : ∀ r j, r ≠ 69 → (z_ui μi 69 ((μi.1 50 45).toNatClampNeg) wb).1 r j = μi.1 r j := fun r j hr => by rw [z_ui_rd, if_neg (fun z => hr z.1)]
  generalize z_ui μi 69 ((μi.1 50 45).toNatClampNeg) wb = μj at s1 s2 s3 s4 ⊢
  refine z_rcs hc hH 2 (pc' := 252) (lv' := [(3, .long y), (0, .ref 50), (1, .int (nI cc)), (2, .int wb)]) (st' := [.int wb, .ref 50]) (μ' := μj) (by rfl) ?_
  refine zq_zput hc hH (by rfl) (ci := 6) (f := 59) (by decide +kernel) (b01_bI hw) ?_
  refine z_rcs hc hH 10 (pc' := 271) (lv' := [(3, .long y), (0, .ref 50), (1, .int (nI cc)), (2, .int wb)]) (st' := [.int 1]) (μ' := z_ui (z_ui (z_ui (z_ui μj 50 59 wb) 50 44 2) 50 49 (nI cc)) 50 57 0) (by rfl) ?_
  exact hr 0 271 _ _ _ (some (.int 1)) (by decide +kernel) (z_rx_ok hH (by rfl)) (⟨⟨1, rfl⟩, ⟨a_H_ui (a_H_ui (a_H_ui (a_H_ui s1 hw) ⟨by decide, by decide⟩) (show bI (-1) 33 _ from bd_nI (by omega) ⟨by omega, by omega⟩)) ⟨by decide, by decide⟩, GW_ne (GW_ne (GW_ne (GW_ne s2 (by decide +kernel)) (by decide +kernel)) (by decide +kernel)) (by decide +kernel), fun _ => GP_disc hP1 q1 ha4 hcc hrr y1 e1 l1 er (fun j => by rw [z_ui_rd, if_neg (by omega), z_ui_rd, if_neg (by omega), z_ui_rd, if_neg (by omega), z_ui_rd, if_neg (by omega), s4 60 j (by decide +kernel), t4 60 j (by decide +kernel), v4 60 j (by decide +kernel), u5]) (fun j => by rw [z_ui_rd, if_neg (by omega), z_ui_rd, if_neg (by omega), z_ui_rd, if_neg (by omega), z_ui_rd, if_neg (by omega), s4 64 j (by decide +kernel), t4 64 j (by decide +kernel), v4 64 j (by decide +kernel), u4 64 j (by decide +kernel)]) (fun j => by rw [z_ui_rd, if_neg (by omega), z_ui_rd, if_neg (by omega), z_ui_rd, if_neg (by omega), z_ui_rd, if_neg (by omega), s4 66 j (by decide +kernel), t5, v4 66 j (by decide +kernel), u4 66 j (by decide +kernel)]) (by rw [z_ui_rd, if_neg (by omega), z_ui_rd, if_neg (by omega), z_ui_rd, if_pos ⟨rfl, rfl⟩]) (by rw [z_ui_rd, if_neg (by omega), z_ui_rd, if_pos ⟨rfl, rfl⟩]) (by rw [z_ui_rd, if_neg (by omega), z_ui_rd, if_neg (by omega), z_ui_rd, if_neg (by omega), z_ui_rd, if_neg (by omega), s4 50 46 (by decide +kernel), t4 50 46 (by decide +kernel), v4 50 46 (by decide +kernel), u4 50 46 (by decide +kernel)]) (by rw [z_ui_rd, if_neg (by omega), z_ui_rd, if_neg (by omega), z_ui_rd, if_neg (by omega), z_ui_rd, if_neg (by omega), s4 50 47 (by decide +kernel), t4 50 47 (by decide +kernel), v4 50 47 (by decide +kernel), u4 50 47 (by decide +kernel)]) (by rw [z_ui_rd, if_neg (by omega), z_ui_rd, if_neg (by omega), z_ui_rd, if_neg (by omega), z_ui_rd, if_neg (by omega), s4 50 48 (by decide +kernel), t4 50 48 (by decide +kernel), v4 50 48 (by decide +kernel), u4 50 48 (by decide +kernel)])⟩, a_Fz_ui (a_Fz_ui (a_Fz_ui (a_Fz_ui s3 (by decide +kernel)) (by decide +kernel)) (by decide +kernel)) (by decide +kernel)⟩)
set_option maxRecDepth 2000 in
theorem d83_X7_discard (d' : Nat) (Z : zK) (hd : 703 ≤ d') (μ : zM) (hc : z_clo z_x0 mi_X7_discard (z_C d') Z) (hr : z_ret mi_X7_discard (zPG μ) Z) (a cc : Nat) (ha4 : a < 4) (hcc : cc < 34) (wb : Int32) (hw : bI 0 1 wb) (μ0 : zM) (h0 : GI μ0) (f0 : a_Fz md_G μ μ0) (hP : GP μ0) (y1 : μ0.1 50 44 = 1) (ea : μ0.1 50 45 = nI a) (l1 : 1 ≤ hI μ0 (34 * a + cc)) : Z 0 83 [(0, .ref 50), (1, .int (nI cc)), (2, .int wb)] [] μ0 := by
  have hH := zh_X7_discard
  have ini : vp_in (μ0.1 50 45) 4 := by rw [ea]; exact vp_in_nI ha4 (by decide)
  refine z_rcs hc hH 1 (pc' := 84) (lv' := [(0, .ref 50), (1, .int (nI cc)), (2, .int wb)]) (st' := [.int wb]) (μ' := μ0) (by rfl) ?_
  refine zq_if hc hH (by rfl) (tg := 193) (by rfl) (fun h1 => ?_) (fun h1 => ?_)
  · have h1 := cm_eq9.mp h1
    exact dta_X7_discard d' Z (by omega) μ hc hr a cc ha4 wb hw μ0 hcc h0.1 h0.2.1 f0 hP y1 ea l1
  · have h1 := cn_eq.mp h1
    refine z_rcs hc hH 3 (pc' := 92) (lv' := [(0, .ref 50), (1, .int (nI cc)), (2, .int wb)]) (st' := [.int (μ0.1 50 45), .ref 50]) (μ' := μ0) (by rfl) ?_
    refine zq_call hc (z_cx_ok hH (by rfl)) (a_use (i := 116) (K := ak_116) rfl (by omega) [.ref 50, .int (μ0.1 50 45)] _ (aArg_pre ⟨⟨50, by decide, rfl⟩, ⟨_, rfl, h0.1 50 45⟩, trivial⟩ rfl) h0.1) (by decide +kernel) (fun r9 μ9 hq => ?_)
    obtain ⟨-, hz, hr9⟩ := hq
    obtain ⟨v9, rfl, x9, rfl, -⟩ := hr9
    rw [a_Fz_nil hz]
    clear hz μ9
    show Z 0 95 [(0, .ref 50), (1, .int (nI cc)), (2, .int wb)] [.int x9] μ0
    refine zq_if hc hH (by rfl) (tg := 121) (by rfl) (fun h2 => ?_) (fun h2 => ?_)
    · have h2 := cm_ne.mp h2
      refine z_rcs hc hH 1 (pc' := 122) (lv' := [(0, .ref 50), (1, .int (nI cc)), (2, .int wb)]) (st' := [.int 0]) (μ' := μ0) (by rfl) ?_
      exact hr 0 122 _ _ _ (some (.int 0)) (by decide +kernel) (z_rx_ok hH (by rfl)) (⟨⟨0, rfl⟩, h0, f0⟩)
    · have h2 := cn_ne.mp h2
      refine z_rcs hc hH 4 (pc' := 106) (lv' := [(0, .ref 50), (1, .int (nI cc)), (2, .int wb)]) (st' := [.int (μ0.1 50 45), .ref 61]) (μ' := μ0) (by rfl) ?_
      refine zq_iald hc hH (by rfl) 4 (by decide +kernel) (ini) ?_
      refine z_rcs hc hH 1 (pc' := 110) (lv' := [(0, .ref 50), (1, .int (nI cc)), (2, .int wb)]) (st' := [.int 1000, .int (μ0.1 61 (μ0.1 50 45).toNatClampNeg)]) (μ' := μ0) (by rfl) ?_
      refine zq_ic hc hH (by rfl) (tg := 121) (by rfl) (fun h3 => ?_) (fun h3 => ?_)
      · have h3 := cm_lt.mp h3
        refine z_rcs hc hH 1 (pc' := 122) (lv' := [(0, .ref 50), (1, .int (nI cc)), (2, .int wb)]) (st' := [.int 0]) (μ' := μ0) (by rfl) ?_
        exact hr 0 122 _ _ _ (some (.int 0)) (by decide +kernel) (z_rx_ok hH (by rfl)) (⟨⟨0, rfl⟩, h0, f0⟩)
      · have h3 := cn_lt.mp h3
        refine z_rcs hc hH 1 (pc' := 114) (lv' := [(0, .ref 50), (1, .int (nI cc)), (2, .int wb)]) (st' := [.ref 50]) (μ' := μ0) (by rfl) ?_
        refine zq_call hc (z_cx_ok hH (by rfl)) (fc_X7_left d' (by omega) μ0) (by decide +kernel) (fun r9 μ9 hq => ?_)
        obtain ⟨hμ9, rfl⟩ := hq
        rw [hμ9]
        clear hμ9 μ9
        show Z 0 117 [(0, .ref 50), (1, .int (nI cc)), (2, .int wb)] [.int ((122 - μ0.1 50 47) - μ0.1 50 46)] μ0
        refine z_rcs hc hH 1 (pc' := 118) (lv' := [(0, .ref 50), (1, .int (nI cc)), (2, .int wb)]) (st' := [.int 4, .int ((122 - μ0.1 50 47) - μ0.1 50 46)]) (μ' := μ0) (by rfl) ?_
        refine zq_ic hc hH (by rfl) (tg := 123) (by rfl) (fun h4 => ?_) (fun h4 => ?_)
        · have h4 := cm_ge.mp h4
          refine z_rcs hc hH 5 (pc' := 130) (lv' := [(0, .ref 50), (1, .int (nI cc)), (2, .int wb)]) (st' := [.int (-1), .int (nI cc), .int (μ0.1 50 45), .ref 50]) (μ' := μ0) (by rfl) ?_
          rw [ea]
          refine zq_call hc (z_cx_ok hH (by rfl)) (fc_X7_gives d' (by omega) μ0 a cc (-1) ha4 hcc) (by decide +kernel) (fun r8 μ8 hq => ?_)
          obtain ⟨rfl, rfl⟩ := hq
          have u1 : a_H (z_giv μ0 a cc (-1)) := a_H_ui h0.1 (bI_top _)
          have u3 : a_Fz [(60, 9999)] μ0 (z_giv μ0 a cc (-1)) := a_Fz_ui (a_Fz_rf _ _) (a_mda_md (by decide +kernel) _)
          have u5 := giv_60 μ0 a cc (-1)
          have u6 : (z_giv μ0 a cc (-1)).2 = μ0.2 := giv_2 _ _ _ _
          generalize z_giv μ0 a cc (-1) = μg at u1 u3 u5 u6 ⊢
          have eg : μg.1 50 45 = nI a := (a_Fz_at u3 50 45 (by decide +kernel)).trans ea
          show Z 0 133 [(0, .ref 50), (1, .int (nI cc)), (2, .int wb)] [] μg
          refine z_rcs hc hH 3 (pc' := 138) (lv' := [(0, .ref 50), (1, .int (nI cc)), (2, .int wb)]) (st' := [.int (μg.1 50 45), .ref 50]) (μ' := μg) (by rfl) ?_
          refine zq_call hc (z_cx_ok hH (by rfl)) (a_use (i := 118) (K := ak_118) rfl (by omega) [.ref 50, .int (μg.1 50 45)] _ (aArg_pre ⟨⟨50, by decide, rfl⟩, ⟨_, rfl, u1 50 45⟩, trivial⟩ rfl) u1) (by decide +kernel) (fun r9 μ9 hq => ?_)
          obtain ⟨q9, z9, hr9⟩ := hq
          obtain ⟨v9, rfl, x9, rfl, -⟩ := hr9
          have e9 : μ9.1 50 45 = nI a := (a_Fz_at z9 50 45 (by decide +kernel)).trans eg
          show Z 0 141 [(0, .ref 50), (1, .int (nI cc)), (2, .int wb)] [.long x9] μ9
          refine z_rcs hc hH 6 (pc' := 149) (lv' := [(3, .long x9), (0, .ref 50), (1, .int (nI cc)), (2, .int wb)]) (st' := [.int 1, .int (nI cc), .int (μ9.1 50 45), .ref 50]) (μ' := μ9) (by rfl) ?_
          rw [e9]
          refine zq_call hc (z_cx_ok hH (by rfl)) (fc_X7_gives d' (by omega) μ9 a cc 1 ha4 hcc) (by decide +kernel) (fun r8 μ8 hq => ?_)
          obtain ⟨rfl, rfl⟩ := hq
          have n60 : ∀ j, (z_giv μ9 a cc 1).1 60 j = μ0.1 60 j := fun j => by
            rw [giv_60, a_Fz_at z9 60 j (a_md_row (by decide +kernel)), u5]
            by_cases e : j = 34 * a + cc
            · rw [if_pos e, if_pos e, Int32.add_assoc, i_11, Int32.add_zero]
            · rw [if_neg e, if_neg e]
          have nF : a_Fz md_V μ0 (z_giv μ9 a cc 1) := by
            have w1 : a_Fz ((60, 9999) :: md_V) μ0 (z_giv μ9 a cc 1) := a_Fz_ui (a_Fz_tr (by decide +kernel) (a_Fz_tr (by decide +kernel) (a_Fz_rf _ _) u3) z9) (a_mda_md (by decide +kernel) _)
            refine ⟨fun r j hm => ?_, fun r hm => w1.2 r ?_⟩
            · by_cases e : r = 60
              · subst e; exact ⟨n60 j, by rw [giv_2, (z9.1 60 j (a_md_row (by decide +kernel))).2, u6]⟩
              · exact w1.1 r j (by unfold a_md at hm ⊢; rw [List.any_cons, hm, Bool.or_false]; rw [z_bf (fun h => e h.symm)]; rfl)
            · unfold a_mdr at hm ⊢; rw [List.any_cons, hm, Bool.or_false]; show (Nat.beq 60 r && Nat.beq 9999 9998) = false; rw [show Nat.beq 9999 9998 = false from rfl, Bool.and_false]
          have hN : GI (z_giv μ9 a cc 1) := ⟨a_H_ui q9 (bI_top _), GW_keep h0.2.1 nF (by decide), fun _ => hP.keep nF (by decide)⟩
          have fN : a_Fz md_G μ (z_giv μ9 a cc 1) := a_Fz_tr (by decide +kernel) f0 nF
          have hPN : GP (z_giv μ9 a cc 1) := hP.keep nF (by decide)
          have yN : (z_giv μ9 a cc 1).1 50 44 = 1 := (a_Fz_at nF 50 44 (by decide +kernel)).trans y1
          have eN : (z_giv μ9 a cc 1).1 50 45 = nI a := (a_Fz_at nF 50 45 (by decide +kernel)).trans ea
          have lN : 1 ≤ hI (z_giv μ9 a cc 1) (34 * a + cc) := by unfold hI; rw [n60]; exact l1
          generalize z_giv μ9 a cc 1 = μn at n60 nF hN fN hPN yN eN lN ⊢
          have inn : vp_in (μn.1 50 45) 4 := by rw [eN]; exact vp_in_nI ha4 (by decide)
          show Z 0 152 [(3, .long x9), (0, .ref 50), (1, .int (nI cc)), (2, .int wb)] [] μn
          refine z_rcs hc hH 3 (pc' := 155) (lv' := [(3, .long x9), (0, .ref 50), (1, .int (nI cc)), (2, .int wb)]) (st' := [.int (lg_cmp x9 0)]) (μ' := μn) (by rfl) ?_
          refine zq_if hc hH (by rfl) (tg := 160) (by rfl) (fun h5 => ?_) (fun h5 => ?_)
          · have h5 := cm_ne.mp h5
            refine z_rcs hc hH 8 (pc' := 176) (lv' := [(3, .long x9), (0, .ref 50), (1, .int (nI cc)), (2, .int wb)]) (st' := [.int (μn.1 50 45), .ref 66, .int (μn.1 50 45), .ref 67]) (μ' := μn) (by rfl) ?_
            refine zq_iald hc hH (by rfl) 4 (by decide +kernel) (inn) ?_
            refine zq_if hc hH (by rfl) (tg := 191) (by rfl) (fun h6 => ?_) (fun h6 => ?_)
            · have h6 := cm_ne.mp h6
              refine z_rcs hc hH 1 (pc' := 192) (lv' := [(3, .long x9), (0, .ref 50), (1, .int (nI cc)), (2, .int wb)]) (st' := [.int 1, .int (μn.1 50 45), .ref 67]) (μ' := μn) (by rfl) ?_
              refine zq_iast hc hH (by rfl) 4 (by decide +kernel) (inn) ?_
              exact dtb_X7_discard d' Z (by omega) μ hc hr a cc ha4 wb hw _ (z_ui μn 67 ((μn.1 50 45).toNatClampNeg) 1) hcc (a_H_ui hN.1 (bI_top _)) (GW_ne hN.2.1 (by decide +kernel)) (a_Fz_ui fN (a_mda_md (by decide +kernel) _)) (hPN.keep (md := [(67, 9999)]) (a_Fz_ui (a_Fz_rf _ _) (a_mda_md (by decide +kernel) _)) (by decide +kernel)) yN eN lN
            · have h6 := cn_ne.mp h6
              refine z_rcs hc hH 2 (pc' := 184) (lv' := [(3, .long x9), (0, .ref 50), (1, .int (nI cc)), (2, .int wb)]) (st' := [.int (μn.1 50 56), .int (μn.1 50 45), .ref 67]) (μ' := μn) (by rfl) ?_
              refine zq_if hc hH (by rfl) (tg := 191) (by rfl) (fun h7 => ?_) (fun h7 => ?_)
              · have h7 := cm_eq9.mp h7
                refine z_rcs hc hH 1 (pc' := 192) (lv' := [(3, .long x9), (0, .ref 50), (1, .int (nI cc)), (2, .int wb)]) (st' := [.int 1, .int (μn.1 50 45), .ref 67]) (μ' := μn) (by rfl) ?_
                refine zq_iast hc hH (by rfl) 4 (by decide +kernel) (inn) ?_
                exact dtb_X7_discard d' Z (by omega) μ hc hr a cc ha4 wb hw _ (z_ui μn 67 ((μn.1 50 45).toNatClampNeg) 1) hcc (a_H_ui hN.1 (bI_top _)) (GW_ne hN.2.1 (by decide +kernel)) (a_Fz_ui fN (a_mda_md (by decide +kernel) _)) (hPN.keep (md := [(67, 9999)]) (a_Fz_ui (a_Fz_rf _ _) (a_mda_md (by decide +kernel) _)) (by decide +kernel)) yN eN lN
              · have h7 := cn_eq.mp h7
                refine z_rcs hc hH 2 (pc' := 192) (lv' := [(3, .long x9), (0, .ref 50), (1, .int (nI cc)), (2, .int wb)]) (st' := [.int 2, .int (μn.1 50 45), .ref 67]) (μ' := μn) (by rfl) ?_
                refine zq_iast hc hH (by rfl) 4 (by decide +kernel) (inn) ?_
                exact dtb_X7_discard d' Z (by omega) μ hc hr a cc ha4 wb hw _ (z_ui μn 67 ((μn.1 50 45).toNatClampNeg) 2) hcc (a_H_ui hN.1 (bI_top _)) (GW_ne hN.2.1 (by decide +kernel)) (a_Fz_ui fN (a_mda_md (by decide +kernel) _)) (hPN.keep (md := [(67, 9999)]) (a_Fz_ui (a_Fz_rf _ _) (a_mda_md (by decide +kernel) _)) (by decide +kernel)) yN eN lN
          · have h5 := cn_ne.mp h5
            refine z_rcs hc hH 1 (pc' := 159) (lv' := [(3, .long x9), (0, .ref 50), (1, .int (nI cc)), (2, .int wb)]) (st' := [.int 0]) (μ' := μn) (by rfl) ?_
            exact hr 0 159 _ _ _ (some (.int 0)) (by decide +kernel) (z_rx_ok hH (by rfl)) (⟨⟨0, rfl⟩, hN, fN⟩)
        · have h4 := cn_ge.mp h4
          refine z_rcs hc hH 1 (pc' := 122) (lv' := [(0, .ref 50), (1, .int (nI cc)), (2, .int wb)]) (st' := [.int 0]) (μ' := μ0) (by rfl) ?_
          exact hr 0 122 _ _ _ (some (.int 0)) (by decide +kernel) (z_rx_ok hH (by rfl)) (⟨⟨0, rfl⟩, h0, f0⟩)
set_option maxRecDepth 2000 in
theorem fc_X7_discard (d : Nat) (hd : 704 ≤ d) (μ : zM) (k wb : Int32) (hw : bI 0 1 wb) (hi : GI μ) : z_C d mi_X7_discard [.ref 50, .int k, .int wb] μ (zPG μ) := by
  refine z_C_in (by decide) (by omega) (fun d' Z ed hc hr => ?_)
  have hH := zh_X7_discard
  refine z_rcs hc hH 3 (pc' := 5) (lv' := [(0, .ref 50), (1, .int k), (2, .int wb)]) (st' := []) (μ' := z_ui μ 50 0 0) (by rfl) ?_
  have h0 := hi.put
  obtain ⟨a, ha4, ea⟩ := seat_nI h0.1
  have f0 := fG0 μ
  have ini : vp_in ((z_ui μ 50 0 0).1 50 45) 4 := by rw [ea]; exact vp_in_nI ha4 (by decide)
  generalize z_ui μ 50 0 0 = μ0 at h0 ea f0 ini ⊢
  refine z_rcs hc hH 3 (pc' := 10) (lv' := [(0, .ref 50), (1, .int k), (2, .int wb)]) (st' := [.int 1, .int (μ0.1 50 44)]) (μ' := μ0) (by rfl) ?_
  refine zq_ic hc hH (by rfl) (tg := 32) (by rfl) (fun h1 => ?_) (fun h1 => ?_)
  · have h1 := cm_ne.mp h1
    refine z_rcs hc hH 1 (pc' := 33) (lv' := [(0, .ref 50), (1, .int k), (2, .int wb)]) (st' := [.int 0]) (μ' := μ0) (by rfl) ?_
    exact hr 0 33 _ _ _ (some (.int 0)) (by decide +kernel) (z_rx_ok hH (by rfl)) (⟨⟨0, rfl⟩, h0, f0⟩)
  · have h1 := cn_ne.mp h1
    refine z_rcs hc hH 1 (pc' := 14) (lv' := [(0, .ref 50), (1, .int k), (2, .int wb)]) (st' := [.int k]) (μ' := μ0) (by rfl) ?_
    refine zq_call hc (z_cx_ok hH (by rfl)) (fc_X7_isKind d' (by omega) μ0 k) (by decide +kernel) (fun r9 μ9 hq => ?_)
    obtain ⟨hμ9, hq⟩ := hq
    rw [hμ9]
    clear hμ9 μ9
    obtain ⟨rfl, hk⟩ | ⟨rfl, hk⟩ := hq
    · show Z 0 17 [(0, .ref 50), (1, .int k), (2, .int wb)] [.int 1] μ0
      refine z_rcs hc hH 5 (pc' := 26) (lv' := [(0, .ref 50), (1, .int k), (2, .int wb)]) (st' := [.int k, .int (μ0.1 50 45), .ref 50]) (μ' := μ0) (by rfl) ?_
      obtain ⟨cc, hcc, rfl⟩ := vp_in_of hk (by decide)
      rw [ea]
      refine zq_call hc (z_cx_ok hH (by rfl)) (fc_X7_has_ d' (by omega) μ0 a cc ha4 hcc) (by decide +kernel) (fun r9 μ9 hq => ?_)
      obtain ⟨hμ9, rfl⟩ := hq
      rw [hμ9]
      clear hμ9 μ9
      show Z 0 29 [(0, .ref 50), (1, .int (nI cc)), (2, .int wb)] [.int (μ0.1 60 (34 * a + cc))] μ0
      refine zq_if hc hH (by rfl) (tg := 34) (by rfl) (fun h2 => ?_) (fun h2 => ?_)
      · have h2 := cm_ne.mp h2
        have y1 : μ0.1 50 44 = 1 := h1
        have hP := h0.2.2 (by rw [y1]; decide)
        have l0 := hP.1.1 (34 * a + cc) (by omega)
        have l1 : 1 ≤ hI μ0 (34 * a + cc) := by
          have z : hI μ0 (34 * a + cc) ≠ 0 := fun q9 => h2 (Int32.toInt_inj.mp q9)
          omega
        have m83 := d83_X7_discard d' Z (by omega) μ hc hr a cc ha4 hcc wb hw μ0 h0 f0 hP y1 ea l1
        refine z_rcs hc hH 2 (pc' := 38) (lv' := [(0, .ref 50), (1, .int (nI cc)), (2, .int wb)]) (st' := [.int (μ0.1 50 57)]) (μ' := μ0) (by rfl) ?_
        refine zq_if hc hH (by rfl) (tg := 57) (by rfl) (fun h3 => ?_) (fun h3 => ?_)
        · have h3 := cm_eq9.mp h3
          refine z_rcs hc hH 4 (pc' := 65) (lv' := [(0, .ref 50), (1, .int (nI cc)), (2, .int wb)]) (st' := [.int (μ0.1 50 45), .ref 67]) (μ' := μ0) (by rfl) ?_
          refine zq_iald hc hH (by rfl) 4 (by decide +kernel) (ini) ?_
          refine zq_if hc hH (by rfl) (tg := 83) (by rfl) (fun h4 => ?_) (fun h4 => ?_)
          · have h4 := cm_le.mp h4
            exact m83
          · have h4 := cn_le.mp h4
            refine z_rcs hc hH 1 (pc' := 70) (lv' := [(0, .ref 50), (1, .int (nI cc)), (2, .int wb)]) (st' := [.int wb]) (μ' := μ0) (by rfl) ?_
            refine zq_if hc hH (by rfl) (tg := 81) (by rfl) (fun h5 => ?_) (fun h5 => ?_)
            · have h5 := cm_ne.mp h5
              refine z_rcs hc hH 1 (pc' := 82) (lv' := [(0, .ref 50), (1, .int (nI cc)), (2, .int wb)]) (st' := [.int 0]) (μ' := μ0) (by rfl) ?_
              exact hr 0 82 _ _ _ (some (.int 0)) (by decide +kernel) (z_rx_ok hH (by rfl)) (⟨⟨0, rfl⟩, h0, f0⟩)
            · have h5 := cn_ne.mp h5
              refine z_rcs hc hH 3 (pc' := 78) (lv' := [(0, .ref 50), (1, .int (nI cc)), (2, .int wb)]) (st' := [.int (μ0.1 50 49), .int (nI cc)]) (μ' := μ0) (by rfl) ?_
              refine zq_ic hc hH (by rfl) (tg := 83) (by rfl) (fun h6 => ?_) (fun h6 => ?_)
              · have h6 := cm_eq9.mp h6
                exact m83
              · have h6 := cn_eq.mp h6
                refine z_rcs hc hH 1 (pc' := 82) (lv' := [(0, .ref 50), (1, .int (nI cc)), (2, .int wb)]) (st' := [.int 0]) (μ' := μ0) (by rfl) ?_
                exact hr 0 82 _ _ _ (some (.int 0)) (by decide +kernel) (z_rx_ok hH (by rfl)) (⟨⟨0, rfl⟩, h0, f0⟩)
        · have h3 := cn_eq.mp h3
          refine z_rcs hc hH 3 (pc' := 46) (lv' := [(0, .ref 50), (1, .int (nI cc)), (2, .int wb)]) (st' := [.int (μ0.1 50 50), .int (nI cc)]) (μ' := μ0) (by rfl) ?_
          refine zq_ic hc hH (by rfl) (tg := 81) (by rfl) (fun h7 => ?_) (fun h7 => ?_)
          · have h7 := cm_eq9.mp h7
            refine z_rcs hc hH 1 (pc' := 82) (lv' := [(0, .ref 50), (1, .int (nI cc)), (2, .int wb)]) (st' := [.int 0]) (μ' := μ0) (by rfl) ?_
            exact hr 0 82 _ _ _ (some (.int 0)) (by decide +kernel) (z_rx_ok hH (by rfl)) (⟨⟨0, rfl⟩, h0, f0⟩)
          · have h7 := cn_eq.mp h7
            refine z_rcs hc hH 3 (pc' := 54) (lv' := [(0, .ref 50), (1, .int (nI cc)), (2, .int wb)]) (st' := [.int (μ0.1 50 51), .int (nI cc)]) (μ' := μ0) (by rfl) ?_
            refine zq_ic hc hH (by rfl) (tg := 81) (by rfl) (fun h8 => ?_) (fun h8 => ?_)
            · have h8 := cm_eq9.mp h8
              refine z_rcs hc hH 1 (pc' := 82) (lv' := [(0, .ref 50), (1, .int (nI cc)), (2, .int wb)]) (st' := [.int 0]) (μ' := μ0) (by rfl) ?_
              exact hr 0 82 _ _ _ (some (.int 0)) (by decide +kernel) (z_rx_ok hH (by rfl)) (⟨⟨0, rfl⟩, h0, f0⟩)
            · have h8 := cn_eq.mp h8
              refine z_rcs hc hH 4 (pc' := 65) (lv' := [(0, .ref 50), (1, .int (nI cc)), (2, .int wb)]) (st' := [.int (μ0.1 50 45), .ref 67]) (μ' := μ0) (by rfl) ?_
              refine zq_iald hc hH (by rfl) 4 (by decide +kernel) (ini) ?_
              refine zq_if hc hH (by rfl) (tg := 83) (by rfl) (fun h9 => ?_) (fun h9 => ?_)
              · have h9 := cm_le.mp h9
                exact m83
              · have h9 := cn_le.mp h9
                refine z_rcs hc hH 1 (pc' := 70) (lv' := [(0, .ref 50), (1, .int (nI cc)), (2, .int wb)]) (st' := [.int wb]) (μ' := μ0) (by rfl) ?_
                refine zq_if hc hH (by rfl) (tg := 81) (by rfl) (fun h10 => ?_) (fun h10 => ?_)
                · have h10 := cm_ne.mp h10
                  refine z_rcs hc hH 1 (pc' := 82) (lv' := [(0, .ref 50), (1, .int (nI cc)), (2, .int wb)]) (st' := [.int 0]) (μ' := μ0) (by rfl) ?_
                  exact hr 0 82 _ _ _ (some (.int 0)) (by decide +kernel) (z_rx_ok hH (by rfl)) (⟨⟨0, rfl⟩, h0, f0⟩)
                · have h10 := cn_ne.mp h10
                  refine z_rcs hc hH 3 (pc' := 78) (lv' := [(0, .ref 50), (1, .int (nI cc)), (2, .int wb)]) (st' := [.int (μ0.1 50 49), .int (nI cc)]) (μ' := μ0) (by rfl) ?_
                  refine zq_ic hc hH (by rfl) (tg := 83) (by rfl) (fun h11 => ?_) (fun h11 => ?_)
                  · have h11 := cm_eq9.mp h11
                    exact m83
                  · have h11 := cn_eq.mp h11
                    refine z_rcs hc hH 1 (pc' := 82) (lv' := [(0, .ref 50), (1, .int (nI cc)), (2, .int wb)]) (st' := [.int 0]) (μ' := μ0) (by rfl) ?_
                    exact hr 0 82 _ _ _ (some (.int 0)) (by decide +kernel) (z_rx_ok hH (by rfl)) (⟨⟨0, rfl⟩, h0, f0⟩)
      · have h2 := cn_ne.mp h2
        refine z_rcs hc hH 1 (pc' := 33) (lv' := [(0, .ref 50), (1, .int (nI cc)), (2, .int wb)]) (st' := [.int 0]) (μ' := μ0) (by rfl) ?_
        exact hr 0 33 _ _ _ (some (.int 0)) (by decide +kernel) (z_rx_ok hH (by rfl)) (⟨⟨0, rfl⟩, h0, f0⟩)
    · show Z 0 17 [(0, .ref 50), (1, .int k), (2, .int wb)] [.int 0] μ0
      refine z_rcs hc hH 2 (pc' := 33) (lv' := [(0, .ref 50), (1, .int k), (2, .int wb)]) (st' := [.int 0]) (μ' := μ0) (by rfl) ?_
      exact hr 0 33 _ _ _ (some (.int 0)) (by decide +kernel) (z_rx_ok hH (by rfl)) (⟨⟨0, rfl⟩, h0, f0⟩)
/-! deal -/
theorem zq_lrem {xs : Nat × (Nat → Int32)} {j : Nat} {C : Nat → List Value → zM → zQ → Prop} {Z : zK} {code : zT} {np oc nL : Nat} {b pc : Nat} {lv : zL} {μ : zM} (h : z_clo xs j C Z) (hH : zH j code np oc nL) (hi : z_tk code.2.1 pc = some .lrem) {x y : Int64} {t : List Value} (hy : ¬ y = 0) (k : Z b (pc + 1) lv (.long (x - x / y * y) :: t) μ) : Z b pc lv (.long y :: .long x :: t) μ := by
  refine zq_st h hH hi ?_ k
  show (match (bif y == 0 then none else some (Value.long (x - x / y * y) :: t)) with | some st' => some (pc + 1, lv, st', μ) | none => _) = _
  rw [beq_eq_false_iff_ne.mpr hy]
  rfl
theorem nI_d4 : ∀ i, i < 136 → nI i / 4 = nI (i / 4) := by decide +kernel
theorem nI_d13 : ∀ i, i < 52 → nI i / 13 = nI (i / 13) := by decide +kernel
theorem nI_m1 (i : Nat) : nI (i + 1) + (-1) = nI i := by rw [← nI_1, Int32.add_assoc, show (1 : Int32) + (-1) = 0 from rfl, Int32.add_zero]
theorem le_nI0 {i : Nat} (h : i + 1 < 2 ^ 31) : z_cmp .le (nI (i + 1)) 0 = false := cn_le.mpr (fun q => by
  rw [Int32.le_iff_toInt_le, nI_toInt h] at q
  have q : ((i + 1 : Nat) : Int) ≤ 0 := q
  omega)
/-- the place that a tile of the wall changes with -/
theorem dl_j (x : Int64) (i : Nat) (hi : i < 135) : ¬ (nI (i + 1) + 1).toInt64 = 0 ∧ ∃ j, j < 136 ∧ ((x.toUInt64 >>> ((33 : Int32).toInt64.toUInt64 &&& Int64.toUInt64 63)).toInt64 - (x.toUInt64 >>> ((33 : Int32).toInt64.toUInt64 &&& Int64.toUInt64 63)).toInt64 / (nI (i + 1) + 1).toInt64 * (nI (i + 1) + 1).toInt64).toInt32 = nI j := by
  have hX : bL 0 2147483647 (x.toUInt64 >>> ((33 : Int32).toInt64.toUInt64 &&& Int64.toUInt64 63)).toInt64 := bL_s33 (s := ((33 : Int32).toInt64.toUInt64 &&& Int64.toUInt64 63)) (by decide) rfl
  have hY : bL ((i + 2 : Nat) : Int) ((i + 2 : Nat) : Int) (nI (i + 1) + 1).toInt64 := bL_i2l rfl (by rw [nI_1]; exact bd_nI (by omega) ⟨by omega, by omega⟩)
  refine ⟨bL_ne hY (Or.inl (by omega)), ?_⟩
  generalize (x.toUInt64 >>> ((33 : Int32).toInt64.toUInt64 &&& Int64.toUInt64 63)).toInt64 = X at hX ⊢
  generalize (nI (i + 1) + 1).toInt64 = Y at hY ⊢
  have hR : bL 0 (i + 1) (X - X / Y * Y) := bL_remn rfl hX hY ⟨by omega, by omega, by omega⟩
  have hI : bI 0 (i + 1) (X - X / Y * Y).toInt32 := bI_l2i rfl hR ⟨by omega, by omega⟩
  exact a_nI (n := 136) hI.1 (by have := hI.2; omega) (by decide)
noncomputable def DA (r : Nat) (μ0 μ1 : zM) : Prop := a_H μ1 ∧ a_Fz [(r, 9999)] μ0 μ1
theorem DA.ui {r k : Nat} {x : Int32} {μ0 μ1 : zM} (h : DA r μ0 μ1) (hx : a_bi (a_bd r k) x) : DA r μ0 (z_ui μ1 r k x) := ⟨a_H_ui h.1 hx, a_Fz_ui h.2 (a_mda_md (by unfold a_mda; simp) _)⟩
theorem HR1 {μ μ' : zM} {a c : Nat} (h0 : 0 ≤ hI μ (34 * a + c)) (h1 : hI μ (34 * a + c) ≤ 20) (e : ∀ j, μ'.1 60 j = if j = 34 * a + c then μ.1 60 j + 1 else μ.1 60 j) : HR μ μ' a c 1 := by
  refine ⟨?_, fun j hj => by unfold hI; rw [e, if_neg hj]⟩
  show (μ'.1 60 (34 * a + c)).toInt = _
  rw [e, if_pos rfl]
  have b : bI (hI μ (34 * a + c) + 1) (hI μ (34 * a + c) + 1) (μ.1 60 (34 * a + c) + 1) := bI_add rfl (a := hI μ (34 * a + c)) (b := hI μ (34 * a + c)) ⟨Int.le_refl _, Int.le_refl _⟩ (c := 1) (d := 1) ⟨by decide, by decide⟩ ⟨by omega, by omega, by omega, by omega⟩
  have := b.1
  have := b.2
  omega
/-- how many tiles a SEAT has after i -/
noncomputable def gd (i s : Nat) : Int := if i ≤ 13 * s then 0 else if i ≤ 13 * s + 13 then (i : Int) - 13 * s else 13
noncomputable def DD (D : Nat) (μ0 : zM) (i : Nat) (μ1 : zM) : Prop := DA 60 μ0 μ1 ∧ (∀ j, j < 136 → 0 ≤ hI μ1 j) ∧ ∀ s, s < 4 → hs μ1 ((D + s) % 4) ≤ gd i s
theorem DD.step {D i c : Nat} {μ0 μ1 : zM} (h : DD D μ0 i μ1) (hD : D < 4) (hi : i < 52) (hc : c < 34) : DD D μ0 (i + 1) (z_giv μ1 ((D + i / 13) % 4) c 1) := by
  obtain ⟨h1, h2, h3⟩ := h
  have ha : (D + i / 13) % 4 < 4 := Nat.mod_lt _ (by decide)
  have b0 := h2 (34 * ((D + i / 13) % 4) + c) (by omega)
  have b1 := h3 (i / 13) (by omega)
  have b2 : hI μ1 (34 * ((D + i / 13) % 4) + c) ≤ hs μ1 ((D + i / 13) % 4) := si_le (f := fun k => hI μ1 (34 * ((D + i / 13) % 4) + k)) (fun k hk => h2 _ (by omega)) hc
  have b3 : gd i (i / 13) ≤ 13 := by unfold gd; split; · decide
                                     split <;> omega
  have hr := HR1 b0 (by omega) (giv_60 μ1 ((D + i / 13) % 4) c 1)
  refine ⟨h1.ui (bI_top _), fun j hj => ?_, fun s hs4 => ?_⟩
  · by_cases e : j = 34 * ((D + i / 13) % 4) + c
    · rw [e, hr.1]; omega
    · rw [hr.2 j e]; exact h2 j hj
  · by_cases e : s = i / 13
    · subst e
      rw [hr.sum hc]
      have : gd i (i / 13) + 1 ≤ gd (i + 1) (i / 13) := by
        unfold gd
        rw [if_neg (show ¬ i + 1 ≤ 13 * (i / 13) by omega), if_pos (show i + 1 ≤ 13 * (i / 13) + 13 by omega)]
        split
        · omega
        · rw [if_pos (by omega)]; omega
      omega
    · rw [hr.sum' hc (by omega)]
      have : gd i s ≤ gd (i + 1) s := by
        unfold gd
        split
        · split
          · omega
          · split <;> omega
        · split
          · split
            · omega
            · split <;> omega
          · split
            · omega
            · split <;> omega
      have := h3 s hs4
      omega
noncomputable def md_dE : List (Nat × Nat) := [(64, 9999), (66, 9999), (67, 9999), (68, 9999), (69, 9999), (70, 9999), (71, 9999)]
noncomputable def DE (μ0 : zM) (i : Nat) (μ1 : zM) : Prop := a_H μ1 ∧ a_Fz md_dE μ0 μ1 ∧ ∀ j, j < i → μ1.1 64 j = 0 ∧ μ1.1 66 j = 0
theorem zh_X7_deal : zH mi_X7_deal zt_X7_deal 79 7 8 := hh_X7_deal
theorem dl26 (d' : Nat) (Z : zK) (hd : 703 ≤ d') (μ : zM) (hc : z_clo z_x0 mi_X7_deal (z_C d') Z) (hr : z_ret mi_X7_deal (zPG μ) Z) (x sd : Int64) (μ0 : zM) (K : ∀ μ1, DA 59 μ0 μ1 → Z 0 51 [(5, .int (nI 136)), (3, .long x), (0, .ref 50), (1, .long sd)] [] μ1) : ∀ n i, i + n = 136 → ∀ μ1, DA 59 μ0 μ1 → Z 0 26 [(5, .int (nI i)), (3, .long x), (0, .ref 50), (1, .long sd)] [] μ1 := by
  have hH := zh_X7_deal
  intro n
  induction n with
  | zero =>
    intro i hi μ1 g1
    have hi : i = 136 := by omega
    subst hi
    refine z_rcs hc hH 2 (pc' := 31) (lv' := [(5, .int (nI 136)), (3, .long x), (0, .ref 50), (1, .long sd)]) (st' := [.int 136, .int (nI 136)]) (μ' := μ1) (by rfl) ?_
    refine zq_ic hc hH (by rfl) (tg := 51) (by rfl) (fun _ => ?_) (fun h9 => (zb_t (ge_nIt (n := 136) (i := 136) (by decide) (by decide)) h9).elim)
    exact K μ1 g1
  | succ n ih =>
    intro i hi μ1 g1
    refine z_rcs hc hH 2 (pc' := 31) (lv' := [(5, .int (nI i)), (3, .long x), (0, .ref 50), (1, .long sd)]) (st' := [.int 136, .int (nI i)]) (μ' := μ1) (by rfl) ?_
    refine zq_ic hc hH (by rfl) (tg := 51) (by rfl) (fun h9 => (zb_t h9 (ge_nI (n := 136) (i := i) (by omega) (by decide))).elim) (fun _ => ?_)
    refine z_rcs hc hH 6 (pc' := 44) (lv' := [(5, .int (nI i)), (3, .long x), (0, .ref 50), (1, .long sd)]) (st' := [.int ((nI i) / 4), .int (nI i), .ref 59]) (μ' := μ1) (by rfl) ?_
    rw [nI_d4 i (by omega)]
    refine zq_iast hc hH (by rfl) 136 (by decide +kernel) (vp_in_nI (by omega) (by decide)) ?_
    have g2 : DA 59 μ0 (z_ui μ1 59 ((nI i).toNatClampNeg) (nI (i / 4))) := g1.ui (show bI 0 33 _ from bd_nI (by omega) ⟨by omega, by omega⟩)
    generalize z_ui μ1 59 ((nI i).toNatClampNeg) (nI (i / 4)) = μ2 at g2 ⊢
    refine z_rcs hc hH 2 (pc' := 26) (lv' := [(5, .int ((nI i) + 1)), (3, .long x), (0, .ref 50), (1, .long sd)]) (st' := []) (μ' := μ2) (by rfl) ?_
    rw [nI_1]
    exact ih (i + 1) (by omega) μ2 g2
theorem dl56 (d' : Nat) (Z : zK) (hd : 703 ≤ d') (μ : zM) (hc : z_clo z_x0 mi_X7_deal (z_C d') Z) (hr : z_ret mi_X7_deal (zPG μ) Z) (sd : Int64) (μ0 : zM) (K : ∀ (x : Int64) (kv jv : Int32) μ1, DA 59 μ0 μ1 → Z 0 122 [(5, .int (nI 0)), (7, .int kv), (6, .int jv), (3, .long x), (0, .ref 50), (1, .long sd)] [] μ1) : ∀ i, i < 135 → ∀ (x : Int64) (kv jv : Int32) μ1, DA 59 μ0 μ1 → Z 0 56 [(5, .int (nI i)), (7, .int kv), (6, .int jv), (3, .long x), (0, .ref 50), (1, .long sd)] [] μ1 := by
  have hH := zh_X7_deal
  intro i
  induction i with
  | zero =>
    intro hi x kv jv μ1 g1
    refine z_rcs hc hH 1 (pc' := 58) (lv' := [(5, .int (nI 0)), (7, .int kv), (6, .int jv), (3, .long x), (0, .ref 50), (1, .long sd)]) (st' := [.int (nI 0)]) (μ' := μ1) (by rfl) ?_
    refine zq_if hc hH (by rfl) (tg := 122) (by rfl) (fun _ => ?_) (fun h9 => (zb_t (by decide) h9).elim)
    exact K x kv jv μ1 g1
  | succ i ih =>
    intro hi x kv jv μ1 g1
    refine z_rcs hc hH 1 (pc' := 58) (lv' := [(5, .int (nI (i + 1))), (7, .int kv), (6, .int jv), (3, .long x), (0, .ref 50), (1, .long sd)]) (st' := [.int (nI (i + 1))]) (μ' := μ1) (by rfl) ?_
    refine zq_if hc hH (by rfl) (tg := 122) (by rfl) (fun h9 => (zb_t h9 (le_nI0 (by omega))).elim) (fun _ => ?_)
    refine z_rcs hc hH 6 (pc' := 71) (lv' := [(3, .long ((x * 6364136223846793005) + 1442695040888963407)), (5, .int (nI (i + 1))), (7, .int kv), (6, .int jv), (0, .ref 50), (1, .long sd)]) (st' := []) (μ' := μ1) (by rfl) ?_
    generalize (x * 6364136223846793005) + 1442695040888963407 = x1
    refine z_rcs hc hH 7 (pc' := 80) (lv' := [(3, .long x1), (5, .int (nI (i + 1))), (7, .int kv), (6, .int jv), (0, .ref 50), (1, .long sd)]) (st' := [.long (((nI (i + 1)) + 1).toInt64), .long ((x1.toUInt64 >>> ((33 : Int32).toInt64.toUInt64 &&& Int64.toUInt64 63)).toInt64)]) (μ' := μ1) (by rfl) ?_
    obtain ⟨hne, j, hj, ej⟩ := dl_j x1 i (by omega)
    refine zq_lrem hc hH (by rfl) hne ?_
    refine z_rcs hc hH 1 (pc' := 82) (lv' := [(3, .long x1), (5, .int (nI (i + 1))), (7, .int kv), (6, .int jv), (0, .ref 50), (1, .long sd)]) (st' := [.int ((((x1.toUInt64 >>> ((33 : Int32).toInt64.toUInt64 &&& Int64.toUInt64 63)).toInt64) - ((x1.toUInt64 >>> ((33 : Int32).toInt64.toUInt64 &&& Int64.toUInt64 63)).toInt64) / (((nI (i + 1)) + 1).toInt64) * (((nI (i + 1)) + 1).toInt64)).toInt32)]) (μ' := μ1) (by rfl) ?_
    rw [ej]
    refine z_rcs hc hH 4 (pc' := 90) (lv' := [(6, .int (nI j)), (3, .long x1), (5, .int (nI (i + 1))), (7, .int kv), (0, .ref 50), (1, .long sd)]) (st' := [.int (nI (i + 1)), .ref 59]) (μ' := μ1) (by rfl) ?_
    refine zq_iald hc hH (by rfl) 136 (by decide +kernel) (vp_in_nI (by omega) (by decide)) ?_
    have bk : bI 0 33 (μ1.1 59 (nI (i + 1)).toNatClampNeg) := g1.1 59 _
    generalize μ1.1 59 (nI (i + 1)).toNatClampNeg = kk at bk ⊢
    refine z_rcs hc hH 7 (pc' := 105) (lv' := [(7, .int kk), (6, .int (nI j)), (3, .long x1), (5, .int (nI (i + 1))), (0, .ref 50), (1, .long sd)]) (st' := [.int (nI j), .ref 59, .int (nI (i + 1)), .ref 59]) (μ' := μ1) (by rfl) ?_
    refine zq_iald hc hH (by rfl) 136 (by decide +kernel) (vp_in_nI (by omega) (by decide)) ?_
    refine zq_iast hc hH (by rfl) 136 (by decide +kernel) (vp_in_nI (by omega) (by decide)) ?_
    have g2 : DA 59 μ0 (z_ui μ1 59 ((nI (i + 1)).toNatClampNeg) (μ1.1 59 (nI j).toNatClampNeg)) := g1.ui (show bI 0 33 _ from g1.1 59 _)
    generalize z_ui μ1 59 ((nI (i + 1)).toNatClampNeg) (μ1.1 59 (nI j).toNatClampNeg) = μ2 at g2 ⊢
    refine z_rcs hc hH 4 (pc' := 115) (lv' := [(7, .int kk), (6, .int (nI j)), (3, .long x1), (5, .int (nI (i + 1))), (0, .ref 50), (1, .long sd)]) (st' := [.int kk, .int (nI j), .ref 59]) (μ' := μ2) (by rfl) ?_
    refine zq_iast hc hH (by rfl) 136 (by decide +kernel) (vp_in_nI (by omega) (by decide)) ?_
    have g3 : DA 59 μ0 (z_ui μ2 59 ((nI j).toNatClampNeg) kk) := g2.ui (show bI 0 33 _ from bk)
    generalize z_ui μ2 59 ((nI j).toNatClampNeg) kk = μ3 at g3 ⊢
    refine z_rcs hc hH 2 (pc' := 56) (lv' := [(5, .int ((nI (i + 1)) + (-1))), (7, .int kk), (6, .int (nI j)), (3, .long x1), (0, .ref 50), (1, .long sd)]) (st' := []) (μ' := μ3) (by rfl) ?_
    rw [nI_m1]
    exact ih (by omega) x1 kk (nI j) μ3 g3
theorem dl51 (d' : Nat) (Z : zK) (hd : 703 ≤ d') (μ : zM) (hc : z_clo z_x0 mi_X7_deal (z_C d') Z) (hr : z_ret mi_X7_deal (zPG μ) Z) (x sd : Int64) (μ0 μ1 : zM) (g1 : DA 59 μ0 μ1) (K : ∀ (x : Int64) (kv jv : Int32) μ1, DA 59 μ0 μ1 → Z 0 122 [(5, .int (nI 0)), (7, .int kv), (6, .int jv), (3, .long x), (0, .ref 50), (1, .long sd)] [] μ1) : Z 0 51 [(5, .int (nI 136)), (3, .long x), (0, .ref 50), (1, .long sd)] [] μ1 := by
  have hH := zh_X7_deal
  refine z_rcs hc hH 2 (pc' := 56) (lv' := [(5, .int 135), (3, .long x), (0, .ref 50), (1, .long sd)]) (st' := []) (μ' := μ1) (by rfl) ?_
  show Z 0 56 [(5, .int (nI (134 + 1))), (3, .long x), (0, .ref 50), (1, .long sd)] [] μ1
  refine z_rcs hc hH 1 (pc' := 58) (lv' := [(5, .int (nI (134 + 1))), (3, .long x), (0, .ref 50), (1, .long sd)]) (st' := [.int (nI (134 + 1))]) (μ' := μ1) (by rfl) ?_
  refine zq_if hc hH (by rfl) (tg := 122) (by rfl) (fun h9 => (zb_t h9 (le_nI0 (i := 134) (by omega))).elim) (fun _ => ?_)
  refine z_rcs hc hH 6 (pc' := 71) (lv' := [(3, .long ((x * 6364136223846793005) + 1442695040888963407)), (5, .int (nI (134 + 1))), (0, .ref 50), (1, .long sd)]) (st' := []) (μ' := μ1) (by rfl) ?_
  generalize (x * 6364136223846793005) + 1442695040888963407 = x1
  refine z_rcs hc hH 7 (pc' := 80) (lv' := [(3, .long x1), (5, .int (nI (134 + 1))), (0, .ref 50), (1, .long sd)]) (st' := [.long (((nI (134 + 1)) + 1).toInt64), .long ((x1.toUInt64 >>> ((33 : Int32).toInt64.toUInt64 &&& Int64.toUInt64 63)).toInt64)]) (μ' := μ1) (by rfl) ?_
  obtain ⟨hne, j, hj, ej⟩ := dl_j x1 134 (by omega)
  refine zq_lrem hc hH (by rfl) hne ?_
  refine z_rcs hc hH 1 (pc' := 82) (lv' := [(3, .long x1), (5, .int (nI (134 + 1))), (0, .ref 50), (1, .long sd)]) (st' := [.int ((((x1.toUInt64 >>> ((33 : Int32).toInt64.toUInt64 &&& Int64.toUInt64 63)).toInt64) - ((x1.toUInt64 >>> ((33 : Int32).toInt64.toUInt64 &&& Int64.toUInt64 63)).toInt64) / (((nI (134 + 1)) + 1).toInt64) * (((nI (134 + 1)) + 1).toInt64)).toInt32)]) (μ' := μ1) (by rfl) ?_
  rw [ej]
  refine z_rcs hc hH 4 (pc' := 90) (lv' := [(6, .int (nI j)), (3, .long x1), (5, .int (nI (134 + 1))), (0, .ref 50), (1, .long sd)]) (st' := [.int (nI (134 + 1)), .ref 59]) (μ' := μ1) (by rfl) ?_
  refine zq_iald hc hH (by rfl) 136 (by decide +kernel) (vp_in_nI (by omega) (by decide)) ?_
  have bk : bI 0 33 (μ1.1 59 (nI (134 + 1)).toNatClampNeg) := g1.1 59 _
  generalize μ1.1 59 (nI (134 + 1)).toNatClampNeg = kk at bk ⊢
  refine z_rcs hc hH 7 (pc' := 105) (lv' := [(7, .int kk), (6, .int (nI j)), (3, .long x1), (5, .int (nI (134 + 1))), (0, .ref 50), (1, .long sd)]) (st' := [.int (nI j), .ref 59, .int (nI (134 + 1)), .ref 59]) (μ' := μ1) (by rfl) ?_
  refine zq_iald hc hH (by rfl) 136 (by decide +kernel) (vp_in_nI (by omega) (by decide)) ?_
  refine zq_iast hc hH (by rfl) 136 (by decide +kernel) (vp_in_nI (by omega) (by decide)) ?_
  have g2 : DA 59 μ0 (z_ui μ1 59 ((nI (134 + 1)).toNatClampNeg) (μ1.1 59 (nI j).toNatClampNeg)) := g1.ui (show bI 0 33 _ from g1.1 59 _)
  generalize z_ui μ1 59 ((nI (134 + 1)).toNatClampNeg) (μ1.1 59 (nI j).toNatClampNeg) = μ2 at g2 ⊢
  refine z_rcs hc hH 4 (pc' := 115) (lv' := [(7, .int kk), (6, .int (nI j)), (3, .long x1), (5, .int (nI (134 + 1))), (0, .ref 50), (1, .long sd)]) (st' := [.int kk, .int (nI j), .ref 59]) (μ' := μ2) (by rfl) ?_
  refine zq_iast hc hH (by rfl) 136 (by decide +kernel) (vp_in_nI (by omega) (by decide)) ?_
  have g3 : DA 59 μ0 (z_ui μ2 59 ((nI j).toNatClampNeg) kk) := g2.ui (show bI 0 33 _ from bk)
  generalize z_ui μ2 59 ((nI j).toNatClampNeg) kk = μ3 at g3 ⊢
  refine z_rcs hc hH 2 (pc' := 56) (lv' := [(5, .int ((nI (134 + 1)) + (-1))), (7, .int kk), (6, .int (nI j)), (3, .long x1), (0, .ref 50), (1, .long sd)]) (st' := []) (μ' := μ3) (by rfl) ?_
  rw [nI_m1]
  exact dl56 d' Z hd μ hc hr sd μ0 K 134 (by omega) x1 kk (nI j) μ3 g3
theorem dl125 (d' : Nat) (Z : zK) (hd : 703 ≤ d') (μ : zM) (hc : z_clo z_x0 mi_X7_deal (z_C d') Z) (hr : z_ret mi_X7_deal (zPG μ) Z) (x sd : Int64) (kv jv : Int32) (μ0 : zM) (K : ∀ μ1, DA 60 μ0 μ1 → (∀ j, j < 136 → μ1.1 60 j = 0) → Z 0 149 [(5, .int (nI 136)), (7, .int kv), (6, .int jv), (3, .long x), (0, .ref 50), (1, .long sd)] [] μ1) : ∀ n i, i + n = 136 → ∀ μ1, DA 60 μ0 μ1 → (∀ j, j < i → μ1.1 60 j = 0) → Z 0 125 [(5, .int (nI i)), (7, .int kv), (6, .int jv), (3, .long x), (0, .ref 50), (1, .long sd)] [] μ1 := by
  have hH := zh_X7_deal
  intro n
  induction n with
  | zero =>
    intro i hi μ1 g1 z1
    have hi : i = 136 := by omega
    subst hi
    refine z_rcs hc hH 4 (pc' := 132) (lv' := [(5, .int (nI 136)), (7, .int kv), (6, .int jv), (3, .long x), (0, .ref 50), (1, .long sd)]) (st' := [.int 136, .int (nI 136)]) (μ' := μ1) (by rfl) ?_
    refine zq_ic hc hH (by rfl) (tg := 149) (by rfl) (fun _ => ?_) (fun h9 => (zb_t (ge_nIt (n := 136) (i := 136) (by decide) (by decide)) h9).elim)
    exact K μ1 g1 z1
  | succ n ih =>
    intro i hi μ1 g1 z1
    refine z_rcs hc hH 4 (pc' := 132) (lv' := [(5, .int (nI i)), (7, .int kv), (6, .int jv), (3, .long x), (0, .ref 50), (1, .long sd)]) (st' := [.int 136, .int (nI i)]) (μ' := μ1) (by rfl) ?_
    refine zq_ic hc hH (by rfl) (tg := 149) (by rfl) (fun h9 => (zb_t h9 (ge_nI (n := 136) (i := i) (by omega) (by decide))).elim) (fun _ => ?_)
    refine z_rcs hc hH 4 (pc' := 142) (lv' := [(5, .int (nI i)), (7, .int kv), (6, .int jv), (3, .long x), (0, .ref 50), (1, .long sd)]) (st' := [.int 0, .int (nI i), .ref 60]) (μ' := μ1) (by rfl) ?_
    refine zq_iast hc hH (by rfl) 136 (by decide +kernel) (vp_in_nI (by omega) (by decide)) ?_
    rw [nI_clamp (n := i) (by omega)]
    have g2 : DA 60 μ0 (z_ui μ1 60 i 0) := g1.ui (bI_top _)
    have z2 : ∀ j, j < i + 1 → (z_ui μ1 60 i 0).1 60 j = 0 := fun j hj => by
      rw [z_ui_rd]
      by_cases e : j = i
      · rw [if_pos ⟨rfl, e⟩]
      · rw [if_neg (fun z => e z.2)]; exact z1 j (by omega)
    generalize z_ui μ1 60 i 0 = μ2 at g2 z2 ⊢
    refine z_rcs hc hH 2 (pc' := 125) (lv' := [(5, .int ((nI i) + 1)), (7, .int kv), (6, .int jv), (3, .long x), (0, .ref 50), (1, .long sd)]) (st' := []) (μ' := μ2) (by rfl) ?_
    rw [nI_1]
    exact ih (i + 1) (by omega) μ2 g2 z2
theorem dl152 (d' : Nat) (Z : zK) (hd : 703 ≤ d') (μ : zM) (hc : z_clo z_x0 mi_X7_deal (z_C d') Z) (hr : z_ret mi_X7_deal (zPG μ) Z) (x sd : Int64) (kv jv : Int32) (μ0 : zM) (D : Nat) (hD : D < 4) (eD : μ0.1 50 40 = nI D) (K : ∀ μ1, DD D μ0 52 μ1 → Z 0 189 [(5, .int (nI 52)), (7, .int kv), (6, .int jv), (3, .long x), (0, .ref 50), (1, .long sd)] [] μ1) : ∀ n i, i + n = 52 → ∀ μ1, DD D μ0 i μ1 → Z 0 152 [(5, .int (nI i)), (7, .int kv), (6, .int jv), (3, .long x), (0, .ref 50), (1, .long sd)] [] μ1 := by
  have hH := zh_X7_deal
  intro n
  induction n with
  | zero =>
    intro i hi μ1 g1
    have hi : i = 52 := by omega
    subst hi
    refine z_rcs hc hH 2 (pc' := 156) (lv' := [(5, .int (nI 52)), (7, .int kv), (6, .int jv), (3, .long x), (0, .ref 50), (1, .long sd)]) (st' := [.int 52, .int (nI 52)]) (μ' := μ1) (by rfl) ?_
    refine zq_ic hc hH (by rfl) (tg := 189) (by rfl) (fun _ => ?_) (fun h9 => (zb_t (ge_nIt (n := 52) (i := 52) (by decide) (by decide)) h9).elim)
    exact K μ1 g1
  | succ n ih =>
    intro i hi μ1 g1
    have e1 : μ1.1 50 40 = nI D := (a_Fz_at g1.1.2 50 40 (by decide +kernel)).trans eD
    refine z_rcs hc hH 2 (pc' := 156) (lv' := [(5, .int (nI i)), (7, .int kv), (6, .int jv), (3, .long x), (0, .ref 50), (1, .long sd)]) (st' := [.int 52, .int (nI i)]) (μ' := μ1) (by rfl) ?_
    refine zq_ic hc hH (by rfl) (tg := 189) (by rfl) (fun h9 => (zb_t h9 (ge_nI (n := 52) (i := i) (by omega) (by decide))).elim) (fun _ => ?_)
    refine z_rcs hc hH 9 (pc' := 172) (lv' := [(5, .int (nI i)), (7, .int kv), (6, .int jv), (3, .long x), (0, .ref 50), (1, .long sd)]) (st' := [.int (((μ1.1 50 40) + ((nI i) / 13)) - ((μ1.1 50 40) + ((nI i) / 13)) / 4 * 4), .ref 50]) (μ' := μ1) (by rfl) ?_
    rw [e1, nI_d13 i (by omega), nI_add, nI_r4 _ (by omega)]
    refine z_rcs hc hH 3 (pc' := 178) (lv' := [(5, .int (nI i)), (7, .int kv), (6, .int jv), (3, .long x), (0, .ref 50), (1, .long sd)]) (st' := [.int (nI i), .ref 59, .int (nI ((D + i / 13) % 4)), .ref 50]) (μ' := μ1) (by rfl) ?_
    refine zq_iald hc hH (by rfl) 136 (by decide +kernel) (vp_in_nI (by omega) (by decide)) ?_
    rw [nI_clamp (n := i) (by omega)]
    obtain ⟨c, hc4, ec⟩ := a_nI (x := μ1.1 59 i) (n := 34) (g1.1.1 59 i).1 (by have : (μ1.1 59 i).toInt ≤ 33 := (g1.1.1 59 i).2; omega) (by decide)
    rw [ec]
    refine z_rcs hc hH 1 (pc' := 180) (lv' := [(5, .int (nI i)), (7, .int kv), (6, .int jv), (3, .long x), (0, .ref 50), (1, .long sd)]) (st' := [.int 1, .int (nI c), .int (nI ((D + i / 13) % 4)), .ref 50]) (μ' := μ1) (by rfl) ?_
    refine zq_call hc (z_cx_ok hH (by rfl)) (fc_X7_gives d' (by omega) μ1 ((D + i / 13) % 4) c 1 (Nat.mod_lt _ (by decide)) hc4) (by decide +kernel) (fun r8 μ8 hq => ?_)
    obtain ⟨rfl, rfl⟩ := hq
    have g2 := g1.step hD (by omega) hc4
    generalize z_giv μ1 ((D + i / 13) % 4) c 1 = μ2 at g2 ⊢
    show Z 0 183 [(5, .int (nI i)), (7, .int kv), (6, .int jv), (3, .long x), (0, .ref 50), (1, .long sd)] [] μ2
    refine z_rcs hc hH 2 (pc' := 152) (lv' := [(5, .int ((nI i) + 1)), (7, .int kv), (6, .int jv), (3, .long x), (0, .ref 50), (1, .long sd)]) (st' := []) (μ' := μ2) (by rfl) ?_
    rw [nI_1]
    exact ih (i + 1) (by omega) μ2 g2
theorem dl192 (d' : Nat) (Z : zK) (hd : 703 ≤ d') (μ : zM) (hc : z_clo z_x0 mi_X7_deal (z_C d') Z) (hr : z_ret mi_X7_deal (zPG μ) Z) (x sd : Int64) (kv jv : Int32) (μ0 : zM) (K : ∀ μ1, DE μ0 4 μ1 → Z 0 260 [(5, .int (nI 4)), (7, .int kv), (6, .int jv), (3, .long x), (0, .ref 50), (1, .long sd)] [] μ1) : ∀ n i, i + n = 4 → ∀ μ1, DE μ0 i μ1 → Z 0 192 [(5, .int (nI i)), (7, .int kv), (6, .int jv), (3, .long x), (0, .ref 50), (1, .long sd)] [] μ1 := by
  have hH := zh_X7_deal
  intro n
  induction n with
  | zero =>
    intro i hi μ1 g1
    have hi : i = 4 := by omega
    subst hi
    refine z_rcs hc hH 2 (pc' := 195) (lv' := [(5, .int (nI 4)), (7, .int kv), (6, .int jv), (3, .long x), (0, .ref 50), (1, .long sd)]) (st' := [.int 4, .int (nI 4)]) (μ' := μ1) (by rfl) ?_
    refine zq_ic hc hH (by rfl) (tg := 260) (by rfl) (fun _ => ?_) (fun h9 => (zb_t (ge_nIt (n := 4) (i := 4) (by decide) (by decide)) h9).elim)
    exact K μ1 g1
  | succ n ih =>
    intro i hi μ1 g1
    have ini : vp_in (nI i) 4 := vp_in_nI (by omega) (by decide)
    refine z_rcs hc hH 2 (pc' := 195) (lv' := [(5, .int (nI i)), (7, .int kv), (6, .int jv), (3, .long x), (0, .ref 50), (1, .long sd)]) (st' := [.int 4, .int (nI i)]) (μ' := μ1) (by rfl) ?_
    refine zq_ic hc hH (by rfl) (tg := 260) (by rfl) (fun h9 => (zb_t h9 (ge_nI (n := 4) (i := i) (by omega) (by decide))).elim) (fun _ => ?_)
    refine z_rcs hc hH 4 (pc' := 205) (lv' := [(5, .int (nI i)), (7, .int kv), (6, .int jv), (3, .long x), (0, .ref 50), (1, .long sd)]) (st' := [.int 0, .int (nI i), .ref 64]) (μ' := μ1) (by rfl) ?_
    refine zq_iast hc hH (by rfl) 4 (by decide +kernel) (ini) ?_
    refine z_rcs hc hH 4 (pc' := 213) (lv' := [(5, .int (nI i)), (7, .int kv), (6, .int jv), (3, .long x), (0, .ref 50), (1, .long sd)]) (st' := [.int 0, .int (nI i), .ref 66]) (μ' := z_ui μ1 64 ((nI i).toNatClampNeg) 0) (by rfl) ?_
    refine zq_iast hc hH (by rfl) 4 (by decide +kernel) (ini) ?_
    refine z_rcs hc hH 4 (pc' := 221) (lv' := [(5, .int (nI i)), (7, .int kv), (6, .int jv), (3, .long x), (0, .ref 50), (1, .long sd)]) (st' := [.int 0, .int (nI i), .ref 67]) (μ' := z_ui (z_ui μ1 64 ((nI i).toNatClampNeg) 0) 66 ((nI i).toNatClampNeg) 0) (by rfl) ?_
    refine zq_iast hc hH (by rfl) 4 (by decide +kernel) (ini) ?_
    refine z_rcs hc hH 4 (pc' := 229) (lv' := [(5, .int (nI i)), (7, .int kv), (6, .int jv), (3, .long x), (0, .ref 50), (1, .long sd)]) (st' := [.int 0, .int (nI i), .ref 68]) (μ' := z_ui (z_ui (z_ui μ1 64 ((nI i).toNatClampNeg) 0) 66 ((nI i).toNatClampNeg) 0) 67 ((nI i).toNatClampNeg) 0) (by rfl) ?_
    refine zq_iast hc hH (by rfl) 4 (by decide +kernel) (ini) ?_
    refine z_rcs hc hH 4 (pc' := 237) (lv' := [(5, .int (nI i)), (7, .int kv), (6, .int jv), (3, .long x), (0, .ref 50), (1, .long sd)]) (st' := [.int 0, .int (nI i), .ref 69]) (μ' := z_ui (z_ui (z_ui (z_ui μ1 64 ((nI i).toNatClampNeg) 0) 66 ((nI i).toNatClampNeg) 0) 67 ((nI i).toNatClampNeg) 0) 68 ((nI i).toNatClampNeg) 0) (by rfl) ?_
    refine zq_bast hc hH (by rfl) 4 (by decide +kernel) (ini) (by rfl) ?_
    refine z_rcs hc hH 4 (pc' := 245) (lv' := [(5, .int (nI i)), (7, .int kv), (6, .int jv), (3, .long x), (0, .ref 50), (1, .long sd)]) (st' := [.int 0, .int (nI i), .ref 70]) (μ' := z_ui (z_ui (z_ui (z_ui (z_ui μ1 64 ((nI i).toNatClampNeg) 0) 66 ((nI i).toNatClampNeg) 0) 67 ((nI i).toNatClampNeg) 0) 68 ((nI i).toNatClampNeg) 0) 69 ((nI i).toNatClampNeg) 0) (by rfl) ?_
    refine zq_bast hc hH (by rfl) 4 (by decide +kernel) (ini) (by rfl) ?_
    refine z_rcs hc hH 4 (pc' := 253) (lv' := [(5, .int (nI i)), (7, .int kv), (6, .int jv), (3, .long x), (0, .ref 50), (1, .long sd)]) (st' := [.int 0, .int (nI i), .ref 71]) (μ' := z_ui (z_ui (z_ui (z_ui (z_ui (z_ui μ1 64 ((nI i).toNatClampNeg) 0) 66 ((nI i).toNatClampNeg) 0) 67 ((nI i).toNatClampNeg) 0) 68 ((nI i).toNatClampNeg) 0) 69 ((nI i).toNatClampNeg) 0) 70 ((nI i).toNatClampNeg) 0) (by rfl) ?_
    refine zq_bast hc hH (by rfl) 4 (by decide +kernel) (ini) (by rfl) ?_
    rw [nI_clamp (n := i) (by omega)]
    have g2 : DE μ0 (i + 1) (z_ui (z_ui (z_ui (z_ui (z_ui (z_ui (z_ui μ1 64 i 0) 66 i 0) 67 i 0) 68 i 0) 69 i 0) 70 i 0) 71 i 0) := by
      refine ⟨a_H_ui (a_H_ui (a_H_ui (a_H_ui (a_H_ui (a_H_ui (a_H_ui g1.1 (show bI 0 4 0 from ⟨by decide, by decide⟩)) (show bI 0 135 0 from ⟨by decide, by decide⟩)) (bI_top _)) (bI_top _)) (show bI 0 1 0 from ⟨by decide, by decide⟩)) (show bI 0 1 0 from ⟨by decide, by decide⟩)) (show bI 0 1 0 from ⟨by decide, by decide⟩), a_Fz_ui (a_Fz_ui (a_Fz_ui (a_Fz_ui (a_Fz_ui (a_Fz_ui (a_Fz_ui g1.2.1 (a_mda_md (by decide +kernel) _)) (a_mda_md (by decide +kernel) _)) (a_mda_md (by decide +kernel) _)) (a_mda_md (by decide +kernel) _)) (a_mda_md (by decide +kernel) _)) (a_mda_md (by decide +kernel) _)) (a_mda_md (by decide +kernel) _), fun j hj => ?_⟩
      simp only [z_ui_rd]
      by_cases e : j = i
      · simp [e]
      · simp [e]; exact g1.2.2 j (by omega)
    generalize z_ui (z_ui (z_ui (z_ui (z_ui (z_ui (z_ui μ1 64 i 0) 66 i 0) 67 i 0) 68 i 0) 69 i 0) 70 i 0) 71 i 0 = μ2 at g2 ⊢
    refine z_rcs hc hH 2 (pc' := 192) (lv' := [(5, .int ((nI i) + 1)), (7, .int kv), (6, .int jv), (3, .long x), (0, .ref 50), (1, .long sd)]) (st' := []) (μ' := μ2) (by rfl) ?_
    rw [nI_1]
    exact ih (i + 1) (by omega) μ2 g2
theorem GH_0 {D : Nat} {μ0 μ1 μ2 : zM} (hD : D < 4) (h1 : DD D μ0 52 μ1) (h2 : DE μ1 4 μ2) : GH μ2 (fun _ => 13) ∧ sM μ2 = 0 ∧ sR μ2 = 0 := by
  have r60 : ∀ j, μ2.1 60 j = μ1.1 60 j := fun j => a_Fz_at h2.2.1 60 j (a_md_row (by decide +kernel))
  have m0 : ∀ s, s < 4 → mI μ2 s = 0 := fun s hs => by unfold mI; rw [(h2.2.2 s hs).1]; rfl
  have q0 : ∀ s, s < 4 → rI μ2 s = 0 := fun s hs => by unfold rI; rw [(h2.2.2 s hs).2]; rfl
  refine ⟨⟨fun j hj => by unfold hI; rw [r60]; exact h1.2.1 j hj, fun s hs4 => ?_⟩, ?_, ?_⟩
  · rw [hs_row r60, m0 s hs4]
    have q := h1.2.2 ((s + 4 - D) % 4) (Nat.mod_lt _ (by decide))
    rw [show (D + (s + 4 - D) % 4) % 4 = s by omega] at q
    have : gd 52 ((s + 4 - D) % 4) ≤ 13 := by
      unfold gd
      split
      · decide
      · split <;> omega
    show hs μ1 s + 3 * 0 ≤ 13
    omega
  · unfold sM; rw [m0 0 (by decide), m0 1 (by decide), m0 2 (by decide), m0 3 (by decide)]; rfl
  · unfold sR; rw [q0 0 (by decide), q0 1 (by decide), q0 2 (by decide), q0 3 (by decide)]; rfl
set_option maxRecDepth 2000 in
theorem dl260 (d' : Nat) (Z : zK) (hd : 703 ≤ d') (μ : zM) (hc : z_clo z_x0 mi_X7_deal (z_C d') Z) (hr : z_ret mi_X7_deal (zPG μ) Z) (x sd : Int64) (kv jv : Int32) (D : Nat) (hD : D < 4) (μ1 : zM) (hH1 : a_H μ1) (hG1 : GW μ1) (f1 : a_Fz md_G μ μ1) (eD : μ1.1 50 40 = nI D) (gh : GH μ1 (fun _ => 13) ∧ sM μ1 = 0 ∧ sR μ1 = 0) : Z 0 260 [(5, .int (nI 4)), (7, .int kv), (6, .int jv), (3, .long x), (0, .ref 50), (1, .long sd)] [] μ1 := by
  have hH := zh_X7_deal
  refine z_rcs hc hH 21 (pc' := 296) (lv' := [(5, .int (nI 4)), (7, .int kv), (6, .int jv), (3, .long x), (0, .ref 50), (1, .long sd)]) (st' := []) (μ' := z_ui (z_ui (z_ui (z_ui (z_ui (z_ui (z_ui μ1 50 46 52) 50 47 0) 50 48 0) 50 53 0) 50 56 1) 50 59 0) 50 55 1) (by rfl) ?_
  have H2 : a_H (z_ui (z_ui (z_ui (z_ui (z_ui (z_ui (z_ui μ1 50 46 52) 50 47 0) 50 48 0) 50 53 0) 50 56 1) 50 59 0) 50 55 1) := a_H_ui (a_H_ui (a_H_ui (a_H_ui (a_H_ui (a_H_ui (a_H_ui hH1 ⟨by decide, by decide⟩) ⟨by decide, by decide⟩) ⟨by decide, by decide⟩) ⟨by decide, by decide⟩) ⟨by decide, by decide⟩) ⟨by decide, by decide⟩) ⟨by decide, by decide⟩
  have g2 : GW (z_ui (z_ui (z_ui (z_ui (z_ui (z_ui (z_ui μ1 50 46 52) 50 47 0) 50 48 0) 50 53 0) 50 56 1) 50 59 0) 50 55 1) := GW_ne (GW_ne (GW_ne (GW_ne (GW_ne (GW_ne (GW_ne hG1 (by decide)) (by decide)) (by decide)) (by decide)) (by decide)) (by decide)) (by decide)
  have f2 : a_Fz [(50, 46), (50, 47), (50, 48), (50, 53), (50, 56), (50, 59), (50, 55)] μ1 (z_ui (z_ui (z_ui (z_ui (z_ui (z_ui (z_ui μ1 50 46 52) 50 47 0) 50 48 0) 50 53 0) 50 56 1) 50 59 0) 50 55 1) := a_Fz_ui (a_Fz_ui (a_Fz_ui (a_Fz_ui (a_Fz_ui (a_Fz_ui (a_Fz_ui (a_Fz_rf _ _) (by decide +kernel)) (by decide +kernel)) (by decide +kernel)) (by decide +kernel)) (by decide +kernel)) (by decide +kernel)) (by decide +kernel)
  have e46 : (z_ui (z_ui (z_ui (z_ui (z_ui (z_ui (z_ui μ1 50 46 52) 50 47 0) 50 48 0) 50 53 0) 50 56 1) 50 59 0) 50 55 1).1 50 46 = nI 52 := by rw [z_ui_rd, if_neg (by omega), z_ui_rd, if_neg (by omega), z_ui_rd, if_neg (by omega), z_ui_rd, if_neg (by omega), z_ui_rd, if_neg (by omega), z_ui_rd, if_neg (by omega), z_ui_rd, if_pos ⟨rfl, rfl⟩]; rfl
  have e47 : (z_ui (z_ui (z_ui (z_ui (z_ui (z_ui (z_ui μ1 50 46 52) 50 47 0) 50 48 0) 50 53 0) 50 56 1) 50 59 0) 50 55 1).1 50 47 = 0 := by rw [z_ui_rd, if_neg (by omega), z_ui_rd, if_neg (by omega), z_ui_rd, if_neg (by omega), z_ui_rd, if_neg (by omega), z_ui_rd, if_neg (by omega), z_ui_rd, if_pos ⟨rfl, rfl⟩]
  have e48 : (z_ui (z_ui (z_ui (z_ui (z_ui (z_ui (z_ui μ1 50 46 52) 50 47 0) 50 48 0) 50 53 0) 50 56 1) 50 59 0) 50 55 1).1 50 48 = 0 := by rw [z_ui_rd, if_neg (by omega), z_ui_rd, if_neg (by omega), z_ui_rd, if_neg (by omega), z_ui_rd, if_neg (by omega), z_ui_rd, if_pos ⟨rfl, rfl⟩]
  generalize z_ui (z_ui (z_ui (z_ui (z_ui (z_ui (z_ui μ1 50 46 52) 50 47 0) 50 48 0) 50 53 0) 50 56 1) 50 59 0) 50 55 1 = μ2 at H2 g2 f2 e46 e47 e48 ⊢
  have r60 : ∀ j, μ2.1 60 j = μ1.1 60 j := fun j => a_Fz_at f2 60 j (a_md_row (by decide +kernel))
  have r64 : ∀ j, μ2.1 64 j = μ1.1 64 j := fun j => a_Fz_at f2 64 j (a_md_row (by decide +kernel))
  have r66 : ∀ j, μ2.1 66 j = μ1.1 66 j := fun j => a_Fz_at f2 66 j (a_md_row (by decide +kernel))
  have eD2 : μ2.1 50 40 = nI D := (a_Fz_at f2 50 40 (by decide +kernel)).trans eD
  refine z_rcs hc hH 4 (pc' := 302) (lv' := [(5, .int (nI 4)), (7, .int kv), (6, .int jv), (3, .long x), (0, .ref 50), (1, .long sd)]) (st' := [.int 0, .int (μ2.1 50 40), .ref 50]) (μ' := μ2) (by rfl) ?_
  rw [eD2]
  refine zq_call hc (z_cx_ok hH (by rfl)) (fc_X7_draws0 d' (by omega) μ2 D 52 hD (by decide) e46 H2) (by decide +kernel) (fun r7 μ7 hq => ?_)
  obtain ⟨rfl, k1, k2, k3, k4, k5, k6, k7, c, hc4, k8, k9⟩ := hq
  have hG : GP μ7 := by
    have eM : sM μ2 = 0 := by rw [← gh.2.1]; unfold sM mI; simp only [r64]
    have eR : sR μ2 = 0 := by rw [← gh.2.2]; unfold sR rI; simp only [r66]
    refine GP_drawn hD hc4 k2 H2 (gh.1.keep r60 r64) k3 k4 k8 k9 ?_ (by rw [k7, e48, e47]) ?_
    · rw [k6, e47]; decide
    · rw [k6, k7, e48, eM, eR]; decide
  have hE : zPG μ (some (.int 1)) μ7 := ⟨⟨1, rfl⟩, ⟨k1, GW_keep g2 k2 (by decide +kernel), fun _ => hG⟩, a_Fz_tr (by decide +kernel) (a_Fz_tr (by decide +kernel) f1 f2) k2⟩
  show Z 0 305 [(5, .int (nI 4)), (7, .int kv), (6, .int jv), (3, .long x), (0, .ref 50), (1, .long sd)] [] μ7
  refine z_rcs hc hH 1 (pc' := 306) (lv' := [(5, .int (nI 4)), (7, .int kv), (6, .int jv), (3, .long x), (0, .ref 50), (1, .long sd)]) (st' := [.int 1]) (μ' := μ7) (by rfl) ?_
  exact hr 0 306 _ _ _ (some (.int 1)) (by decide +kernel) (by rfl) hE
set_option maxRecDepth 2000 in
theorem fc_X7_deal (d : Nat) (hd : 704 ≤ d) (μ : zM) (sd : Int64) (hi : GI μ) : z_C d mi_X7_deal [.ref 50, .long sd] μ (zPG μ) := by
  refine z_C_in (by decide) (by omega) (fun d' Z ed hc hr => ?_)
  have hH := zh_X7_deal
  refine z_rcs hc hH 3 (pc' := 5) (lv' := [(0, .ref 50), (1, .long sd)]) (st' := []) (μ' := z_ui μ 50 0 0) (by rfl) ?_
  have h0 := hi.put
  have f0 := fG0 μ
  obtain ⟨D, hD, eD⟩ := dealer_nI h0.1
  generalize z_ui μ 50 0 0 = μ0 at h0 f0 eD ⊢
  refine z_rcs hc hH 2 (pc' := 9) (lv' := [(0, .ref 50), (1, .long sd)]) (st' := [.int (μ0.1 50 44)]) (μ' := μ0) (by rfl) ?_
  refine zq_if hc hH (by rfl) (tg := 19) (by rfl) (fun h1 => ?_) (fun h1 => ?_)
  · have h1 := cm_ne.mp h1
    refine z_rcs hc hH 1 (pc' := 20) (lv' := [(0, .ref 50), (1, .long sd)]) (st' := [.int 0]) (μ' := μ0) (by rfl) ?_
    exact hr 0 20 _ _ _ (some (.int 0)) (by decide +kernel) (z_rx_ok hH (by rfl)) (⟨⟨0, rfl⟩, h0, f0⟩)
  · have h1 := cn_ne.mp h1
    refine z_rcs hc hH 2 (pc' := 16) (lv' := [(0, .ref 50), (1, .long sd)]) (st' := [.int (μ0.1 50 54)]) (μ' := μ0) (by rfl) ?_
    refine zq_if hc hH (by rfl) (tg := 21) (by rfl) (fun h2 => ?_) (fun h2 => ?_)
    · have h2 := cm_eq9.mp h2
      refine z_rcs hc hH 4 (pc' := 26) (lv' := [(5, .int 0), (3, .long sd), (0, .ref 50), (1, .long sd)]) (st' := []) (μ' := μ0) (by rfl) ?_
      have hd : 703 ≤ d' := by omega
      refine dl26 d' Z hd μ hc hr sd sd μ0 (fun μ1 g1 => ?_) 136 0 (by omega) μ0 ⟨h0.1, a_Fz_rf _ _⟩
      refine dl51 d' Z hd μ hc hr sd sd μ0 μ1 g1 (fun x kv jv μ2 g2 => ?_)
      clear g1 μ1
      have eD2 : μ2.1 50 40 = nI D := (a_Fz_at g2.2 50 40 (by decide +kernel)).trans eD
      refine z_rcs hc hH 2 (pc' := 125) (lv' := [(5, .int 0), (7, .int kv), (6, .int jv), (3, .long x), (0, .ref 50), (1, .long sd)]) (st' := []) (μ' := μ2) (by rfl) ?_
      refine dl125 d' Z hd μ hc hr x sd kv jv μ2 (fun μ3 g3 z3 => ?_) 136 0 (by omega) μ2 ⟨g2.1, a_Fz_rf _ _⟩ (fun j hj => absurd hj (by omega))
      have eD3 : μ3.1 50 40 = nI D := (a_Fz_at g3.2 50 40 (by decide +kernel)).trans eD2
      refine z_rcs hc hH 2 (pc' := 152) (lv' := [(5, .int 0), (7, .int kv), (6, .int jv), (3, .long x), (0, .ref 50), (1, .long sd)]) (st' := []) (μ' := μ3) (by rfl) ?_
      refine dl152 d' Z hd μ hc hr x sd kv jv μ3 D hD eD3 (fun μ4 g4 => ?_) 52 0 (by omega) μ3 ⟨⟨g3.1, a_Fz_rf _ _⟩, fun j hj => by unfold hI; rw [z3 j hj]; decide, fun s hs4 => ?_⟩
      rotate_left
      · have e : hs μ3 ((D + s) % 4) = 0 := by
          unfold hs
          rw [si_congr (f := fun _ => 0) (fun k hk => by unfold hI; rw [z3 _ (by have := Nat.mod_lt (D + s) (show 0 < 4 by decide); omega)]; rfl)]
          rfl
        rw [e]
        unfold gd
        rw [if_pos (by omega)]
        exact Int.le_refl _
      have eD4 : μ4.1 50 40 = nI D := (a_Fz_at g4.1.2 50 40 (by decide +kernel)).trans eD3
      refine z_rcs hc hH 2 (pc' := 192) (lv' := [(5, .int 0), (7, .int kv), (6, .int jv), (3, .long x), (0, .ref 50), (1, .long sd)]) (st' := []) (μ' := μ4) (by rfl) ?_
      refine dl192 d' Z hd μ hc hr x sd kv jv μ4 (fun μ5 g5 => ?_) 4 0 (by omega) μ4 ⟨g4.1.1, a_Fz_rf _ _, fun j hj => absurd hj (by omega)⟩
      have eD5 : μ5.1 50 40 = nI D := (a_Fz_at g5.2.1 50 40 (by decide +kernel)).trans eD4
      have fA : a_Fz md_G μ μ5 := a_Fz_tr (by decide +kernel) (a_Fz_tr (by decide +kernel) (a_Fz_tr (by decide +kernel) (a_Fz_tr (by decide +kernel) f0 g2.2) g3.2) g4.1.2) g5.2.1
      have gA : GW μ5 := GW_keep (GW_keep (GW_keep (GW_keep h0.2.1 g2.2 (by decide)) g3.2 (by decide)) g4.1.2 (by decide)) g5.2.1 (by decide)
      exact dl260 d' Z hd μ hc hr x sd kv jv D hD μ5 g5.1 gA fA eD5 (GH_0 hD g4 g5)
    · have h2 := cn_eq.mp h2
      refine z_rcs hc hH 1 (pc' := 20) (lv' := [(0, .ref 50), (1, .long sd)]) (st' := [.int 0]) (μ' := μ0) (by rfl) ?_
      exact hr 0 20 _ _ _ (some (.int 0)) (by decide +kernel) (z_rx_ok hH (by rfl)) (⟨⟨0, rfl⟩, h0, f0⟩)
/-! run -/
/-- the tiles of a RUN from l but c change by x: the first i of them -/
noncomputable def GVr (μ0 μ1 : zM) (a l c : Nat) (x : Int32) (i : Nat) : Prop := (∀ j, μ1.1 60 j = if 34 * a + l ≤ j ∧ j < 34 * a + l + i ∧ j ≠ 34 * a + c then μ0.1 60 j + x else μ0.1 60 j) ∧ (∀ r j, r ≠ 60 → μ1.1 r j = μ0.1 r j) ∧ μ1.2 = μ0.2 ∧ a_H μ1
theorem GVr_rf {μ : zM} {a l c : Nat} {x : Int32} (h : a_H μ) : GVr μ μ a l c x 0 := ⟨fun j => by rw [if_neg (by omega)], fun _ _ _ => rfl, rfl, h⟩
theorem GVr.skip {μ0 μ1 : zM} {a l c i : Nat} {x : Int32} (h : GVr μ0 μ1 a l c x i) (e : l + i = c) : GVr μ0 μ1 a l c x (i + 1) := by
  refine ⟨fun j => ?_, h.2⟩
  rw [h.1]
  by_cases q : 34 * a + l ≤ j ∧ j < 34 * a + l + i ∧ j ≠ 34 * a + c
  · rw [if_pos q, if_pos (by omega)]
  · rw [if_neg q, if_neg (by omega)]
theorem GVr.step {μ0 μ1 : zM} {a l c i : Nat} {x : Int32} (h : GVr μ0 μ1 a l c x i) (e : l + i ≠ c) : GVr μ0 (z_giv μ1 a (l + i) x) a l c x (i + 1) := by
  refine ⟨fun j => ?_, fun r j hr => by rw [giv_ne _ _ _ _ hr, h.2.1 r j hr], by rw [giv_2]; exact h.2.2.1, a_H_ui h.2.2.2 (bI_top _)⟩
  rw [giv_60, h.1]
  by_cases q : j = 34 * a + (l + i)
  · rw [if_pos q, if_neg (by omega), if_pos (by omega)]
  · rw [if_neg q]
    by_cases q2 : 34 * a + l ≤ j ∧ j < 34 * a + l + i ∧ j ≠ 34 * a + c
    · rw [if_pos q2, if_pos (by omega)]
    · rw [if_neg q2, if_neg (by omega)]
theorem GVr.back {μ μ1 μ2 : zM} {a l c i : Nat} (h : GVr μ μ1 a l c (-1) i) (h2 : GVr μ1 μ2 a l c 1 i) : μ2 = μ := by
  refine Prod.ext (funext fun r => funext fun j => ?_) (h2.2.2.1.trans h.2.2.1)
  by_cases hr : r = 60
  · subst hr
    rw [h2.1, h.1]
    by_cases q2 : 34 * a + l ≤ j ∧ j < 34 * a + l + i ∧ j ≠ 34 * a + c
    · rw [if_pos q2, if_pos q2, Int32.add_assoc, i_11, Int32.add_zero]
    · rw [if_neg q2, if_neg q2]
  · rw [h2.2.1 r j hr, h.2.1 r j hr]
theorem GVr.fz {μ μ1 : zM} {a l c i : Nat} {x : Int32} (h : GVr μ μ1 a l c x i) : a_Fz [(60, 9999)] μ μ1 := by
  refine ⟨fun r k hm => ⟨h.2.1 r k (fun e => ?_), by rw [h.2.2.1]⟩, fun r _ => by rw [h.2.2.1]⟩
  rw [a_mda_md (r := r) (by rw [e]; decide) k] at hm
  exact absurd hm (by decide)
theorem nI_l3 (l : Nat) : nI l + 3 = nI (l + 3) := by rw [show (3 : Int32) = nI 3 from rfl, nI_add]
theorem GH_run {μ9 : zM} {a l c q : Nat} (h : GH μ9 (fun _ => 13)) (hH : a_H μ9) (ha : a < 4) (hl : l + 2 < 34) (h1 : l ≤ c) (h2 : c ≤ l + 2) (hq4 : q ≤ 4) (eq : μ9.1 64 a = nI q) (nz : ∀ t, t < 3 → l + t ≠ c → ¬ μ9.1 60 (34 * a + (l + t)) = 0) : q < 4 ∧ ∀ μ' : zM, (∀ j, μ'.1 60 j = if 34 * a + l ≤ j ∧ j < 34 * a + l + 3 ∧ j ≠ 34 * a + c then μ9.1 60 j + (-1) else μ9.1 60 j) → (∀ i, μ'.1 64 i = if i = a then nI (q + 1) else μ9.1 64 i) → GH μ' (fun s => if s = a then 14 else 13) := by
  obtain ⟨k1, k2, g1, g2, g3, g4, g5, g6⟩ : ∃ k1 k2, l ≤ k1 ∧ k1 < k2 ∧ k2 ≤ l + 2 ∧ k1 ≠ c ∧ k2 ≠ c ∧ ∀ i, l ≤ i → i ≤ l + 2 → i ≠ c → i = k1 ∨ i = k2 := by
    rcases (show c = l ∨ c = l + 1 ∨ c = l + 2 by omega) with rfl | rfl | rfl
    · exact ⟨c + 1, c + 2, by omega, by omega, by omega, by omega, by omega, by omega⟩
    · exact ⟨l, l + 2, by omega, by omega, by omega, by omega, by omega, by omega⟩
    · exact ⟨l, l + 1, by omega, by omega, by omega, by omega, by omega, by omega⟩
  have pos : ∀ k, l ≤ k → k ≤ l + 2 → k ≠ c → 1 ≤ hI μ9 (34 * a + k) := fun k u1 u2 u3 => by
    have z := nz (k - l) (by omega) (by omega)
    rw [show l + (k - l) = k by omega] at z
    have z0 := h.1 (34 * a + k) (by omega)
    have z1 : hI μ9 (34 * a + k) ≠ 0 := fun q9 => z (Int32.toInt_inj.mp q9)
    omega
  have p1 := pos k1 g1 (by omega) g4
  have p2 := pos k2 (by omega) g3 g5
  have hr := HR_of (μ' := z_giv μ9 a k1 (-1)) h (fun _ _ => by decide) (fun s _ => mI_nn hH s) ha (c := k1) (by omega) (n := -1) (by decide) (giv_60 μ9 a k1 (-1))
  have hr : HR μ9 (z_giv μ9 a k1 (-1)) a k1 (-1) := hr
  have e64 : ∀ s, (z_giv μ9 a k1 (-1)).1 64 s = μ9.1 64 s := fun s => giv_ne _ _ _ _ (by decide) s
  have em : ∀ s, mI (z_giv μ9 a k1 (-1)) s = mI μ9 s := fun s => by unfold mI; rw [e64]
  have n1 := h.2 a ha
  have gh : GH (z_giv μ9 a k1 (-1)) (fun s => if s = a then 12 else 13) := h.upd hr ha (by omega) (by omega) (fun s _ _ => em s) (by rw [em, if_pos rfl]; have n1 : hs μ9 a + 3 * mI μ9 a ≤ 13 := n1; omega) (fun s _ hs => by rw [if_neg hs]; exact Int.le_refl _)
  have hHa : a_H (z_giv μ9 a k1 (-1)) := a_H_ui hH (bI_top _)
  have u60 := giv_60 μ9 a k1 (-1)
  have p3 : 1 ≤ hI (z_giv μ9 a k1 (-1)) (34 * a + k2) := by rw [hr.2 _ (by omega)]; exact p2
  generalize z_giv μ9 a k1 (-1) = μa at hr e64 em gh hHa u60 p3
  have l1 := gh.le ha (c := k2) (by omega)
  have l2 : hs μa a + 3 * mI μa a ≤ (if a = a then 12 else 13) := gh.2 a ha
  rw [if_pos rfl] at l2
  have tq := nI_toInt (n := q) (by omega)
  have l5 : mI μa a = q := by unfold mI; rw [e64, eq, tq]
  have hq : q < 4 := by omega
  refine ⟨hq, fun μ' r60 r64 => ?_⟩
  refine GH_lay4 (μ := μa) (c := k2) (n := -1) gh (fun s _ => by split <;> decide) hHa ha (by omega) hq ((e64 a).trans eq) (by decide) (by show 0 ≤ hI μa (34 * a + k2) + -1; omega) (by rw [if_pos rfl]; decide) (fun s _ hs => by rw [if_neg hs]; exact Int.le_refl _) (fun j => ?_) (fun i => by rw [r64, e64])
  rw [r60, u60]
  by_cases q1 : j = 34 * a + k1
  · rw [if_pos q1, if_pos (by omega), if_neg (by omega)]
  · rw [if_neg q1]
    by_cases q2 : j = 34 * a + k2
    · rw [if_pos q2, if_pos (by omega)]
    · rw [if_neg q2, if_neg (fun z => ?_)]
      have := g6 (j - 34 * a) (by omega) (by omega) (by omega)
      omega
theorem zh_X7_run : zH mi_X7_run zt_X7_run 79 7 5 := hh_X7_run
theorem rn54 (d' : Nat) (Z : zK) (hd : 703 ≤ d') (μ : zM) (hc : z_clo z_x0 mi_X7_run (z_C d') Z) (hr : z_ret mi_X7_run (zPG μ) Z) (a l cc : Nat) (ha4 : a < 4) (hl : l + 2 < 34) (hlc : l ≤ cc) (hcl : cc ≤ l + 2) (μ0 : zM) (h0 : GI μ0) (f0 : a_Fz md_G μ μ0) (ec : μ0.1 50 49 = nI cc) (K : (∀ t, t < 3 → l + t ≠ cc → ¬ μ0.1 60 (34 * a + (l + t)) = 0) → Z 0 86 [(3, .int (nI (l + 3))), (0, .ref 50), (1, .int (nI a)), (2, .int (nI l))] [] μ0) : ∀ n i, i + n = 3 → (∀ t, t < i → l + t ≠ cc → ¬ μ0.1 60 (34 * a + (l + t)) = 0) → Z 0 54 [(3, .int (nI (l + i))), (0, .ref 50), (1, .int (nI a)), (2, .int (nI l))] [] μ0 := by
  have hH := zh_X7_run
  intro n
  induction n with
  | zero =>
    intro i hi hf
    have hi : i = 3 := by omega
    subst hi
    refine z_rcs hc hH 4 (pc' := 58) (lv' := [(3, .int (nI (l + 3))), (0, .ref 50), (1, .int (nI a)), (2, .int (nI l))]) (st' := [.int ((nI l) + 3), .int (nI (l + 3))]) (μ' := μ0) (by rfl) ?_
    refine zq_ic hc hH (by rfl) (tg := 86) (by rfl) (fun _ => ?_) (fun h9 => (zb_t (by rw [nI_l3]; exact ge_nIt (Nat.le_refl _) (by omega)) h9).elim)
    exact K hf
  | succ n ih =>
    intro i hi hf
    refine z_rcs hc hH 4 (pc' := 58) (lv' := [(3, .int (nI (l + i))), (0, .ref 50), (1, .int (nI a)), (2, .int (nI l))]) (st' := [.int ((nI l) + 3), .int (nI (l + i))]) (μ' := μ0) (by rfl) ?_
    refine zq_ic hc hH (by rfl) (tg := 86) (by rfl) (fun h9 => (zb_t h9 (by rw [nI_l3]; exact ge_nI (by omega) (by omega))).elim) (fun _ => ?_)
    refine z_rcs hc hH 3 (pc' := 66) (lv' := [(3, .int (nI (l + i))), (0, .ref 50), (1, .int (nI a)), (2, .int (nI l))]) (st' := [.int (μ0.1 50 49), .int (nI (l + i))]) (μ' := μ0) (by rfl) ?_
    refine zq_ic hc hH (by rfl) (tg := 80) (by rfl) (fun h1 => ?_) (fun h1 => ?_)
    · have h1 := cm_eq9.mp h1
      refine z_rcs hc hH 2 (pc' := 54) (lv' := [(3, .int ((nI (l + i)) + 1)), (0, .ref 50), (1, .int (nI a)), (2, .int (nI l))]) (st' := []) (μ' := μ0) (by rfl) ?_
      rw [nI_1, Nat.add_assoc]
      exact ih (i + 1) (by omega) (fun t ht hne => if e : t = i then absurd ((nI_eq (by omega) (by omega)).mp (h1.trans ec)) (e ▸ hne) else hf t (by omega) hne)
    · have h1 := cn_eq.mp h1
      refine z_rcs hc hH 3 (pc' := 72) (lv' := [(3, .int (nI (l + i))), (0, .ref 50), (1, .int (nI a)), (2, .int (nI l))]) (st' := [.int (nI (l + i)), .int (nI a), .ref 50]) (μ' := μ0) (by rfl) ?_
      refine zq_call hc (z_cx_ok hH (by rfl)) (fc_X7_has_ d' (by omega) μ0 a (l + i) ha4 (by omega)) (by decide +kernel) (fun r9 μ9 hq => ?_)
      obtain ⟨hμ9, rfl⟩ := hq
      rw [hμ9]
      clear hμ9 μ9
      show Z 0 75 [(3, .int (nI (l + i))), (0, .ref 50), (1, .int (nI a)), (2, .int (nI l))] [.int (μ0.1 60 (34 * a + (l + i)))] μ0
      refine zq_if hc hH (by rfl) (tg := 80) (by rfl) (fun h2 => ?_) (fun h2 => ?_)
      · have h2 := cm_ne.mp h2
        refine z_rcs hc hH 2 (pc' := 54) (lv' := [(3, .int ((nI (l + i)) + 1)), (0, .ref 50), (1, .int (nI a)), (2, .int (nI l))]) (st' := []) (μ' := μ0) (by rfl) ?_
        rw [nI_1, Nat.add_assoc]
        exact ih (i + 1) (by omega) (fun t ht hne => if e : t = i then (by rw [e]; exact h2) else hf t (by omega) hne)
      · have h2 := cn_ne.mp h2
        refine z_rcs hc hH 1 (pc' := 79) (lv' := [(3, .int (nI (l + i))), (0, .ref 50), (1, .int (nI a)), (2, .int (nI l))]) (st' := [.int 0]) (μ' := μ0) (by rfl) ?_
        exact hr 0 79 _ _ _ (some (.int 0)) (by decide +kernel) (z_rx_ok hH (by rfl)) (⟨⟨0, rfl⟩, h0, f0⟩)
theorem rn147 (d' : Nat) (Z : zK) (hd : 703 ≤ d') (μ : zM) (hc : z_clo z_x0 mi_X7_run (z_C d') Z) (hr : z_ret mi_X7_run (zPG μ) Z) (a l cc : Nat) (ha4 : a < 4) (hl : l + 2 < 34) (hlc : l ≤ cc) (hcl : cc ≤ l + 2) (μ0 : zM) (ec : μ0.1 50 49 = nI cc) (K : ∀ μ1, GVr μ0 μ1 a l cc (-1) 3 → Z 0 175 [(3, .int (nI (l + 3))), (0, .ref 50), (1, .int (nI a)), (2, .int (nI l))] [] μ1) : ∀ n i, i + n = 3 → ∀ μ1, GVr μ0 μ1 a l cc (-1) i → Z 0 147 [(3, .int (nI (l + i))), (0, .ref 50), (1, .int (nI a)), (2, .int (nI l))] [] μ1 := by
  have hH := zh_X7_run
  intro n
  induction n with
  | zero =>
    intro i hi μ1 g1
    have hi : i = 3 := by omega
    subst hi
    refine z_rcs hc hH 4 (pc' := 151) (lv' := [(3, .int (nI (l + 3))), (0, .ref 50), (1, .int (nI a)), (2, .int (nI l))]) (st' := [.int ((nI l) + 3), .int (nI (l + 3))]) (μ' := μ1) (by rfl) ?_
    refine zq_ic hc hH (by rfl) (tg := 175) (by rfl) (fun _ => ?_) (fun h9 => (zb_t (by rw [nI_l3]; exact ge_nIt (Nat.le_refl _) (by omega)) h9).elim)
    exact K μ1 g1
  | succ n ih =>
    intro i hi μ1 g1
    have ec1 : μ1.1 50 49 = nI cc := (g1.2.1 50 49 (by decide)).trans ec
    refine z_rcs hc hH 4 (pc' := 151) (lv' := [(3, .int (nI (l + i))), (0, .ref 50), (1, .int (nI a)), (2, .int (nI l))]) (st' := [.int ((nI l) + 3), .int (nI (l + i))]) (μ' := μ1) (by rfl) ?_
    refine zq_ic hc hH (by rfl) (tg := 175) (by rfl) (fun h9 => (zb_t h9 (by rw [nI_l3]; exact ge_nI (by omega) (by omega))).elim) (fun _ => ?_)
    refine z_rcs hc hH 3 (pc' := 159) (lv' := [(3, .int (nI (l + i))), (0, .ref 50), (1, .int (nI a)), (2, .int (nI l))]) (st' := [.int (μ1.1 50 49), .int (nI (l + i))]) (μ' := μ1) (by rfl) ?_
    refine zq_ic hc hH (by rfl) (tg := 169) (by rfl) (fun h1 => ?_) (fun h1 => ?_)
    · have h1 := cm_eq9.mp h1
      refine z_rcs hc hH 2 (pc' := 147) (lv' := [(3, .int ((nI (l + i)) + 1)), (0, .ref 50), (1, .int (nI a)), (2, .int (nI l))]) (st' := []) (μ' := μ1) (by rfl) ?_
      rw [nI_1, Nat.add_assoc]
      exact ih (i + 1) (by omega) μ1 (g1.skip ((nI_eq (by omega) (by omega)).mp (h1.trans ec1)))
    · have h1 := cn_eq.mp h1
      refine z_rcs hc hH 4 (pc' := 166) (lv' := [(3, .int (nI (l + i))), (0, .ref 50), (1, .int (nI a)), (2, .int (nI l))]) (st' := [.int (-1), .int (nI (l + i)), .int (nI a), .ref 50]) (μ' := μ1) (by rfl) ?_
      refine zq_call hc (z_cx_ok hH (by rfl)) (fc_X7_gives d' (by omega) μ1 a (l + i) (-1) ha4 (by omega)) (by decide +kernel) (fun r8 μ8 hq => ?_)
      obtain ⟨rfl, rfl⟩ := hq
      have g2 := g1.step (fun e => h1 (by rw [ec1, e]))
      generalize z_giv μ1 a (l + i) (-1) = μ2 at g2 ⊢
      show Z 0 169 [(3, .int (nI (l + i))), (0, .ref 50), (1, .int (nI a)), (2, .int (nI l))] [] μ2
      refine z_rcs hc hH 2 (pc' := 147) (lv' := [(3, .int ((nI (l + i)) + 1)), (0, .ref 50), (1, .int (nI a)), (2, .int (nI l))]) (st' := []) (μ' := μ2) (by rfl) ?_
      rw [nI_1, Nat.add_assoc]
      exact ih (i + 1) (by omega) μ2 g2
theorem rn184 (d' : Nat) (Z : zK) (hd : 703 ≤ d') (μ : zM) (hc : z_clo z_x0 mi_X7_run (z_C d') Z) (hr : z_ret mi_X7_run (zPG μ) Z) (a l cc : Nat) (ha4 : a < 4) (hl : l + 2 < 34) (hlc : l ≤ cc) (hcl : cc ≤ l + 2) (x9 : Int32) (μ0 : zM) (ec : μ0.1 50 49 = nI cc) (K : ∀ μ1, GVr μ0 μ1 a l cc (1) 3 → Z 0 215 [(4, .int (nI (l + 3))), (3, .int x9), (0, .ref 50), (1, .int (nI a)), (2, .int (nI l))] [] μ1) : ∀ n i, i + n = 3 → ∀ μ1, GVr μ0 μ1 a l cc (1) i → Z 0 184 [(4, .int (nI (l + i))), (3, .int x9), (0, .ref 50), (1, .int (nI a)), (2, .int (nI l))] [] μ1 := by
  have hH := zh_X7_run
  intro n
  induction n with
  | zero =>
    intro i hi μ1 g1
    have hi : i = 3 := by omega
    subst hi
    refine z_rcs hc hH 4 (pc' := 189) (lv' := [(4, .int (nI (l + 3))), (3, .int x9), (0, .ref 50), (1, .int (nI a)), (2, .int (nI l))]) (st' := [.int ((nI l) + 3), .int (nI (l + 3))]) (μ' := μ1) (by rfl) ?_
    refine zq_ic hc hH (by rfl) (tg := 215) (by rfl) (fun _ => ?_) (fun h9 => (zb_t (by rw [nI_l3]; exact ge_nIt (Nat.le_refl _) (by omega)) h9).elim)
    exact K μ1 g1
  | succ n ih =>
    intro i hi μ1 g1
    have ec1 : μ1.1 50 49 = nI cc := (g1.2.1 50 49 (by decide)).trans ec
    refine z_rcs hc hH 4 (pc' := 189) (lv' := [(4, .int (nI (l + i))), (3, .int x9), (0, .ref 50), (1, .int (nI a)), (2, .int (nI l))]) (st' := [.int ((nI l) + 3), .int (nI (l + i))]) (μ' := μ1) (by rfl) ?_
    refine zq_ic hc hH (by rfl) (tg := 215) (by rfl) (fun h9 => (zb_t h9 (by rw [nI_l3]; exact ge_nI (by omega) (by omega))).elim) (fun _ => ?_)
    refine z_rcs hc hH 3 (pc' := 198) (lv' := [(4, .int (nI (l + i))), (3, .int x9), (0, .ref 50), (1, .int (nI a)), (2, .int (nI l))]) (st' := [.int (μ1.1 50 49), .int (nI (l + i))]) (μ' := μ1) (by rfl) ?_
    refine zq_ic hc hH (by rfl) (tg := 209) (by rfl) (fun h1 => ?_) (fun h1 => ?_)
    · have h1 := cm_eq9.mp h1
      refine z_rcs hc hH 2 (pc' := 184) (lv' := [(4, .int ((nI (l + i)) + 1)), (3, .int x9), (0, .ref 50), (1, .int (nI a)), (2, .int (nI l))]) (st' := []) (μ' := μ1) (by rfl) ?_
      rw [nI_1, Nat.add_assoc]
      exact ih (i + 1) (by omega) μ1 (g1.skip ((nI_eq (by omega) (by omega)).mp (h1.trans ec1)))
    · have h1 := cn_eq.mp h1
      refine z_rcs hc hH 4 (pc' := 206) (lv' := [(4, .int (nI (l + i))), (3, .int x9), (0, .ref 50), (1, .int (nI a)), (2, .int (nI l))]) (st' := [.int 1, .int (nI (l + i)), .int (nI a), .ref 50]) (μ' := μ1) (by rfl) ?_
      refine zq_call hc (z_cx_ok hH (by rfl)) (fc_X7_gives d' (by omega) μ1 a (l + i) (1) ha4 (by omega)) (by decide +kernel) (fun r8 μ8 hq => ?_)
      obtain ⟨rfl, rfl⟩ := hq
      have g2 := g1.step (fun e => h1 (by rw [ec1, e]))
      generalize z_giv μ1 a (l + i) (1) = μ2 at g2 ⊢
      show Z 0 209 [(4, .int (nI (l + i))), (3, .int x9), (0, .ref 50), (1, .int (nI a)), (2, .int (nI l))] [] μ2
      refine z_rcs hc hH 2 (pc' := 184) (lv' := [(4, .int ((nI (l + i)) + 1)), (3, .int x9), (0, .ref 50), (1, .int (nI a)), (2, .int (nI l))]) (st' := []) (μ' := μ2) (by rfl) ?_
      rw [nI_1, Nat.add_assoc]
      exact ih (i + 1) (by omega) μ2 g2
theorem rn228 (d' : Nat) (Z : zK) (hd : 703 ≤ d') (μ : zM) (hc : z_clo z_x0 mi_X7_run (z_C d') Z) (hr : z_ret mi_X7_run (zPG μ) Z) (a l cc : Nat) (ha4 : a < 4) (hl : l + 2 < 34) (hlc : l ≤ cc) (hcl : cc ≤ l + 2) (x9 : Int32) (μ0 : zM) (ec : μ0.1 50 49 = nI cc) (K : ∀ μ1, GVr μ0 μ1 a l cc (-1) 3 → Z 0 259 [(4, .int (nI (l + 3))), (3, .int x9), (0, .ref 50), (1, .int (nI a)), (2, .int (nI l))] [] μ1) : ∀ n i, i + n = 3 → ∀ μ1, GVr μ0 μ1 a l cc (-1) i → Z 0 228 [(4, .int (nI (l + i))), (3, .int x9), (0, .ref 50), (1, .int (nI a)), (2, .int (nI l))] [] μ1 := by
  have hH := zh_X7_run
  intro n
  induction n with
  | zero =>
    intro i hi μ1 g1
    have hi : i = 3 := by omega
    subst hi
    refine z_rcs hc hH 4 (pc' := 233) (lv' := [(4, .int (nI (l + 3))), (3, .int x9), (0, .ref 50), (1, .int (nI a)), (2, .int (nI l))]) (st' := [.int ((nI l) + 3), .int (nI (l + 3))]) (μ' := μ1) (by rfl) ?_
    refine zq_ic hc hH (by rfl) (tg := 259) (by rfl) (fun _ => ?_) (fun h9 => (zb_t (by rw [nI_l3]; exact ge_nIt (Nat.le_refl _) (by omega)) h9).elim)
    exact K μ1 g1
  | succ n ih =>
    intro i hi μ1 g1
    have ec1 : μ1.1 50 49 = nI cc := (g1.2.1 50 49 (by decide)).trans ec
    refine z_rcs hc hH 4 (pc' := 233) (lv' := [(4, .int (nI (l + i))), (3, .int x9), (0, .ref 50), (1, .int (nI a)), (2, .int (nI l))]) (st' := [.int ((nI l) + 3), .int (nI (l + i))]) (μ' := μ1) (by rfl) ?_
    refine zq_ic hc hH (by rfl) (tg := 259) (by rfl) (fun h9 => (zb_t h9 (by rw [nI_l3]; exact ge_nI (by omega) (by omega))).elim) (fun _ => ?_)
    refine z_rcs hc hH 3 (pc' := 242) (lv' := [(4, .int (nI (l + i))), (3, .int x9), (0, .ref 50), (1, .int (nI a)), (2, .int (nI l))]) (st' := [.int (μ1.1 50 49), .int (nI (l + i))]) (μ' := μ1) (by rfl) ?_
    refine zq_ic hc hH (by rfl) (tg := 253) (by rfl) (fun h1 => ?_) (fun h1 => ?_)
    · have h1 := cm_eq9.mp h1
      refine z_rcs hc hH 2 (pc' := 228) (lv' := [(4, .int ((nI (l + i)) + 1)), (3, .int x9), (0, .ref 50), (1, .int (nI a)), (2, .int (nI l))]) (st' := []) (μ' := μ1) (by rfl) ?_
      rw [nI_1, Nat.add_assoc]
      exact ih (i + 1) (by omega) μ1 (g1.skip ((nI_eq (by omega) (by omega)).mp (h1.trans ec1)))
    · have h1 := cn_eq.mp h1
      refine z_rcs hc hH 4 (pc' := 250) (lv' := [(4, .int (nI (l + i))), (3, .int x9), (0, .ref 50), (1, .int (nI a)), (2, .int (nI l))]) (st' := [.int (-1), .int (nI (l + i)), .int (nI a), .ref 50]) (μ' := μ1) (by rfl) ?_
      refine zq_call hc (z_cx_ok hH (by rfl)) (fc_X7_gives d' (by omega) μ1 a (l + i) (-1) ha4 (by omega)) (by decide +kernel) (fun r8 μ8 hq => ?_)
      obtain ⟨rfl, rfl⟩ := hq
      have g2 := g1.step (fun e => h1 (by rw [ec1, e]))
      generalize z_giv μ1 a (l + i) (-1) = μ2 at g2 ⊢
      show Z 0 253 [(4, .int (nI (l + i))), (3, .int x9), (0, .ref 50), (1, .int (nI a)), (2, .int (nI l))] [] μ2
      refine z_rcs hc hH 2 (pc' := 228) (lv' := [(4, .int ((nI (l + i)) + 1)), (3, .int x9), (0, .ref 50), (1, .int (nI a)), (2, .int (nI l))]) (st' := []) (μ' := μ2) (by rfl) ?_
      rw [nI_1, Nat.add_assoc]
      exact ih (i + 1) (by omega) μ2 g2
set_option maxRecDepth 2000 in
theorem rn142 (d' : Nat) (Z : zK) (hd : 703 ≤ d') (μ : zM) (hc : z_clo z_x0 mi_X7_run (z_C d') Z) (hr : z_ret mi_X7_run (zPG μ) Z) (a l cc : Nat) (ha4 : a < 4) (hl : l + 2 < 34) (hlc : l ≤ cc) (hcl : cc ≤ l + 2) (μ1 : zM) (h0 : GI μ1) (f0 : a_Fz md_G μ μ1) (ec : μ1.1 50 49 = nI cc) (y1 : μ1.1 50 44 = 2) (nz : ∀ t, t < 3 → l + t ≠ cc → ¬ μ1.1 60 (34 * a + (l + t)) = 0) (v : Int32) : Z 0 142 [(3, .int (nI (l + 3))), (0, .ref 50), (1, .int (nI a)), (2, .int (nI l))] [.int v, .ref 50] μ1 := by
  have hH := zh_X7_run
  refine z_rcs hc hH 1 (pc' := 145) (lv' := [(3, .int (nI (l + 3))), (0, .ref 50), (1, .int (nI a)), (2, .int (nI l))]) (st' := []) (μ' := z_ui μ1 50 51 v) (by rfl) ?_
  have hN : GI (z_ui μ1 50 51 v) := ⟨a_H_ui h0.1 (bI_top _), GW_ne h0.2.1 (by decide +kernel), fun q => (h0.2.2 q).keep (md := [(50, 51)]) (a_Fz_ui (a_Fz_rf _ _) (by decide +kernel)) (by decide +kernel)⟩
  have fN : a_Fz md_G μ (z_ui μ1 50 51 v) := a_Fz_ui f0 (by decide +kernel)
  have cN : (z_ui μ1 50 51 v).1 50 49 = nI cc := by rw [z_ui_rd, if_neg (by omega)]; exact ec
  have yN : (z_ui μ1 50 51 v).1 50 44 = 2 := by rw [z_ui_rd, if_neg (by omega)]; exact y1
  have zN : ∀ t, t < 3 → l + t ≠ cc → ¬ (z_ui μ1 50 51 v).1 60 (34 * a + (l + t)) = 0 := fun t ht hne => by rw [z_ui_rd, if_neg (by omega)]; exact nz t ht hne
  generalize z_ui μ1 50 51 v = μn at hN fN cN yN zN ⊢
  refine z_rcs hc hH 2 (pc' := 147) (lv' := [(3, .int (nI l)), (0, .ref 50), (1, .int (nI a)), (2, .int (nI l))]) (st' := []) (μ' := μn) (by rfl) ?_
  have q : Z 0 147 [(3, .int (nI (l + 0))), (0, .ref 50), (1, .int (nI a)), (2, .int (nI l))] [] μn := by
    refine rn147 d' Z hd μ hc hr a l cc ha4 hl hlc hcl μn cN (fun μm gm => ?_) 3 0 (by omega) μn (GVr_rf hN.1)
    refine z_rcs hc hH 2 (pc' := 177) (lv' := [(3, .int (nI (l + 3))), (0, .ref 50), (1, .int (nI a)), (2, .int (nI l))]) (st' := [.int (nI a), .ref 50]) (μ' := μm) (by rfl) ?_
    refine zq_call hc (z_cx_ok hH (by rfl)) (bs_X7_canDiscard (by omega) [.ref 50, .int (nI a)] _ (aArg_pre ⟨⟨50, by decide, rfl⟩, ⟨_, rfl, (show bI 0 3 _ from bd_nI (by omega) ⟨by omega, by omega⟩)⟩, trivial⟩ rfl) gm.2.2.2) (by decide +kernel) (fun r8 μ8 hq => ?_)
    obtain ⟨-, hz, hr9⟩ := hq
    obtain ⟨v9, rfl, x9, rfl, -⟩ := hr9
    rw [a_Fz_nil hz]
    clear hz μ8
    show Z 0 180 [(3, .int (nI (l + 3))), (0, .ref 50), (1, .int (nI a)), (2, .int (nI l))] [.int x9] μm
    refine z_rcs hc hH 3 (pc' := 184) (lv' := [(4, .int (nI l)), (3, .int x9), (0, .ref 50), (1, .int (nI a)), (2, .int (nI l))]) (st' := []) (μ' := μm) (by rfl) ?_
    have q : Z 0 184 [(4, .int (nI (l + 0))), (3, .int x9), (0, .ref 50), (1, .int (nI a)), (2, .int (nI l))] [] μm := by
      refine rn184 d' Z hd μ hc hr a l cc ha4 hl hlc hcl x9 μm ((gm.2.1 50 49 (by decide)).trans cN) (fun μb gb => ?_) 3 0 (by omega) μm (GVr_rf gm.2.2.2)
      have eb := gm.back gb
      rw [eb]
      clear eb
      refine z_rcs hc hH 1 (pc' := 216) (lv' := [(4, .int (nI (l + 3))), (3, .int x9), (0, .ref 50), (1, .int (nI a)), (2, .int (nI l))]) (st' := [.int x9]) (μ' := μn) (by rfl) ?_
      refine zq_if hc hH (by rfl) (tg := 221) (by rfl) (fun h1 => ?_) (fun h1 => ?_)
      · have h1 := cm_ne.mp h1
        refine z_rcs hc hH 1 (pc' := 222) (lv' := [(4, .int (nI (l + 3))), (3, .int x9), (0, .ref 50), (1, .int (nI a)), (2, .int (nI l))]) (st' := [.ref 50]) (μ' := μn) (by rfl) ?_
        refine zq_call hc (z_cx_ok hH (by rfl)) (a_use (i := 122) (K := ak_122) rfl (by omega) [.ref 50] _ (aArg_pre ⟨⟨50, by decide, rfl⟩, trivial⟩ rfl) hN.1) (by decide +kernel) (fun r9 μ9 hq => ?_)
        obtain ⟨hB1, q3, rfl⟩ := hq
        have hB2 := GW_keep hN.2.1 q3 (by decide)
        have hP9 := (hN.2.2 (by rw [yN]; decide)).keep q3 (by decide)
        have fB : a_Fz md_G μ μ9 := a_Fz_tr (by decide +kernel) fN q3
        have e44 : ¬ μ9.1 50 44 = 1 := by rw [a_Fz_at q3 50 44 (by decide +kernel), yN]; decide
        have e49 : μ9.1 50 49 = nI cc := by rw [a_Fz_at q3 50 49 (by decide +kernel)]; exact cN
        have z9 : ∀ t, t < 3 → l + t ≠ cc → ¬ μ9.1 60 (34 * a + (l + t)) = 0 := fun t ht hne => by rw [a_Fz_at q3 60 _ (a_md_row (by decide +kernel))]; exact zN t ht hne
        have hfl := hP9.flat e44
        obtain ⟨q, hq4, eq⟩ := sets_nI hB1 a
        obtain ⟨hq, hgh⟩ := GH_run hfl hB1 ha4 hl hlc hcl hq4 eq z9
        show Z 0 225 [(4, .int (nI (l + 3))), (3, .int x9), (0, .ref 50), (1, .int (nI a)), (2, .int (nI l))] [] μ9
        refine z_rcs hc hH 2 (pc' := 228) (lv' := [(4, .int (nI l)), (3, .int x9), (0, .ref 50), (1, .int (nI a)), (2, .int (nI l))]) (st' := []) (μ' := μ9) (by rfl) ?_
        have q : Z 0 228 [(4, .int (nI (l + 0))), (3, .int x9), (0, .ref 50), (1, .int (nI a)), (2, .int (nI l))] [] μ9 := by
          refine rn228 d' Z hd μ hc hr a l cc ha4 hl hlc hcl x9 μ9 e49 (fun μk gk => ?_) 3 0 (by omega) μ9 (GVr_rf hB1)
          refine z_rcs hc hH 4 (pc' := 263) (lv' := [(4, .int (nI (l + 3))), (3, .int x9), (0, .ref 50), (1, .int (nI a)), (2, .int (nI l))]) (st' := [.int (nI l), .int 0, .int (nI a), .ref 50]) (μ' := μk) (by rfl) ?_
          refine zq_call hc (z_cx_ok hH (by rfl)) (fc_X7_claims d' (by omega) μk a q 0 (nI l) ha4 hq ((gk.2.1 64 a (by decide)).trans eq) gk.2.2.2) (by decide +kernel) (fun r7 μ7 hq => ?_)
          obtain ⟨rfl, k1, k2, k3, k4, k5, k6, k7⟩ := hq
          have i64 : ∀ i, μ7.1 64 i = if i = a then nI (q + 1) else μ9.1 64 i := fun i => by rw [k7, gk.2.1 64 i (by decide)]
          have gh := hgh μ7 (fun j => by rw [a_Fz_at k2 60 j (a_md_row (by decide +kernel)), gk.1]) i64
          have c_ : ∀ k, (a_md md_claims 50 k = false) → μ7.1 50 k = μ9.1 50 k := fun k hk => by rw [a_Fz_at k2 50 k hk, gk.2.1 50 k (by decide +kernel)]
          have hG : GP μ7 := GP_claimed hP9 e44 gh k3 k4 k6 (c_ 46 (by decide +kernel)) (c_ 47 (by decide +kernel)) (c_ 48 (by decide +kernel)) (fun j => by rw [a_Fz_at k2 66 j (a_md_row (by decide +kernel)), gk.2.1 66 j (by decide +kernel)]) (sM_lay ha4 hq eq i64)
          have fk := gk.fz
          have hE : zPG μ (some (.int 1)) μ7 := ⟨⟨1, rfl⟩, ⟨k1, GW_keep (GW_keep hB2 fk (by decide +kernel)) k2 (by decide +kernel), fun _ => hG⟩, a_Fz_tr (by decide +kernel) (a_Fz_tr (by decide +kernel) fB fk) k2⟩
          show Z 0 266 [(4, .int (nI (l + 3))), (3, .int x9), (0, .ref 50), (1, .int (nI a)), (2, .int (nI l))] [] μ7
          refine z_rcs hc hH 1 (pc' := 267) (lv' := [(4, .int (nI (l + 3))), (3, .int x9), (0, .ref 50), (1, .int (nI a)), (2, .int (nI l))]) (st' := [.int 1]) (μ' := μ7) (by rfl) ?_
          exact hr 0 267 _ _ _ (some (.int 1)) (by decide +kernel) (by rfl) hE
        rw [Nat.add_zero] at q
        exact q
      · have h1 := cn_ne.mp h1
        refine z_rcs hc hH 1 (pc' := 220) (lv' := [(4, .int (nI (l + 3))), (3, .int x9), (0, .ref 50), (1, .int (nI a)), (2, .int (nI l))]) (st' := [.int 0]) (μ' := μn) (by rfl) ?_
        exact hr 0 220 _ _ _ (some (.int 0)) (by decide +kernel) (z_rx_ok hH (by rfl)) (⟨⟨0, rfl⟩, hN, fN⟩)
    rw [Nat.add_zero] at q
    exact q
  rw [Nat.add_zero] at q
  exact q
set_option maxRecDepth 2000 in
theorem rn86 (d' : Nat) (Z : zK) (hd : 703 ≤ d') (μ : zM) (hc : z_clo z_x0 mi_X7_run (z_C d') Z) (hr : z_ret mi_X7_run (zPG μ) Z) (a l cc : Nat) (ha4 : a < 4) (hl : l + 2 < 34) (hlc : l ≤ cc) (hcl : cc ≤ l + 2) (μ0 : zM) (h0 : GI μ0) (f0 : a_Fz md_G μ μ0) (ec : μ0.1 50 49 = nI cc) (y1 : μ0.1 50 44 = 2) (nz : ∀ t, t < 3 → l + t ≠ cc → ¬ μ0.1 60 (34 * a + (l + t)) = 0) : Z 0 86 [(3, .int (nI (l + 3))), (0, .ref 50), (1, .int (nI a)), (2, .int (nI l))] [] μ0 := by
  have hH := zh_X7_run
  refine z_rcs hc hH 3 (pc' := 91) (lv' := [(3, .int (nI (l + 3))), (0, .ref 50), (1, .int (nI a)), (2, .int (nI l))]) (st' := [.int (μ0.1 50 49), .ref 50]) (μ' := μ0) (by rfl) ?_
  rw [ec]
  refine z_rcs hc hH 1 (pc' := 94) (lv' := [(3, .int (nI (l + 3))), (0, .ref 50), (1, .int (nI a)), (2, .int (nI l))]) (st' := []) (μ' := z_ui μ0 50 50 (nI cc)) (by rfl) ?_
  have hN : GI (z_ui μ0 50 50 (nI cc)) := ⟨a_H_ui h0.1 (bI_top _), GW_ne h0.2.1 (by decide +kernel), fun q => (h0.2.2 q).keep (md := [(50, 50)]) (a_Fz_ui (a_Fz_rf _ _) (by decide +kernel)) (by decide +kernel)⟩
  have fN : a_Fz md_G μ (z_ui μ0 50 50 (nI cc)) := a_Fz_ui f0 (by decide +kernel)
  have cN : (z_ui μ0 50 50 (nI cc)).1 50 49 = nI cc := by rw [z_ui_rd, if_neg (by omega)]; exact ec
  have yN : (z_ui μ0 50 50 (nI cc)).1 50 44 = 2 := by rw [z_ui_rd, if_neg (by omega)]; exact y1
  have zN : ∀ t, t < 3 → l + t ≠ cc → ¬ (z_ui μ0 50 50 (nI cc)).1 60 (34 * a + (l + t)) = 0 := fun t ht hne => by rw [z_ui_rd, if_neg (by omega)]; exact nz t ht hne
  generalize z_ui μ0 50 50 (nI cc) = μ1 at hN fN cN yN zN ⊢
  refine z_rcs hc hH 4 (pc' := 100) (lv' := [(3, .int (nI (l + 3))), (0, .ref 50), (1, .int (nI a)), (2, .int (nI l))]) (st' := [.int (nI l), .int (μ1.1 50 49), .ref 50]) (μ' := μ1) (by rfl) ?_
  refine zq_ic hc hH (by rfl) (tg := 118) (by rfl) (fun h1 => ?_) (fun h1 => ?_)
  · have h1 := cm_ne.mp h1
    refine z_rcs hc hH 5 (pc' := 125) (lv' := [(3, .int (nI (l + 3))), (0, .ref 50), (1, .int (nI a)), (2, .int (nI l))]) (st' := [.int ((nI l) + 2), .int (μ1.1 50 49), .ref 50]) (μ' := μ1) (by rfl) ?_
    refine zq_ic hc hH (by rfl) (tg := 141) (by rfl) (fun h2 => ?_) (fun h2 => ?_)
    · have h2 := cm_ne.mp h2
      refine z_rcs hc hH 1 (pc' := 142) (lv' := [(3, .int (nI (l + 3))), (0, .ref 50), (1, .int (nI a)), (2, .int (nI l))]) (st' := [.int (-1), .ref 50]) (μ' := μ1) (by rfl) ?_
      exact rn142 d' Z hd μ hc hr a l cc ha4 hl hlc hcl μ1 hN fN cN yN zN _
    · have h2 := cn_ne.mp h2
      refine z_rcs hc hH 3 (pc' := 132) (lv' := [(3, .int (nI (l + 3))), (0, .ref 50), (1, .int (nI a)), (2, .int (nI l))]) (st' := [.int ((nI l) - (nI l) / 9 * 9), .ref 50]) (μ' := μ1) (by rfl) ?_
      refine zq_if hc hH (by rfl) (tg := 141) (by rfl) (fun h3 => ?_) (fun h3 => ?_)
      · have h3 := cm_le.mp h3
        refine z_rcs hc hH 1 (pc' := 142) (lv' := [(3, .int (nI (l + 3))), (0, .ref 50), (1, .int (nI a)), (2, .int (nI l))]) (st' := [.int (-1), .ref 50]) (μ' := μ1) (by rfl) ?_
        exact rn142 d' Z hd μ hc hr a l cc ha4 hl hlc hcl μ1 hN fN cN yN zN _
      · have h3 := cn_le.mp h3
        refine z_rcs hc hH 4 (pc' := 142) (lv' := [(3, .int (nI (l + 3))), (0, .ref 50), (1, .int (nI a)), (2, .int (nI l))]) (st' := [.int ((nI l) - 1), .ref 50]) (μ' := μ1) (by rfl) ?_
        exact rn142 d' Z hd μ hc hr a l cc ha4 hl hlc hcl μ1 hN fN cN yN zN _
  · have h1 := cn_ne.mp h1
    refine z_rcs hc hH 4 (pc' := 109) (lv' := [(3, .int (nI (l + 3))), (0, .ref 50), (1, .int (nI a)), (2, .int (nI l))]) (st' := [.int 6, .int ((nI l) - (nI l) / 9 * 9), .ref 50]) (μ' := μ1) (by rfl) ?_
    refine zq_ic hc hH (by rfl) (tg := 118) (by rfl) (fun h4 => ?_) (fun h4 => ?_)
    · have h4 := cm_ge.mp h4
      refine z_rcs hc hH 5 (pc' := 125) (lv' := [(3, .int (nI (l + 3))), (0, .ref 50), (1, .int (nI a)), (2, .int (nI l))]) (st' := [.int ((nI l) + 2), .int (μ1.1 50 49), .ref 50]) (μ' := μ1) (by rfl) ?_
      refine zq_ic hc hH (by rfl) (tg := 141) (by rfl) (fun h5 => ?_) (fun h5 => ?_)
      · have h5 := cm_ne.mp h5
        refine z_rcs hc hH 1 (pc' := 142) (lv' := [(3, .int (nI (l + 3))), (0, .ref 50), (1, .int (nI a)), (2, .int (nI l))]) (st' := [.int (-1), .ref 50]) (μ' := μ1) (by rfl) ?_
        exact rn142 d' Z hd μ hc hr a l cc ha4 hl hlc hcl μ1 hN fN cN yN zN _
      · have h5 := cn_ne.mp h5
        refine z_rcs hc hH 3 (pc' := 132) (lv' := [(3, .int (nI (l + 3))), (0, .ref 50), (1, .int (nI a)), (2, .int (nI l))]) (st' := [.int ((nI l) - (nI l) / 9 * 9), .ref 50]) (μ' := μ1) (by rfl) ?_
        refine zq_if hc hH (by rfl) (tg := 141) (by rfl) (fun h6 => ?_) (fun h6 => ?_)
        · have h6 := cm_le.mp h6
          refine z_rcs hc hH 1 (pc' := 142) (lv' := [(3, .int (nI (l + 3))), (0, .ref 50), (1, .int (nI a)), (2, .int (nI l))]) (st' := [.int (-1), .ref 50]) (μ' := μ1) (by rfl) ?_
          exact rn142 d' Z hd μ hc hr a l cc ha4 hl hlc hcl μ1 hN fN cN yN zN _
        · have h6 := cn_le.mp h6
          refine z_rcs hc hH 4 (pc' := 142) (lv' := [(3, .int (nI (l + 3))), (0, .ref 50), (1, .int (nI a)), (2, .int (nI l))]) (st' := [.int ((nI l) - 1), .ref 50]) (μ' := μ1) (by rfl) ?_
          exact rn142 d' Z hd μ hc hr a l cc ha4 hl hlc hcl μ1 hN fN cN yN zN _
    · have h4 := cn_ge.mp h4
      refine z_rcs hc hH 4 (pc' := 142) (lv' := [(3, .int (nI (l + 3))), (0, .ref 50), (1, .int (nI a)), (2, .int (nI l))]) (st' := [.int ((nI l) + 3), .ref 50]) (μ' := μ1) (by rfl) ?_
      exact rn142 d' Z hd μ hc hr a l cc ha4 hl hlc hcl μ1 hN fN cN yN zN _
set_option maxRecDepth 2000 in
theorem fc_X7_run (d : Nat) (hd : 704 ≤ d) (μ : zM) (s k : Int32) (hi : GI μ) : z_C d mi_X7_run [.ref 50, .int s, .int k] μ (zPG μ) := by
  refine z_C_in (by decide) (by omega) (fun d' Z ed hc hr => ?_)
  have hH := zh_X7_run
  refine z_rcs hc hH 3 (pc' := 5) (lv' := [(0, .ref 50), (1, .int s), (2, .int k)]) (st' := []) (μ' := z_ui μ 50 0 0) (by rfl) ?_
  have h0 := hi.put
  have f0 := fG0 μ
  generalize z_ui μ 50 0 0 = μ0 at h0 f0 ⊢
  refine z_rcs hc hH 2 (pc' := 7) (lv' := [(0, .ref 50), (1, .int s), (2, .int k)]) (st' := [.int s, .ref 50]) (μ' := μ0) (by rfl) ?_
  refine zq_call hc (z_cx_ok hH (by rfl)) (fc_X7_mayClaim d' (by omega) μ0 s h0.1) (by decide +kernel) (fun r9 μ9 hq => ?_)
  obtain ⟨hμ9, hq⟩ := hq
  rw [hμ9]
  clear hμ9 μ9
  obtain ⟨rfl, y1, y3, y5, y6⟩ | rfl := hq
  · show Z 0 10 [(0, .ref 50), (1, .int s), (2, .int k)] [.int 1] μ0
    obtain ⟨a, ha4, rfl⟩ := vp_in_of y5 (by decide)
    have hP := h0.2.2 (by rw [y1]; decide)
    have hn1 : ¬ μ0.1 50 44 = 1 := by rw [y1]; decide
    obtain ⟨cc, hcc, ec⟩ := a_nI (x := μ0.1 50 49) (n := 34) (hP.2.2.2.2.1 (fun q => absurd q hn1)) (by have : (μ0.1 50 49).toInt ≤ 33 := (h0.1 50 49).2; omega) (by decide)
    refine z_rcs hc hH 8 (pc' := 22) (lv' := [(0, .ref 50), (1, .int (nI a)), (2, .int k)]) (st' := [.int (((μ0.1 50 45) + 1) - ((μ0.1 50 45) + 1) / 4 * 4), .int (nI a)]) (μ' := μ0) (by rfl) ?_
    refine zq_ic hc hH (by rfl) (tg := 50) (by rfl) (fun h1 => ?_) (fun h1 => ?_)
    · have h1 := cm_ne.mp h1
      refine z_rcs hc hH 1 (pc' := 51) (lv' := [(0, .ref 50), (1, .int (nI a)), (2, .int k)]) (st' := [.int 0]) (μ' := μ0) (by rfl) ?_
      exact hr 0 51 _ _ _ (some (.int 0)) (by decide +kernel) (z_rx_ok hH (by rfl)) (⟨⟨0, rfl⟩, h0, f0⟩)
    · have h1 := cn_ne.mp h1
      refine z_rcs hc hH 1 (pc' := 26) (lv' := [(0, .ref 50), (1, .int (nI a)), (2, .int k)]) (st' := [.int k]) (μ' := μ0) (by rfl) ?_
      refine zq_call hc (z_cx_ok hH (by rfl)) (fc_X7_isRun d' (by omega) μ0 k) (by decide +kernel) (fun r9 μ9 hq => ?_)
      obtain ⟨hμ9, hq⟩ := hq
      rw [hμ9]
      clear hμ9 μ9
      obtain ⟨rfl, hk⟩ | ⟨rfl, hk⟩ := hq
      · show Z 0 29 [(0, .ref 50), (1, .int (nI a)), (2, .int k)] [.int 1] μ0
        obtain ⟨l, hl27, rfl⟩ := a_nI (x := k) (n := 27) (by have z := hk.1; rw [Int32.not_lt, Int32.le_iff_toInt_le] at z; exact z) (by have z := hk.2.1; rw [Int32.not_le, Int32.lt_iff_toInt_lt] at z; exact z) (by decide)
        refine z_rcs hc hH 4 (pc' := 37) (lv' := [(0, .ref 50), (1, .int (nI a)), (2, .int (nI l))]) (st' := [.int (nI l), .int (μ0.1 50 49)]) (μ' := μ0) (by rfl) ?_
        refine zq_ic hc hH (by rfl) (tg := 50) (by rfl) (fun h2 => ?_) (fun h2 => ?_)
        · have h2 := cm_lt.mp h2
          refine z_rcs hc hH 1 (pc' := 51) (lv' := [(0, .ref 50), (1, .int (nI a)), (2, .int (nI l))]) (st' := [.int 0]) (μ' := μ0) (by rfl) ?_
          exact hr 0 51 _ _ _ (some (.int 0)) (by decide +kernel) (z_rx_ok hH (by rfl)) (⟨⟨0, rfl⟩, h0, f0⟩)
        · have h2 := cn_lt.mp h2
          refine z_rcs hc hH 5 (pc' := 47) (lv' := [(0, .ref 50), (1, .int (nI a)), (2, .int (nI l))]) (st' := [.int ((nI l) + 2), .int (μ0.1 50 49)]) (μ' := μ0) (by rfl) ?_
          refine zq_ic hc hH (by rfl) (tg := 52) (by rfl) (fun h3 => ?_) (fun h3 => ?_)
          · have h3 := cm_le.mp h3
            have g1 : l ≤ cc := by
              have z := h2
              rw [ec, Int32.not_lt, Int32.le_iff_toInt_le, nI_toInt (by omega), nI_toInt (by omega)] at z
              omega
            have g2 : cc ≤ l + 2 := by
              have z := h3
              rw [ec, show (2 : Int32) = nI 2 from rfl, nI_add, Int32.le_iff_toInt_le, nI_toInt (by omega), nI_toInt (by omega)] at z
              omega
            have q := rn54 d' Z (by omega) μ hc hr a l cc ha4 (by omega) g1 g2 μ0 h0 f0 ec (fun nz => rn86 d' Z (by omega) μ hc hr a l cc ha4 (by omega) g1 g2 μ0 h0 f0 ec y1 nz) 3 0 (by omega) (fun t ht => absurd ht (by omega))
            rw [Nat.add_zero] at q
            refine z_rcs hc hH 2 (pc' := 54) (lv' := [(3, .int (nI l)), (0, .ref 50), (1, .int (nI a)), (2, .int (nI l))]) (st' := []) (μ' := μ0) (by rfl) ?_
            exact q
          · have h3 := cn_le.mp h3
            refine z_rcs hc hH 1 (pc' := 51) (lv' := [(0, .ref 50), (1, .int (nI a)), (2, .int (nI l))]) (st' := [.int 0]) (μ' := μ0) (by rfl) ?_
            exact hr 0 51 _ _ _ (some (.int 0)) (by decide +kernel) (z_rx_ok hH (by rfl)) (⟨⟨0, rfl⟩, h0, f0⟩)
      · show Z 0 29 [(0, .ref 50), (1, .int (nI a)), (2, .int k)] [.int 0] μ0
        refine z_rcs hc hH 2 (pc' := 51) (lv' := [(0, .ref 50), (1, .int (nI a)), (2, .int k)]) (st' := [.int 0]) (μ' := μ0) (by rfl) ?_
        exact hr 0 51 _ _ _ (some (.int 0)) (by decide +kernel) (z_rx_ok hH (by rfl)) (⟨⟨0, rfl⟩, h0, f0⟩)
  · show Z 0 10 [(0, .ref 50), (1, .int s), (2, .int k)] [.int 0] μ0
    refine z_rcs hc hH 2 (pc' := 51) (lv' := [(0, .ref 50), (1, .int s), (2, .int k)]) (st' := [.int 0]) (μ' := μ0) (by rfl) ?_
    exact hr 0 51 _ _ _ (some (.int 0)) (by decide +kernel) (z_rx_ok hH (by rfl)) (⟨⟨0, rfl⟩, h0, f0⟩)

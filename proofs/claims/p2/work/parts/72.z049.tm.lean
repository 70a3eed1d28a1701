/-! the game: deal of the reference -/
set_option maxRecDepth 8000
/-- how often a kind lies in the places a .. a + n - 1 -/
def cW (f : Nat → Int32) (a k : Nat) : Nat → Nat
  | 0 => 0
  | n + 1 => cW f a k n + (if f (a + n) = nI k then 1 else 0)
/-- how many of a kind a SEAT has got after i tiles -/
def mC (dl : Nat) (f : Nat → Int32) (s k : Nat) : Nat → Nat
  | 0 => 0
  | i + 1 => mC dl f s k i + (if (dl + i / 13) % 4 = s ∧ f i = nI k then 1 else 0)
theorem mC_blk {dl p s k : Nat} {f : Nat → Int32} : ∀ n, n ≤ 13 → mC dl f s k (13 * p + n) = mC dl f s k (13 * p) + (if (dl + p) % 4 = s then cW f (13 * p) k n else 0)
  | 0, _ => by split <;> rfl
  | n + 1, h => by
    show mC dl f s k (13 * p + n) + (if (dl + (13 * p + n) / 13) % 4 = s ∧ f (13 * p + n) = nI k then 1 else 0) = _
    rw [mC_blk n (by omega), show (13 * p + n) / 13 = p from by omega]
    by_cases e : (dl + p) % 4 = s
    · rw [if_pos e, if_pos e]
      show _ = mC dl f s k (13 * p) + (cW f (13 * p) k n + (if f (13 * p + n) = nI k then 1 else 0))
      by_cases e2 : f (13 * p + n) = nI k
      · rw [if_pos ⟨e, e2⟩, if_pos e2]; omega
      · rw [if_neg (fun q => e2 q.2), if_neg e2]; omega
    · rw [if_neg e, if_neg e, if_neg (fun q => e q.1)]
theorem mC_52 {dl p s k : Nat} {f : Nat → Int32} (hdl : dl < 4) (hp : p < 4) (hs : (dl + p) % 4 = s) : mC dl f s k 52 = cW f (13 * p) k 13 := by
  have h0 := mC_blk (dl := dl) (p := 0) (s := s) (k := k) (f := f) 13 (by omega)
  have h1 := mC_blk (dl := dl) (p := 1) (s := s) (k := k) (f := f) 13 (by omega)
  have h2 := mC_blk (dl := dl) (p := 2) (s := s) (k := k) (f := f) 13 (by omega)
  have h3 := mC_blk (dl := dl) (p := 3) (s := s) (k := k) (f := f) 13 (by omega)
  have z : mC dl f s k (13 * 0) = 0 := rfl
  have a0 : mC dl f s k (13 * 0 + 13) = mC dl f s k (13 * 1) := rfl
  have a1 : mC dl f s k (13 * 1 + 13) = mC dl f s k (13 * 2) := rfl
  have a2 : mC dl f s k (13 * 2 + 13) = mC dl f s k (13 * 3) := rfl
  have a3 : mC dl f s k (13 * 3 + 13) = mC dl f s k 52 := rfl
  obtain rfl | rfl | rfl | rfl : p = 0 ∨ p = 1 ∨ p = 2 ∨ p = 3 := by omega
  · rw [if_pos hs] at h0; rw [if_neg (by omega)] at h1 h2 h3; omega
  · rw [if_pos hs] at h1; rw [if_neg (by omega)] at h0 h2 h3; omega
  · rw [if_pos hs] at h2; rw [if_neg (by omega)] at h0 h1 h3; omega
  · rw [if_pos hs] at h3; rw [if_neg (by omega)] at h0 h1 h2; omega
theorem cW_le {f : Nat → Int32} {a k : Nat} : ∀ n, cW f a k n ≤ n
  | 0 => Nat.le_refl _
  | n + 1 => by
    have := cW_le (f := f) (a := a) (k := k) n
    show cW f a k n + (if f (a + n) = nI k then 1 else 0) ≤ n + 1
    split <;> omega
theorem mC_le {dl s k : Nat} {f : Nat → Int32} : ∀ n, mC dl f s k n ≤ n
  | 0 => Nat.le_refl _
  | n + 1 => by
    have := mC_le (dl := dl) (s := s) (k := k) (f := f) n
    show mC dl f s k n + (if (dl + n / 13) % 4 = s ∧ f n = nI k then 1 else 0) ≤ n + 1
    split <;> omega
theorem swW_in {f : Nat → Int32} {a b : Nat} (h : ∀ k, k < 136 → ∃ v, v < 34 ∧ f k = nI v) (ha : a < 136) (hb : b < 136) : ∀ k, k < 136 → ∃ v, v < 34 ∧ swW f a b k = nI v := by
  intro k hk
  unfold swW
  split
  · exact h a ha
  · split
    · exact h b hb
    · exact h k hk
theorem wsh_in : ∀ i, i ≤ 135 → ∀ (x : Int64) (f : Nat → Int32), (∀ k, k < 136 → ∃ v, v < 34 ∧ f k = nI v) → ∀ k, k < 136 → ∃ v, v < 34 ∧ wsh i x f k = nI v
  | 0, _, _, _, h => h
  | i + 1, hi, x, f, h => wsh_in i (by omega) (nxL x) _ (swW_in h (by omega) (jE_n (nxL x) i (by omega)).2.1)
theorem wlF_in (sd : Int64) : ∀ k, k < 136 → ∃ v, v < 34 ∧ wlF sd k = nI v := wsh_in 135 (by omega) sd _ (fun k hk => ⟨k / 4, by omega, rfl⟩)
/-- the wall as numbers -/
def wlN (sd : Int64) (k : Nat) : Nat := (wlF sd k).toNatClampNeg
theorem wlN_e (sd : Int64) {k : Nat} (hk : k < 136) : wlF sd k = nI (wlN sd k) ∧ wlN sd k < 34 := by
  obtain ⟨v, h1, h2⟩ := wlF_in sd k hk
  have e : wlN sd k = v := by unfold wlN; rw [h2, nI_clamp (by omega)]
  rw [e]; exact ⟨h2, h1⟩
def HZ (i : Nat) (μ0 μ1 : zM) : Prop := (∀ k, k < i → μ1.1 60 k = 0) ∧ (∀ r k, r ≠ 60 → μ1.1 r k = μ0.1 r k) ∧ μ1.2 = μ0.2
theorem HZ.nx {i : Nat} {μ0 μ1 : zM} (h : HZ i μ0 μ1) : HZ (i + 1) μ0 (z_ui μ1 60 i 0) := by
  refine ⟨fun k hk => ?_, fun r k hr => by rw [ui_o hr]; exact h.2.1 r k hr, h.2.2⟩
  by_cases e : k = i
  · rw [e, ui_s]
  · rw [ui_k e]; exact h.1 k (by omega)
def GVd (dl : Nat) (f : Nat → Int32) (i : Nat) (μ0 μ1 : zM) : Prop := (∀ s k, s < 4 → k < 34 → μ1.1 60 (34 * s + k) = nI (mC dl f s k i)) ∧ (∀ r k, r ≠ 60 → μ1.1 r k = μ0.1 r k) ∧ μ1.2 = μ0.2
theorem GVd.nx {dl i v : Nat} {f : Nat → Int32} {μ0 μ1 : zM} (h : GVd dl f i μ0 μ1) (hv : v < 34) (hf : f i = nI v) : GVd dl f (i + 1) μ0 (z_giv μ1 ((dl + i / 13) % 4) v 1) := by
  refine ⟨fun s k hs hk => ?_, fun r k hr => by rw [giv_o hr]; exact h.2.1 r k hr, h.2.2⟩
  rw [giv_60]
  show _ = nI (mC dl f s k i + (if (dl + i / 13) % 4 = s ∧ f i = nI k then 1 else 0))
  have hm : (dl + i / 13) % 4 < 4 := Nat.mod_lt _ (by decide)
  by_cases e : 34 * s + k = 34 * ((dl + i / 13) % 4) + v
  · have e1 : (dl + i / 13) % 4 = s := by omega
    have e2 : k = v := by omega
    rw [if_pos e, h.1 s k hs hk, if_pos ⟨e1, by rw [hf, e2]⟩, nI_s1]
  · rw [if_neg e, h.1 s k hs hk, if_neg (fun q => e (by
      have := (nI_eq (a := v) (b := k) (by omega) (by omega)).mp (hf.symm.trans q.2)
      omega)), Nat.add_zero]
theorem nI_dm : ∀ D, D < 4 → ∀ i, i < 52 → (nI D + nI i / 13) - (nI D + nI i / 13) / 4 * 4 = nI ((D + i / 13) % 4) := by decide +kernel
/-- what the deal leaves before the first draw -/
def DLM (dl : Nat) (sd : Int64) (μ0 μ3 : zM) : Prop := (∀ k, k < 136 → μ3.1 59 k = wlF sd k) ∧ (∀ s k, s < 4 → k < 34 → μ3.1 60 (34 * s + k) = nI (mC dl (wlF sd) s k 52)) ∧ (∀ r k, r ≠ 59 → r ≠ 60 → μ3.1 r k = μ0.1 r k) ∧ μ3.2 = μ0.2
theorem dm125 (d' : Nat) (Z : zK) (hc : z_clo z_x0 mi_X7_deal (z_C d') Z) (x sd : Int64) (kv jv : Int32) (μ0 : zM) (K : ∀ μ1, HZ 136 μ0 μ1 → Z 0 149 [(5, .int (nI 136)), (7, .int kv), (6, .int jv), (3, .long x), (0, .ref 50), (1, .long sd)] [] μ1) : ∀ n i, i + n = 136 → ∀ μ1, HZ i μ0 μ1 → Z 0 125 [(5, .int (nI i)), (7, .int kv), (6, .int jv), (3, .long x), (0, .ref 50), (1, .long sd)] [] μ1 := by
  have hH := zh_X7_deal
  intro n
  induction n with
  | zero =>
    intro i hi μ1 g1
    have hi : i = 136 := by omega
    subst hi
    refine z_rcs hc hH 2 (pc' := 128) (lv' := [(5, .int (nI 136)), (7, .int kv), (6, .int jv), (3, .long x), (0, .ref 50), (1, .long sd)]) (st' := [.ref 50, .int (nI 136)]) (μ' := μ1) (by rfl) ?_
    refine zq_gfr hc hH (by rfl) (ci := 6) (f := 28) (q := 60) (by rfl) (by decide +kernel) (by rfl) (by decide +kernel) ?_
    refine z_rcs hc hH 1 (pc' := 132) (lv' := [(5, .int (nI 136)), (7, .int kv), (6, .int jv), (3, .long x), (0, .ref 50), (1, .long sd)]) (st' := [.int 136, .int (nI 136)]) (μ' := μ1) (by rfl) ?_
    refine zq_ic hc hH (by rfl) (tg := 149) (by rfl) (fun h1 => ?_) (fun h1 => ?_)
    · have h1 : (decide (136 ≤ (nI 136))) = true := decide_eq_true (cm_ge.mp h1)
      exact K μ1 g1
    · have h1 : (decide (136 ≤ (nI 136))) = false := decide_eq_false (cn_ge.mp h1)
      exact absurd (Eq.trans (Eq.symm (kn_le2 (m := 136) rfl (by omega) (by omega))) h1) (by decide)
  | succ n ih =>
    intro i hi μ1 g1
    refine z_rcs hc hH 2 (pc' := 128) (lv' := [(5, .int (nI i)), (7, .int kv), (6, .int jv), (3, .long x), (0, .ref 50), (1, .long sd)]) (st' := [.ref 50, .int (nI i)]) (μ' := μ1) (by rfl) ?_
    refine zq_gfr hc hH (by rfl) (ci := 6) (f := 28) (q := 60) (by rfl) (by decide +kernel) (by rfl) (by decide +kernel) ?_
    refine z_rcs hc hH 1 (pc' := 132) (lv' := [(5, .int (nI i)), (7, .int kv), (6, .int jv), (3, .long x), (0, .ref 50), (1, .long sd)]) (st' := [.int 136, .int (nI i)]) (μ' := μ1) (by rfl) ?_
    refine zq_ic hc hH (by rfl) (tg := 149) (by rfl) (fun h1 => ?_) (fun h1 => ?_)
    · have h1 : (decide (136 ≤ (nI i))) = true := decide_eq_true (cm_ge.mp h1)
      exact absurd (Eq.trans (Eq.symm (kn_le (m := 136) rfl (by omega) (by omega))) h1) (by decide)
    · have h1 : (decide (136 ≤ (nI i))) = false := decide_eq_false (cn_ge.mp h1)
      refine z_rcs hc hH 1 (pc' := 136) (lv' := [(5, .int (nI i)), (7, .int kv), (6, .int jv), (3, .long x), (0, .ref 50), (1, .long sd)]) (st' := [.ref 50]) (μ' := μ1) (by rfl) ?_
      refine zq_gfr hc hH (by rfl) (ci := 6) (f := 28) (q := 60) (by rfl) (by decide +kernel) (by rfl) (by decide +kernel) ?_
      refine z_rcs hc hH 2 (pc' := 142) (lv' := [(5, .int (nI i)), (7, .int kv), (6, .int jv), (3, .long x), (0, .ref 50), (1, .long sd)]) (st' := [.int 0, .int (nI i), .ref 60]) (μ' := μ1) (by rfl) ?_
      refine zq_iast hc hH (by rfl) 136 (oka_i (by decide +kernel)).2 (vp_in_nI (by omega) (by decide)) ?_
      rw [nI_clamp (by omega)]
      show Z 0 143 [(5, .int (nI i)), (7, .int kv), (6, .int jv), (3, .long x), (0, .ref 50), (1, .long sd)] [] (z_ui μ1 60 i 0)
      refine z_rcs hc hH 2 (pc' := 125) (lv' := [(5, .int ((nI i) + 1)), (7, .int kv), (6, .int jv), (3, .long x), (0, .ref 50), (1, .long sd)]) (st' := []) (μ' := z_ui μ1 60 i 0) (by rfl) ?_
      rw [nI_s1]
      exact ih (i + 1) (by omega) _ g1.nx
theorem dm152 (d' : Nat) (Z : zK) (hc : z_clo z_x0 mi_X7_deal (z_C d') Z) (hd : 2 ≤ d') (x sd : Int64) (kv jv : Int32) (dl : Nat) (hdl4 : dl < 4) (s0 : Int64) (μ0 : zM) (hdl : μ0.1 50 40 = nI dl) (hW : ∀ k, k < 136 → μ0.1 59 k = wlF s0 k) (K : ∀ μ1, GVd dl (wlF s0) 52 μ0 μ1 → Z 0 189 [(5, .int (nI 52)), (7, .int kv), (6, .int jv), (3, .long x), (0, .ref 50), (1, .long sd)] [] μ1) : ∀ n i, i + n = 52 → ∀ μ1, GVd dl (wlF s0) i μ0 μ1 → Z 0 152 [(5, .int (nI i)), (7, .int kv), (6, .int jv), (3, .long x), (0, .ref 50), (1, .long sd)] [] μ1 := by
  have hH := zh_X7_deal
  intro n
  induction n with
  | zero =>
    intro i hi μ1 g1
    have hi : i = 52 := by omega
    subst hi
    refine z_rcs hc hH 2 (pc' := 156) (lv' := [(5, .int (nI 52)), (7, .int kv), (6, .int jv), (3, .long x), (0, .ref 50), (1, .long sd)]) (st' := [.int 52, .int (nI 52)]) (μ' := μ1) (by rfl) ?_
    refine zq_ic hc hH (by rfl) (tg := 189) (by rfl) (fun h1 => ?_) (fun h1 => ?_)
    · have h1 : (decide (52 ≤ (nI 52))) = true := decide_eq_true (cm_ge.mp h1)
      exact K μ1 g1
    · have h1 : (decide (52 ≤ (nI 52))) = false := decide_eq_false (cn_ge.mp h1)
      exact absurd (Eq.trans (Eq.symm (kn_le2 (m := 52) rfl (by omega) (by omega))) h1) (by decide)
  | succ n ih =>
    intro i hi μ1 g1
    refine z_rcs hc hH 2 (pc' := 156) (lv' := [(5, .int (nI i)), (7, .int kv), (6, .int jv), (3, .long x), (0, .ref 50), (1, .long sd)]) (st' := [.int 52, .int (nI i)]) (μ' := μ1) (by rfl) ?_
    refine zq_ic hc hH (by rfl) (tg := 189) (by rfl) (fun h1 => ?_) (fun h1 => ?_)
    · have h1 : (decide (52 ≤ (nI i))) = true := decide_eq_true (cm_ge.mp h1)
      exact absurd (Eq.trans (Eq.symm (kn_le (m := 52) rfl (by omega) (by omega))) h1) (by decide)
    · have h1 : (decide (52 ≤ (nI i))) = false := decide_eq_false (cn_ge.mp h1)
      refine z_rcs hc hH 2 (pc' := 161) (lv' := [(5, .int (nI i)), (7, .int kv), (6, .int jv), (3, .long x), (0, .ref 50), (1, .long sd)]) (st' := [.ref 50, .ref 50]) (μ' := μ1) (by rfl) ?_
      refine zq_gfi hc hH (by rfl) (ci := 6) (f := 40) (by rfl) (by decide +kernel) (by rfl) ?_
      rw [((g1.2.1 50 40 (by decide)).trans hdl)]
      refine z_rcs hc hH 6 (pc' := 172) (lv' := [(5, .int (nI i)), (7, .int kv), (6, .int jv), (3, .long x), (0, .ref 50), (1, .long sd)]) (st' := [.int (((nI dl) + ((nI i) / 13)) - ((nI dl) + ((nI i) / 13)) / 4 * 4), .ref 50]) (μ' := μ1) (by rfl) ?_
      rw [nI_dm dl hdl4 i (by omega)]
      refine z_rcs hc hH 1 (pc' := 173) (lv' := [(5, .int (nI i)), (7, .int kv), (6, .int jv), (3, .long x), (0, .ref 50), (1, .long sd)]) (st' := [.ref 50, .int (nI ((dl + i / 13) % 4)), .ref 50]) (μ' := μ1) (by rfl) ?_
      refine zq_gfr hc hH (by rfl) (ci := 6) (f := 27) (q := 59) (by rfl) (by decide +kernel) (by rfl) (by decide +kernel) ?_
      refine z_rcs hc hH 1 (pc' := 178) (lv' := [(5, .int (nI i)), (7, .int kv), (6, .int jv), (3, .long x), (0, .ref 50), (1, .long sd)]) (st' := [.int (nI i), .ref 59, .int (nI ((dl + i / 13) % 4)), .ref 50]) (μ' := μ1) (by rfl) ?_
      refine zq_iald hc hH (by rfl) 136 (oka_i (by decide +kernel)) (vp_in_nI (by omega) (by decide)) ?_
      rw [nI_clamp (by omega)]
      rw [((g1.2.1 59 i (by decide)).trans ((hW i (by omega)).trans (wlN_e s0 (by omega)).1))]
      refine z_rcs hc hH 1 (pc' := 180) (lv' := [(5, .int (nI i)), (7, .int kv), (6, .int jv), (3, .long x), (0, .ref 50), (1, .long sd)]) (st' := [.int 1, .int (nI (wlN s0 i)), .int (nI ((dl + i / 13) % 4)), .ref 50]) (μ' := μ1) (by rfl) ?_
      refine zq_call hc (by rfl) (fc_X7_gives d' (by omega) μ1 ((dl + i / 13) % 4) (wlN s0 i) 1 (Nat.mod_lt _ (by decide)) (wlN_e s0 (by omega)).2) (by decide +kernel) (fun r9 μ9 hq => ?_)
      obtain ⟨rfl, rfl⟩ := hq
      show Z 0 183 [(5, .int (nI i)), (7, .int kv), (6, .int jv), (3, .long x), (0, .ref 50), (1, .long sd)] [] (z_giv μ1 ((dl + i / 13) % 4) (wlN s0 i) 1)
      refine z_rcs hc hH 2 (pc' := 152) (lv' := [(5, .int ((nI i) + 1)), (7, .int kv), (6, .int jv), (3, .long x), (0, .ref 50), (1, .long sd)]) (st' := []) (μ' := z_giv μ1 ((dl + i / 13) % 4) (wlN s0 i) 1) (by rfl) ?_
      rw [nI_s1]
      exact ih (i + 1) (by omega) _ (g1.nx (wlN_e s0 (by omega)).2 (wlN_e s0 (by omega)).1)
def dlM (μ3 : zM) (dl : Nat) (sd : Int64) : zM := dM0 (z_ui (z_ui (z_ui (z_ui (z_ui (z_ui (z_ui (z_ui (z_ui (z_ui (z_ui (z_ui (z_ui (z_ui (z_ui (z_ui (z_ui (z_ui (z_ui (z_ui (z_ui (z_ui (z_ui (z_ui (z_ui (z_ui (z_ui (z_ui (z_ui (z_ui (z_ui (z_ui (z_ui (z_ui (z_ui μ3 64 0 0) 66 0 0) 67 0 0) 68 0 0) 69 0 0) 70 0 0) 71 0 0) 64 1 0) 66 1 0) 67 1 0) 68 1 0) 69 1 0) 70 1 0) 71 1 0) 64 2 0) 66 2 0) 67 2 0) 68 2 0) 69 2 0) 70 2 0) 71 2 0) 64 3 0) 66 3 0) 67 3 0) 68 3 0) 69 3 0) 70 3 0) 71 3 0) 50 46 52) 50 47 0) 50 48 0) 50 53 0) 50 56 1) 50 59 0) 50 55 1) dl 52 (wlN sd 52)
theorem gm_deal (d : Nat) (hd : 5 ≤ d) (μ : zM) (sd : Int64) (dl : Nat) (hdl : μ.1 50 40 = nI dl) (hdl4 : dl < 4) (hp : decide (μ.1 50 44 = 0) = true) (he : decide (μ.1 50 54 = 0) = true) : z_C d mi_X7_deal [.ref 50, .long sd] μ (fun r μ' => r = some (.int 1) ∧ ∃ μ3, DLM dl sd (z_ui μ 50 0 0) μ3 ∧ μ' = dlM μ3 dl sd) := by
  refine z_C_in (by decide) (by omega) (fun d' Z ed hc hr => ?_)
  have hH : zH mi_X7_deal zc_X7_deal 79 7 8 := ⟨by rfl, by rfl, by rfl, by rfl⟩
  refine z_rcs hc hH 2 (pc' := 2) (lv' := [(0, .ref 50), (1, .long sd)]) (st' := [.int 0, .ref 50]) (μ' := μ) (by rfl) ?_
  refine zq_pfi hc hH (by rfl) (ci := 6) (f := 0) (by rfl) (by decide +kernel) (by rfl) ?_
  show Z 0 5 [(0, .ref 50), (1, .long sd)] [] (z_ui μ 50 0 0)
  refine z_rcs hc hH 1 (pc' := 6) (lv' := [(0, .ref 50), (1, .long sd)]) (st' := [.ref 50]) (μ' := z_ui μ 50 0 0) (by rfl) ?_
  refine zq_gfi hc hH (by rfl) (ci := 6) (f := 44) (by rfl) (by decide +kernel) (by rfl) ?_
  rw [ui_k (by omega)]
  refine zq_if hc hH (by rfl) (tg := 19) (by rfl) (fun h1 => ?_) (fun h1 => ?_)
  · have h1 : (decide ((μ.1 50 44) = 0)) = false := decide_eq_false (cm_ne.mp h1)
    exact absurd (Eq.trans (Eq.symm (hp)) h1) (by decide)
  · have h1 : (decide ((μ.1 50 44) = 0)) = true := decide_eq_true (cn_ne.mp h1)
    refine z_rcs hc hH 1 (pc' := 13) (lv' := [(0, .ref 50), (1, .long sd)]) (st' := [.ref 50]) (μ' := z_ui μ 50 0 0) (by rfl) ?_
    refine zq_gfi hc hH (by rfl) (ci := 6) (f := 54) (by rfl) (by decide +kernel) (by rfl) ?_
    rw [ui_k (by omega)]
    refine zq_if hc hH (by rfl) (tg := 21) (by rfl) (fun h2 => ?_) (fun h2 => ?_)
    · have h2 : (decide ((μ.1 50 54) = 0)) = true := decide_eq_true (cm_eq9.mp h2)
      refine z_rcs hc hH 4 (pc' := 26) (lv' := [(5, .int 0), (3, .long sd), (0, .ref 50), (1, .long sd)]) (st' := []) (μ' := z_ui μ 50 0 0) (by rfl) ?_
      refine wm1 d' Z hc sd (z_ui μ 50 0 0) (fun μ1 g1 => wm3 d' Z hc sd (z_ui μ 50 0 0) (fun x kv jv μ2 g2 => ?_) μ1 g1) 136 0 (by omega) (z_ui μ 50 0 0) ⟨fun k hk => absurd hk (by omega), fun _ _ _ => rfl, rfl⟩
      refine z_rcs hc hH 2 (pc' := 125) (lv' := [(5, .int (nI 0)), (7, .int kv), (6, .int jv), (3, .long x), (0, .ref 50), (1, .long sd)]) (st' := []) (μ' := μ2) (by rfl) ?_
      refine dm125 d' Z hc x sd kv jv μ2 (fun μa ga => ?_) 136 0 (by omega) μ2 ⟨fun k hk => absurd hk (by omega), fun _ _ _ => rfl, rfl⟩
      refine z_rcs hc hH 2 (pc' := 152) (lv' := [(5, .int (nI 0)), (7, .int kv), (6, .int jv), (3, .long x), (0, .ref 50), (1, .long sd)]) (st' := []) (μ' := μa) (by rfl) ?_
      have hda : μa.1 50 40 = nI dl := by rw [ga.2.1 50 40 (by decide), g2.2.1 50 40 (by decide), ui_k (by decide)]; exact hdl
      refine dm152 d' Z hc (by omega) x sd kv jv dl hdl4 sd μa hda (fun k hk => by rw [ga.2.1 59 k (by decide)]; exact g2.1 k hk) (fun μ3 gb => ?_) 52 0 (by omega) μa ⟨fun s k hs hk => ga.1 _ (by omega), fun _ _ _ => rfl, rfl⟩
      have hM : DLM dl sd (z_ui μ 50 0 0) μ3 := ⟨fun k hk => by rw [gb.2.1 59 k (by decide), ga.2.1 59 k (by decide)]; exact g2.1 k hk, gb.1, fun r k h1 h2 => by rw [gb.2.1 r k h2, ga.2.1 r k h2]; exact g2.2.1 r k h1, by rw [gb.2.2, ga.2.2]; exact g2.2.2⟩
      refine z_rcs hc hH 6 (pc' := 199) (lv' := [(5, .int 0), (7, .int kv), (6, .int jv), (3, .long x), (0, .ref 50), (1, .long sd)]) (st' := [.ref 50]) (μ' := μ3) (by rfl) ?_
      refine zq_gfr hc hH (by rfl) (ci := 6) (f := 32) (q := 64) (by rfl) (by decide +kernel) (by rfl) (by decide +kernel) ?_
      refine z_rcs hc hH 2 (pc' := 205) (lv' := [(5, .int 0), (7, .int kv), (6, .int jv), (3, .long x), (0, .ref 50), (1, .long sd)]) (st' := [.int 0, .int 0, .ref 64]) (μ' := μ3) (by rfl) ?_
      refine zq_iast hc hH (by rfl) 4 (oka_i (by decide +kernel)).2 (show vp_in (nI 0) 4 from vp_in_nI (by decide) (by decide)) ?_
      rw [show (0 : Int32).toNatClampNeg = 0 from rfl]
      show Z 0 206 [(5, .int 0), (7, .int kv), (6, .int jv), (3, .long x), (0, .ref 50), (1, .long sd)] [] (z_ui μ3 64 0 0)
      refine z_rcs hc hH 1 (pc' := 207) (lv' := [(5, .int 0), (7, .int kv), (6, .int jv), (3, .long x), (0, .ref 50), (1, .long sd)]) (st' := [.ref 50]) (μ' := z_ui μ3 64 0 0) (by rfl) ?_
      refine zq_gfr hc hH (by rfl) (ci := 6) (f := 34) (q := 66) (by rfl) (by decide +kernel) (by rfl) (by decide +kernel) ?_
      refine z_rcs hc hH 2 (pc' := 213) (lv' := [(5, .int 0), (7, .int kv), (6, .int jv), (3, .long x), (0, .ref 50), (1, .long sd)]) (st' := [.int 0, .int 0, .ref 66]) (μ' := z_ui μ3 64 0 0) (by rfl) ?_
      refine zq_iast hc hH (by rfl) 4 (oka_i (by decide +kernel)).2 (show vp_in (nI 0) 4 from vp_in_nI (by decide) (by decide)) ?_
      rw [show (0 : Int32).toNatClampNeg = 0 from rfl]
      show Z 0 214 [(5, .int 0), (7, .int kv), (6, .int jv), (3, .long x), (0, .ref 50), (1, .long sd)] [] (z_ui (z_ui μ3 64 0 0) 66 0 0)
      refine z_rcs hc hH 1 (pc' := 215) (lv' := [(5, .int 0), (7, .int kv), (6, .int jv), (3, .long x), (0, .ref 50), (1, .long sd)]) (st' := [.ref 50]) (μ' := z_ui (z_ui μ3 64 0 0) 66 0 0) (by rfl) ?_
      refine zq_gfr hc hH (by rfl) (ci := 6) (f := 35) (q := 67) (by rfl) (by decide +kernel) (by rfl) (by decide +kernel) ?_
      refine z_rcs hc hH 2 (pc' := 221) (lv' := [(5, .int 0), (7, .int kv), (6, .int jv), (3, .long x), (0, .ref 50), (1, .long sd)]) (st' := [.int 0, .int 0, .ref 67]) (μ' := z_ui (z_ui μ3 64 0 0) 66 0 0) (by rfl) ?_
      refine zq_iast hc hH (by rfl) 4 (oka_i (by decide +kernel)).2 (show vp_in (nI 0) 4 from vp_in_nI (by decide) (by decide)) ?_
      rw [show (0 : Int32).toNatClampNeg = 0 from rfl]
      show Z 0 222 [(5, .int 0), (7, .int kv), (6, .int jv), (3, .long x), (0, .ref 50), (1, .long sd)] [] (z_ui (z_ui (z_ui μ3 64 0 0) 66 0 0) 67 0 0)
      refine z_rcs hc hH 1 (pc' := 223) (lv' := [(5, .int 0), (7, .int kv), (6, .int jv), (3, .long x), (0, .ref 50), (1, .long sd)]) (st' := [.ref 50]) (μ' := z_ui (z_ui (z_ui μ3 64 0 0) 66 0 0) 67 0 0) (by rfl) ?_
      refine zq_gfr hc hH (by rfl) (ci := 6) (f := 36) (q := 68) (by rfl) (by decide +kernel) (by rfl) (by decide +kernel) ?_
      refine z_rcs hc hH 2 (pc' := 229) (lv' := [(5, .int 0), (7, .int kv), (6, .int jv), (3, .long x), (0, .ref 50), (1, .long sd)]) (st' := [.int 0, .int 0, .ref 68]) (μ' := z_ui (z_ui (z_ui μ3 64 0 0) 66 0 0) 67 0 0) (by rfl) ?_
      refine zq_iast hc hH (by rfl) 4 (oka_i (by decide +kernel)).2 (show vp_in (nI 0) 4 from vp_in_nI (by decide) (by decide)) ?_
      rw [show (0 : Int32).toNatClampNeg = 0 from rfl]
      show Z 0 230 [(5, .int 0), (7, .int kv), (6, .int jv), (3, .long x), (0, .ref 50), (1, .long sd)] [] (z_ui (z_ui (z_ui (z_ui μ3 64 0 0) 66 0 0) 67 0 0) 68 0 0)
      refine z_rcs hc hH 1 (pc' := 231) (lv' := [(5, .int 0), (7, .int kv), (6, .int jv), (3, .long x), (0, .ref 50), (1, .long sd)]) (st' := [.ref 50]) (μ' := z_ui (z_ui (z_ui (z_ui μ3 64 0 0) 66 0 0) 67 0 0) 68 0 0) (by rfl) ?_
      refine zq_gfr hc hH (by rfl) (ci := 6) (f := 37) (q := 69) (by rfl) (by decide +kernel) (by rfl) (by decide +kernel) ?_
      refine z_rcs hc hH 2 (pc' := 237) (lv' := [(5, .int 0), (7, .int kv), (6, .int jv), (3, .long x), (0, .ref 50), (1, .long sd)]) (st' := [.int 0, .int 0, .ref 69]) (μ' := z_ui (z_ui (z_ui (z_ui μ3 64 0 0) 66 0 0) 67 0 0) 68 0 0) (by rfl) ?_
      refine zq_bast hc hH (by rfl) 4 (by decide +kernel) (show vp_in (nI 0) 4 from vp_in_nI (by decide) (by decide)) (by decide) ?_
      rw [show (0 : Int32).toNatClampNeg = 0 from rfl]
      show Z 0 238 [(5, .int 0), (7, .int kv), (6, .int jv), (3, .long x), (0, .ref 50), (1, .long sd)] [] (z_ui (z_ui (z_ui (z_ui (z_ui μ3 64 0 0) 66 0 0) 67 0 0) 68 0 0) 69 0 0)
      refine z_rcs hc hH 1 (pc' := 239) (lv' := [(5, .int 0), (7, .int kv), (6, .int jv), (3, .long x), (0, .ref 50), (1, .long sd)]) (st' := [.ref 50]) (μ' := z_ui (z_ui (z_ui (z_ui (z_ui μ3 64 0 0) 66 0 0) 67 0 0) 68 0 0) 69 0 0) (by rfl) ?_
      refine zq_gfr hc hH (by rfl) (ci := 6) (f := 38) (q := 70) (by rfl) (by decide +kernel) (by rfl) (by decide +kernel) ?_
      refine z_rcs hc hH 2 (pc' := 245) (lv' := [(5, .int 0), (7, .int kv), (6, .int jv), (3, .long x), (0, .ref 50), (1, .long sd)]) (st' := [.int 0, .int 0, .ref 70]) (μ' := z_ui (z_ui (z_ui (z_ui (z_ui μ3 64 0 0) 66 0 0) 67 0 0) 68 0 0) 69 0 0) (by rfl) ?_
      refine zq_bast hc hH (by rfl) 4 (by decide +kernel) (show vp_in (nI 0) 4 from vp_in_nI (by decide) (by decide)) (by decide) ?_
      rw [show (0 : Int32).toNatClampNeg = 0 from rfl]
      show Z 0 246 [(5, .int 0), (7, .int kv), (6, .int jv), (3, .long x), (0, .ref 50), (1, .long sd)] [] (z_ui (z_ui (z_ui (z_ui (z_ui (z_ui μ3 64 0 0) 66 0 0) 67 0 0) 68 0 0) 69 0 0) 70 0 0)
      refine z_rcs hc hH 1 (pc' := 247) (lv' := [(5, .int 0), (7, .int kv), (6, .int jv), (3, .long x), (0, .ref 50), (1, .long sd)]) (st' := [.ref 50]) (μ' := z_ui (z_ui (z_ui (z_ui (z_ui (z_ui μ3 64 0 0) 66 0 0) 67 0 0) 68 0 0) 69 0 0) 70 0 0) (by rfl) ?_
      refine zq_gfr hc hH (by rfl) (ci := 6) (f := 39) (q := 71) (by rfl) (by decide +kernel) (by rfl) (by decide +kernel) ?_
      refine z_rcs hc hH 2 (pc' := 253) (lv' := [(5, .int 0), (7, .int kv), (6, .int jv), (3, .long x), (0, .ref 50), (1, .long sd)]) (st' := [.int 0, .int 0, .ref 71]) (μ' := z_ui (z_ui (z_ui (z_ui (z_ui (z_ui μ3 64 0 0) 66 0 0) 67 0 0) 68 0 0) 69 0 0) 70 0 0) (by rfl) ?_
      refine zq_bast hc hH (by rfl) 4 (by decide +kernel) (show vp_in (nI 0) 4 from vp_in_nI (by decide) (by decide)) (by decide) ?_
      rw [show (0 : Int32).toNatClampNeg = 0 from rfl]
      show Z 0 254 [(5, .int 0), (7, .int kv), (6, .int jv), (3, .long x), (0, .ref 50), (1, .long sd)] [] (z_ui (z_ui (z_ui (z_ui (z_ui (z_ui (z_ui μ3 64 0 0) 66 0 0) 67 0 0) 68 0 0) 69 0 0) 70 0 0) 71 0 0)
      refine z_rcs hc hH 6 (pc' := 199) (lv' := [(5, .int 1), (7, .int kv), (6, .int jv), (3, .long x), (0, .ref 50), (1, .long sd)]) (st' := [.ref 50]) (μ' := z_ui (z_ui (z_ui (z_ui (z_ui (z_ui (z_ui μ3 64 0 0) 66 0 0) 67 0 0) 68 0 0) 69 0 0) 70 0 0) 71 0 0) (by rfl) ?_
      refine zq_gfr hc hH (by rfl) (ci := 6) (f := 32) (q := 64) (by rfl) (by decide +kernel) (by rfl) (by decide +kernel) ?_
      refine z_rcs hc hH 2 (pc' := 205) (lv' := [(5, .int 1), (7, .int kv), (6, .int jv), (3, .long x), (0, .ref 50), (1, .long sd)]) (st' := [.int 0, .int 1, .ref 64]) (μ' := z_ui (z_ui (z_ui (z_ui (z_ui (z_ui (z_ui μ3 64 0 0) 66 0 0) 67 0 0) 68 0 0) 69 0 0) 70 0 0) 71 0 0) (by rfl) ?_
      refine zq_iast hc hH (by rfl) 4 (oka_i (by decide +kernel)).2 (show vp_in (nI 1) 4 from vp_in_nI (by decide) (by decide)) ?_
      rw [show (1 : Int32).toNatClampNeg = 1 from rfl]
      show Z 0 206 [(5, .int 1), (7, .int kv), (6, .int jv), (3, .long x), (0, .ref 50), (1, .long sd)] [] (z_ui (z_ui (z_ui (z_ui (z_ui (z_ui (z_ui (z_ui μ3 64 0 0) 66 0 0) 67 0 0) 68 0 0) 69 0 0) 70 0 0) 71 0 0) 64 1 0)
      refine z_rcs hc hH 1 (pc' := 207) (lv' := [(5, .int 1), (7, .int kv), (6, .int jv), (3, .long x), (0, .ref 50), (1, .long sd)]) (st' := [.ref 50]) (μ' := z_ui (z_ui (z_ui (z_ui (z_ui (z_ui (z_ui (z_ui μ3 64 0 0) 66 0 0) 67 0 0) 68 0 0) 69 0 0) 70 0 0) 71 0 0) 64 1 0) (by rfl) ?_
      refine zq_gfr hc hH (by rfl) (ci := 6) (f := 34) (q := 66) (by rfl) (by decide +kernel) (by rfl) (by decide +kernel) ?_
      refine z_rcs hc hH 2 (pc' := 213) (lv' := [(5, .int 1), (7, .int kv), (6, .int jv), (3, .long x), (0, .ref 50), (1, .long sd)]) (st' := [.int 0, .int 1, .ref 66]) (μ' := z_ui (z_ui (z_ui (z_ui (z_ui (z_ui (z_ui (z_ui μ3 64 0 0) 66 0 0) 67 0 0) 68 0 0) 69 0 0) 70 0 0) 71 0 0) 64 1 0) (by rfl) ?_
      refine zq_iast hc hH (by rfl) 4 (oka_i (by decide +kernel)).2 (show vp_in (nI 1) 4 from vp_in_nI (by decide) (by decide)) ?_
      rw [show (1 : Int32).toNatClampNeg = 1 from rfl]
      show Z 0 214 [(5, .int 1), (7, .int kv), (6, .int jv), (3, .long x), (0, .ref 50), (1, .long sd)] [] (z_ui (z_ui (z_ui (z_ui (z_ui (z_ui (z_ui (z_ui (z_ui μ3 64 0 0) 66 0 0) 67 0 0) 68 0 0) 69 0 0) 70 0 0) 71 0 0) 64 1 0) 66 1 0)
      refine z_rcs hc hH 1 (pc' := 215) (lv' := [(5, .int 1), (7, .int kv), (6, .int jv), (3, .long x), (0, .ref 50), (1, .long sd)]) (st' := [.ref 50]) (μ' := z_ui (z_ui (z_ui (z_ui (z_ui (z_ui (z_ui (z_ui (z_ui μ3 64 0 0) 66 0 0) 67 0 0) 68 0 0) 69 0 0) 70 0 0) 71 0 0) 64 1 0) 66 1 0) (by rfl) ?_
      refine zq_gfr hc hH (by rfl) (ci := 6) (f := 35) (q := 67) (by rfl) (by decide +kernel) (by rfl) (by decide +kernel) ?_
      refine z_rcs hc hH 2 (pc' := 221) (lv' := [(5, .int 1), (7, .int kv), (6, .int jv), (3, .long x), (0, .ref 50), (1, .long sd)]) (st' := [.int 0, .int 1, .ref 67]) (μ' := z_ui (z_ui (z_ui (z_ui (z_ui (z_ui (z_ui (z_ui (z_ui μ3 64 0 0) 66 0 0) 67 0 0) 68 0 0) 69 0 0) 70 0 0) 71 0 0) 64 1 0) 66 1 0) (by rfl) ?_
      refine zq_iast hc hH (by rfl) 4 (oka_i (by decide +kernel)).2 (show vp_in (nI 1) 4 from vp_in_nI (by decide) (by decide)) ?_
      rw [show (1 : Int32).toNatClampNeg = 1 from rfl]
      show Z 0 222 [(5, .int 1), (7, .int kv), (6, .int jv), (3, .long x), (0, .ref 50), (1, .long sd)] [] (z_ui (z_ui (z_ui (z_ui (z_ui (z_ui (z_ui (z_ui (z_ui (z_ui μ3 64 0 0) 66 0 0) 67 0 0) 68 0 0) 69 0 0) 70 0 0) 71 0 0) 64 1 0) 66 1 0) 67 1 0)
      refine z_rcs hc hH 1 (pc' := 223) (lv' := [(5, .int 1), (7, .int kv), (6, .int jv), (3, .long x), (0, .ref 50), (1, .long sd)]) (st' := [.ref 50]) (μ' := z_ui (z_ui (z_ui (z_ui (z_ui (z_ui (z_ui (z_ui (z_ui (z_ui μ3 64 0 0) 66 0 0) 67 0 0) 68 0 0) 69 0 0) 70 0 0) 71 0 0) 64 1 0) 66 1 0) 67 1 0) (by rfl) ?_
      refine zq_gfr hc hH (by rfl) (ci := 6) (f := 36) (q := 68) (by rfl) (by decide +kernel) (by rfl) (by decide +kernel) ?_
      refine z_rcs hc hH 2 (pc' := 229) (lv' := [(5, .int 1), (7, .int kv), (6, .int jv), (3, .long x), (0, .ref 50), (1, .long sd)]) (st' := [.int 0, .int 1, .ref 68]) (μ' := z_ui (z_ui (z_ui (z_ui (z_ui (z_ui (z_ui (z_ui (z_ui (z_ui μ3 64 0 0) 66 0 0) 67 0 0) 68 0 0) 69 0 0) 70 0 0) 71 0 0) 64 1 0) 66 1 0) 67 1 0) (by rfl) ?_
      refine zq_iast hc hH (by rfl) 4 (oka_i (by decide +kernel)).2 (show vp_in (nI 1) 4 from vp_in_nI (by decide) (by decide)) ?_
      rw [show (1 : Int32).toNatClampNeg = 1 from rfl]
      show Z 0 230 [(5, .int 1), (7, .int kv), (6, .int jv), (3, .long x), (0, .ref 50), (1, .long sd)] [] (z_ui (z_ui (z_ui (z_ui (z_ui (z_ui (z_ui (z_ui (z_ui (z_ui (z_ui μ3 64 0 0) 66 0 0) 67 0 0) 68 0 0) 69 0 0) 70 0 0) 71 0 0) 64 1 0) 66 1 0) 67 1 0) 68 1 0)
      refine z_rcs hc hH 1 (pc' := 231) (lv' := [(5, .int 1), (7, .int kv), (6, .int jv), (3, .long x), (0, .ref 50), (1, .long sd)]) (st' := [.ref 50]) (μ' := z_ui (z_ui (z_ui (z_ui (z_ui (z_ui (z_ui (z_ui (z_ui (z_ui (z_ui μ3 64 0 0) 66 0 0) 67 0 0) 68 0 0) 69 0 0) 70 0 0) 71 0 0) 64 1 0) 66 1 0) 67 1 0) 68 1 0) (by rfl) ?_
      refine zq_gfr hc hH (by rfl) (ci := 6) (f := 37) (q := 69) (by rfl) (by decide +kernel) (by rfl) (by decide +kernel) ?_
      refine z_rcs hc hH 2 (pc' := 237) (lv' := [(5, .int 1), (7, .int kv), (6, .int jv), (3, .long x), (0, .ref 50), (1, .long sd)]) (st' := [.int 0, .int 1, .ref 69]) (μ' := z_ui (z_ui (z_ui (z_ui (z_ui (z_ui (z_ui (z_ui (z_ui (z_ui (z_ui μ3 64 0 0) 66 0 0) 67 0 0) 68 0 0) 69 0 0) 70 0 0) 71 0 0) 64 1 0) 66 1 0) 67 1 0) 68 1 0) (by rfl) ?_
      refine zq_bast hc hH (by rfl) 4 (by decide +kernel) (show vp_in (nI 1) 4 from vp_in_nI (by decide) (by decide)) (by decide) ?_
      rw [show (1 : Int32).toNatClampNeg = 1 from rfl]
      show Z 0 238 [(5, .int 1), (7, .int kv), (6, .int jv), (3, .long x), (0, .ref 50), (1, .long sd)] [] (z_ui (z_ui (z_ui (z_ui (z_ui (z_ui (z_ui (z_ui (z_ui (z_ui (z_ui (z_ui μ3 64 0 0) 66 0 0) 67 0 0) 68 0 0) 69 0 0) 70 0 0) 71 0 0) 64 1 0) 66 1 0) 67 1 0) 68 1 0) 69 1 0)
      refine z_rcs hc hH 1 (pc' := 239) (lv' := [(5, .int 1), (7, .int kv), (6, .int jv), (3, .long x), (0, .ref 50), (1, .long sd)]) (st' := [.ref 50]) (μ' := z_ui (z_ui (z_ui (z_ui (z_ui (z_ui (z_ui (z_ui (z_ui (z_ui (z_ui (z_ui μ3 64 0 0) 66 0 0) 67 0 0) 68 0 0) 69 0 0) 70 0 0) 71 0 0) 64 1 0) 66 1 0) 67 1 0) 68 1 0) 69 1 0) (by rfl) ?_
      refine zq_gfr hc hH (by rfl) (ci := 6) (f := 38) (q := 70) (by rfl) (by decide +kernel) (by rfl) (by decide +kernel) ?_
      refine z_rcs hc hH 2 (pc' := 245) (lv' := [(5, .int 1), (7, .int kv), (6, .int jv), (3, .long x), (0, .ref 50), (1, .long sd)]) (st' := [.int 0, .int 1, .ref 70]) (μ' := z_ui (z_ui (z_ui (z_ui (z_ui (z_ui (z_ui (z_ui (z_ui (z_ui (z_ui (z_ui μ3 64 0 0) 66 0 0) 67 0 0) 68 0 0) 69 0 0) 70 0 0) 71 0 0) 64 1 0) 66 1 0) 67 1 0) 68 1 0) 69 1 0) (by rfl) ?_
      refine zq_bast hc hH (by rfl) 4 (by decide +kernel) (show vp_in (nI 1) 4 from vp_in_nI (by decide) (by decide)) (by decide) ?_
      rw [show (1 : Int32).toNatClampNeg = 1 from rfl]
      show Z 0 246 [(5, .int 1), (7, .int kv), (6, .int jv), (3, .long x), (0, .ref 50), (1, .long sd)] [] (z_ui (z_ui (z_ui (z_ui (z_ui (z_ui (z_ui (z_ui (z_ui (z_ui (z_ui (z_ui (z_ui μ3 64 0 0) 66 0 0) 67 0 0) 68 0 0) 69 0 0) 70 0 0) 71 0 0) 64 1 0) 66 1 0) 67 1 0) 68 1 0) 69 1 0) 70 1 0)
      refine z_rcs hc hH 1 (pc' := 247) (lv' := [(5, .int 1), (7, .int kv), (6, .int jv), (3, .long x), (0, .ref 50), (1, .long sd)]) (st' := [.ref 50]) (μ' := z_ui (z_ui (z_ui (z_ui (z_ui (z_ui (z_ui (z_ui (z_ui (z_ui (z_ui (z_ui (z_ui μ3 64 0 0) 66 0 0) 67 0 0) 68 0 0) 69 0 0) 70 0 0) 71 0 0) 64 1 0) 66 1 0) 67 1 0) 68 1 0) 69 1 0) 70 1 0) (by rfl) ?_
      refine zq_gfr hc hH (by rfl) (ci := 6) (f := 39) (q := 71) (by rfl) (by decide +kernel) (by rfl) (by decide +kernel) ?_
      refine z_rcs hc hH 2 (pc' := 253) (lv' := [(5, .int 1), (7, .int kv), (6, .int jv), (3, .long x), (0, .ref 50), (1, .long sd)]) (st' := [.int 0, .int 1, .ref 71]) (μ' := z_ui (z_ui (z_ui (z_ui (z_ui (z_ui (z_ui (z_ui (z_ui (z_ui (z_ui (z_ui (z_ui μ3 64 0 0) 66 0 0) 67 0 0) 68 0 0) 69 0 0) 70 0 0) 71 0 0) 64 1 0) 66 1 0) 67 1 0) 68 1 0) 69 1 0) 70 1 0) (by rfl) ?_
      refine zq_bast hc hH (by rfl) 4 (by decide +kernel) (show vp_in (nI 1) 4 from vp_in_nI (by decide) (by decide)) (by decide) ?_
      rw [show (1 : Int32).toNatClampNeg = 1 from rfl]
      show Z 0 254 [(5, .int 1), (7, .int kv), (6, .int jv), (3, .long x), (0, .ref 50), (1, .long sd)] [] (z_ui (z_ui (z_ui (z_ui (z_ui (z_ui (z_ui (z_ui (z_ui (z_ui (z_ui (z_ui (z_ui (z_ui μ3 64 0 0) 66 0 0) 67 0 0) 68 0 0) 69 0 0) 70 0 0) 71 0 0) 64 1 0) 66 1 0) 67 1 0) 68 1 0) 69 1 0) 70 1 0) 71 1 0)
      refine z_rcs hc hH 6 (pc' := 199) (lv' := [(5, .int 2), (7, .int kv), (6, .int jv), (3, .long x), (0, .ref 50), (1, .long sd)]) (st' := [.ref 50]) (μ' := z_ui (z_ui (z_ui (z_ui (z_ui (z_ui (z_ui (z_ui (z_ui (z_ui (z_ui (z_ui (z_ui (z_ui μ3 64 0 0) 66 0 0) 67 0 0) 68 0 0) 69 0 0) 70 0 0) 71 0 0) 64 1 0) 66 1 0) 67 1 0) 68 1 0) 69 1 0) 70 1 0) 71 1 0) (by rfl) ?_
      refine zq_gfr hc hH (by rfl) (ci := 6) (f := 32) (q := 64) (by rfl) (by decide +kernel) (by rfl) (by decide +kernel) ?_
      refine z_rcs hc hH 2 (pc' := 205) (lv' := [(5, .int 2), (7, .int kv), (6, .int jv), (3, .long x), (0, .ref 50), (1, .long sd)]) (st' := [.int 0, .int 2, .ref 64]) (μ' := z_ui (z_ui (z_ui (z_ui (z_ui (z_ui (z_ui (z_ui (z_ui (z_ui (z_ui (z_ui (z_ui (z_ui μ3 64 0 0) 66 0 0) 67 0 0) 68 0 0) 69 0 0) 70 0 0) 71 0 0) 64 1 0) 66 1 0) 67 1 0) 68 1 0) 69 1 0) 70 1 0) 71 1 0) (by rfl) ?_
      refine zq_iast hc hH (by rfl) 4 (oka_i (by decide +kernel)).2 (show vp_in (nI 2) 4 from vp_in_nI (by decide) (by decide)) ?_
      rw [show (2 : Int32).toNatClampNeg = 2 from rfl]
      show Z 0 206 [(5, .int 2), (7, .int kv), (6, .int jv), (3, .long x), (0, .ref 50), (1, .long sd)] [] (z_ui (z_ui (z_ui (z_ui (z_ui (z_ui (z_ui (z_ui (z_ui (z_ui (z_ui (z_ui (z_ui (z_ui (z_ui μ3 64 0 0) 66 0 0) 67 0 0) 68 0 0) 69 0 0) 70 0 0) 71 0 0) 64 1 0) 66 1 0) 67 1 0) 68 1 0) 69 1 0) 70 1 0) 71 1 0) 64 2 0)
      refine z_rcs hc hH 1 (pc' := 207) (lv' := [(5, .int 2), (7, .int kv), (6, .int jv), (3, .long x), (0, .ref 50), (1, .long sd)]) (st' := [.ref 50]) (μ' := z_ui (z_ui (z_ui (z_ui (z_ui (z_ui (z_ui (z_ui (z_ui (z_ui (z_ui (z_ui (z_ui (z_ui (z_ui μ3 64 0 0) 66 0 0) 67 0 0) 68 0 0) 69 0 0) 70 0 0) 71 0 0) 64 1 0) 66 1 0) 67 1 0) 68 1 0) 69 1 0) 70 1 0) 71 1 0) 64 2 0) (by rfl) ?_
      refine zq_gfr hc hH (by rfl) (ci := 6) (f := 34) (q := 66) (by rfl) (by decide +kernel) (by rfl) (by decide +kernel) ?_
      refine z_rcs hc hH 2 (pc' := 213) (lv' := [(5, .int 2), (7, .int kv), (6, .int jv), (3, .long x), (0, .ref 50), (1, .long sd)]) (st' := [.int 0, .int 2, .ref 66]) (μ' := z_ui (z_ui (z_ui (z_ui (z_ui (z_ui (z_ui (z_ui (z_ui (z_ui (z_ui (z_ui (z_ui (z_ui (z_ui μ3 64 0 0) 66 0 0) 67 0 0) 68 0 0) 69 0 0) 70 0 0) 71 0 0) 64 1 0) 66 1 0) 67 1 0) 68 1 0) 69 1 0) 70 1 0) 71 1 0) 64 2 0) (by rfl) ?_
      refine zq_iast hc hH (by rfl) 4 (oka_i (by decide +kernel)).2 (show vp_in (nI 2) 4 from vp_in_nI (by decide) (by decide)) ?_
      rw [show (2 : Int32).toNatClampNeg = 2 from rfl]
      show Z 0 214 [(5, .int 2), (7, .int kv), (6, .int jv), (3, .long x), (0, .ref 50), (1, .long sd)] [] (z_ui (z_ui (z_ui (z_ui (z_ui (z_ui (z_ui (z_ui (z_ui (z_ui (z_ui (z_ui (z_ui (z_ui (z_ui (z_ui μ3 64 0 0) 66 0 0) 67 0 0) 68 0 0) 69 0 0) 70 0 0) 71 0 0) 64 1 0) 66 1 0) 67 1 0) 68 1 0) 69 1 0) 70 1 0) 71 1 0) 64 2 0) 66 2 0)
      refine z_rcs hc hH 1 (pc' := 215) (lv' := [(5, .int 2), (7, .int kv), (6, .int jv), (3, .long x), (0, .ref 50), (1, .long sd)]) (st' := [.ref 50]) (μ' := z_ui (z_ui (z_ui (z_ui (z_ui (z_ui (z_ui (z_ui (z_ui (z_ui (z_ui (z_ui (z_ui (z_ui (z_ui (z_ui μ3 64 0 0) 66 0 0) 67 0 0) 68 0 0) 69 0 0) 70 0 0) 71 0 0) 64 1 0) 66 1 0) 67 1 0) 68 1 0) 69 1 0) 70 1 0) 71 1 0) 64 2 0) 66 2 0) (by rfl) ?_
      refine zq_gfr hc hH (by rfl) (ci := 6) (f := 35) (q := 67) (by rfl) (by decide +kernel) (by rfl) (by decide +kernel) ?_
      refine z_rcs hc hH 2 (pc' := 221) (lv' := [(5, .int 2), (7, .int kv), (6, .int jv), (3, .long x), (0, .ref 50), (1, .long sd)]) (st' := [.int 0, .int 2, .ref 67]) (μ' := z_ui (z_ui (z_ui (z_ui (z_ui (z_ui (z_ui (z_ui (z_ui (z_ui (z_ui (z_ui (z_ui (z_ui (z_ui (z_ui μ3 64 0 0) 66 0 0) 67 0 0) 68 0 0) 69 0 0) 70 0 0) 71 0 0) 64 1 0) 66 1 0) 67 1 0) 68 1 0) 69 1 0) 70 1 0) 71 1 0) 64 2 0) 66 2 0) (by rfl) ?_
      refine zq_iast hc hH (by rfl) 4 (oka_i (by decide +kernel)).2 (show vp_in (nI 2) 4 from vp_in_nI (by decide) (by decide)) ?_
      rw [show (2 : Int32).toNatClampNeg = 2 from rfl]
      show Z 0 222 [(5, .int 2), (7, .int kv), (6, .int jv), (3, .long x), (0, .ref 50), (1, .long sd)] [] (z_ui (z_ui (z_ui (z_ui (z_ui (z_ui (z_ui (z_ui (z_ui (z_ui (z_ui (z_ui (z_ui (z_ui (z_ui (z_ui (z_ui μ3 64 0 0) 66 0 0) 67 0 0) 68 0 0) 69 0 0) 70 0 0) 71 0 0) 64 1 0) 66 1 0) 67 1 0) 68 1 0) 69 1 0) 70 1 0) 71 1 0) 64 2 0) 66 2 0) 67 2 0)
      refine z_rcs hc hH 1 (pc' := 223) (lv' := [(5, .int 2), (7, .int kv), (6, .int jv), (3, .long x), (0, .ref 50), (1, .long sd)]) (st' := [.ref 50]) (μ' := z_ui (z_ui (z_ui (z_ui (z_ui (z_ui (z_ui (z_ui (z_ui (z_ui (z_ui (z_ui (z_ui (z_ui (z_ui (z_ui (z_ui μ3 64 0 0) 66 0 0) 67 0 0) 68 0 0) 69 0 0) 70 0 0) 71 0 0) 64 1 0) 66 1 0) 67 1 0) 68 1 0) 69 1 0) 70 1 0) 71 1 0) 64 2 0) 66 2 0) 67 2 0) (by rfl) ?_
      refine zq_gfr hc hH (by rfl) (ci := 6) (f := 36) (q := 68) (by rfl) (by decide +kernel) (by rfl) (by decide +kernel) ?_
      refine z_rcs hc hH 2 (pc' := 229) (lv' := [(5, .int 2), (7, .int kv), (6, .int jv), (3, .long x), (0, .ref 50), (1, .long sd)]) (st' := [.int 0, .int 2, .ref 68]) (μ' := z_ui (z_ui (z_ui (z_ui (z_ui (z_ui (z_ui (z_ui (z_ui (z_ui (z_ui (z_ui (z_ui (z_ui (z_ui (z_ui (z_ui μ3 64 0 0) 66 0 0) 67 0 0) 68 0 0) 69 0 0) 70 0 0) 71 0 0) 64 1 0) 66 1 0) 67 1 0) 68 1 0) 69 1 0) 70 1 0) 71 1 0) 64 2 0) 66 2 0) 67 2 0) (by rfl) ?_
      refine zq_iast hc hH (by rfl) 4 (oka_i (by decide +kernel)).2 (show vp_in (nI 2) 4 from vp_in_nI (by decide) (by decide)) ?_
      rw [show (2 : Int32).toNatClampNeg = 2 from rfl]
      show Z 0 230 [(5, .int 2), (7, .int kv), (6, .int jv), (3, .long x), (0, .ref 50), (1, .long sd)] [] (z_ui (z_ui (z_ui (z_ui (z_ui (z_ui (z_ui (z_ui (z_ui (z_ui (z_ui (z_ui (z_ui (z_ui (z_ui (z_ui (z_ui (z_ui μ3 64 0 0) 66 0 0) 67 0 0) 68 0 0) 69 0 0) 70 0 0) 71 0 0) 64 1 0) 66 1 0) 67 1 0) 68 1 0) 69 1 0) 70 1 0) 71 1 0) 64 2 0) 66 2 0) 67 2 0) 68 2 0)
      refine z_rcs hc hH 1 (pc' := 231) (lv' := [(5, .int 2), (7, .int kv), (6, .int jv), (3, .long x), (0, .ref 50), (1, .long sd)]) (st' := [.ref 50]) (μ' := z_ui (z_ui (z_ui (z_ui (z_ui (z_ui (z_ui (z_ui (z_ui (z_ui (z_ui (z_ui (z_ui (z_ui (z_ui (z_ui (z_ui (z_ui μ3 64 0 0) 66 0 0) 67 0 0) 68 0 0) 69 0 0) 70 0 0) 71 0 0) 64 1 0) 66 1 0) 67 1 0) 68 1 0) 69 1 0) 70 1 0) 71 1 0) 64 2 0) 66 2 0) 67 2 0) 68 2 0) (by rfl) ?_
      refine zq_gfr hc hH (by rfl) (ci := 6) (f := 37) (q := 69) (by rfl) (by decide +kernel) (by rfl) (by decide +kernel) ?_
      refine z_rcs hc hH 2 (pc' := 237) (lv' := [(5, .int 2), (7, .int kv), (6, .int jv), (3, .long x), (0, .ref 50), (1, .long sd)]) (st' := [.int 0, .int 2, .ref 69]) (μ' := z_ui (z_ui (z_ui (z_ui (z_ui (z_ui (z_ui (z_ui (z_ui (z_ui (z_ui (z_ui (z_ui (z_ui (z_ui (z_ui (z_ui (z_ui μ3 64 0 0) 66 0 0) 67 0 0) 68 0 0) 69 0 0) 70 0 0) 71 0 0) 64 1 0) 66 1 0) 67 1 0) 68 1 0) 69 1 0) 70 1 0) 71 1 0) 64 2 0) 66 2 0) 67 2 0) 68 2 0) (by rfl) ?_
      refine zq_bast hc hH (by rfl) 4 (by decide +kernel) (show vp_in (nI 2) 4 from vp_in_nI (by decide) (by decide)) (by decide) ?_
      rw [show (2 : Int32).toNatClampNeg = 2 from rfl]
      show Z 0 238 [(5, .int 2), (7, .int kv), (6, .int jv), (3, .long x), (0, .ref 50), (1, .long sd)] [] (z_ui (z_ui (z_ui (z_ui (z_ui (z_ui (z_ui (z_ui (z_ui (z_ui (z_ui (z_ui (z_ui (z_ui (z_ui (z_ui (z_ui (z_ui (z_ui μ3 64 0 0) 66 0 0) 67 0 0) 68 0 0) 69 0 0) 70 0 0) 71 0 0) 64 1 0) 66 1 0) 67 1 0) 68 1 0) 69 1 0) 70 1 0) 71 1 0) 64 2 0) 66 2 0) 67 2 0) 68 2 0) 69 2 0)
      refine z_rcs hc hH 1 (pc' := 239) (lv' := [(5, .int 2), (7, .int kv), (6, .int jv), (3, .long x), (0, .ref 50), (1, .long sd)]) (st' := [.ref 50]) (μ' := z_ui (z_ui (z_ui (z_ui (z_ui (z_ui (z_ui (z_ui (z_ui (z_ui (z_ui (z_ui (z_ui (z_ui (z_ui (z_ui (z_ui (z_ui (z_ui μ3 64 0 0) 66 0 0) 67 0 0) 68 0 0) 69 0 0) 70 0 0) 71 0 0) 64 1 0) 66 1 0) 67 1 0) 68 1 0) 69 1 0) 70 1 0) 71 1 0) 64 2 0) 66 2 0) 67 2 0) 68 2 0) 69 2 0) (by rfl) ?_
      refine zq_gfr hc hH (by rfl) (ci := 6) (f := 38) (q := 70) (by rfl) (by decide +kernel) (by rfl) (by decide +kernel) ?_
      refine z_rcs hc hH 2 (pc' := 245) (lv' := [(5, .int 2), (7, .int kv), (6, .int jv), (3, .long x), (0, .ref 50), (1, .long sd)]) (st' := [.int 0, .int 2, .ref 70]) (μ' := z_ui (z_ui (z_ui (z_ui (z_ui (z_ui (z_ui (z_ui (z_ui (z_ui (z_ui (z_ui (z_ui (z_ui (z_ui (z_ui (z_ui (z_ui (z_ui μ3 64 0 0) 66 0 0) 67 0 0) 68 0 0) 69 0 0) 70 0 0) 71 0 0) 64 1 0) 66 1 0) 67 1 0) 68 1 0) 69 1 0) 70 1 0) 71 1 0) 64 2 0) 66 2 0) 67 2 0) 68 2 0) 69 2 0) (by rfl) ?_
      refine zq_bast hc hH (by rfl) 4 (by decide +kernel) (show vp_in (nI 2) 4 from vp_in_nI (by decide) (by decide)) (by decide) ?_
      rw [show (2 : Int32).toNatClampNeg = 2 from rfl]
      show Z 0 246 [(5, .int 2), (7, .int kv), (6, .int jv), (3, .long x), (0, .ref 50), (1, .long sd)] [] (z_ui (z_ui (z_ui (z_ui (z_ui (z_ui (z_ui (z_ui (z_ui (z_ui (z_ui (z_ui (z_ui (z_ui (z_ui (z_ui (z_ui (z_ui (z_ui (z_ui μ3 64 0 0) 66 0 0) 67 0 0) 68 0 0) 69 0 0) 70 0 0) 71 0 0) 64 1 0) 66 1 0) 67 1 0) 68 1 0) 69 1 0) 70 1 0) 71 1 0) 64 2 0) 66 2 0) 67 2 0) 68 2 0) 69 2 0) 70 2 0)
      refine z_rcs hc hH 1 (pc' := 247) (lv' := [(5, .int 2), (7, .int kv), (6, .int jv), (3, .long x), (0, .ref 50), (1, .long sd)]) (st' := [.ref 50]) (μ' := z_ui (z_ui (z_ui (z_ui (z_ui (z_ui (z_ui (z_ui (z_ui (z_ui (z_ui (z_ui (z_ui (z_ui (z_ui (z_ui (z_ui (z_ui (z_ui (z_ui μ3 64 0 0) 66 0 0) 67 0 0) 68 0 0) 69 0 0) 70 0 0) 71 0 0) 64 1 0) 66 1 0) 67 1 0) 68 1 0) 69 1 0) 70 1 0) 71 1 0) 64 2 0) 66 2 0) 67 2 0) 68 2 0) 69 2 0) 70 2 0) (by rfl) ?_
      refine zq_gfr hc hH (by rfl) (ci := 6) (f := 39) (q := 71) (by rfl) (by decide +kernel) (by rfl) (by decide +kernel) ?_
      refine z_rcs hc hH 2 (pc' := 253) (lv' := [(5, .int 2), (7, .int kv), (6, .int jv), (3, .long x), (0, .ref 50), (1, .long sd)]) (st' := [.int 0, .int 2, .ref 71]) (μ' := z_ui (z_ui (z_ui (z_ui (z_ui (z_ui (z_ui (z_ui (z_ui (z_ui (z_ui (z_ui (z_ui (z_ui (z_ui (z_ui (z_ui (z_ui (z_ui (z_ui μ3 64 0 0) 66 0 0) 67 0 0) 68 0 0) 69 0 0) 70 0 0) 71 0 0) 64 1 0) 66 1 0) 67 1 0) 68 1 0) 69 1 0) 70 1 0) 71 1 0) 64 2 0) 66 2 0) 67 2 0) 68 2 0) 69 2 0) 70 2 0) (by rfl) ?_
      refine zq_bast hc hH (by rfl) 4 (by decide +kernel) (show vp_in (nI 2) 4 from vp_in_nI (by decide) (by decide)) (by decide) ?_
      rw [show (2 : Int32).toNatClampNeg = 2 from rfl]
      show Z 0 254 [(5, .int 2), (7, .int kv), (6, .int jv), (3, .long x), (0, .ref 50), (1, .long sd)] [] (z_ui (z_ui (z_ui (z_ui (z_ui (z_ui (z_ui (z_ui (z_ui (z_ui (z_ui (z_ui (z_ui (z_ui (z_ui (z_ui (z_ui (z_ui (z_ui (z_ui (z_ui μ3 64 0 0) 66 0 0) 67 0 0) 68 0 0) 69 0 0) 70 0 0) 71 0 0) 64 1 0) 66 1 0) 67 1 0) 68 1 0) 69 1 0) 70 1 0) 71 1 0) 64 2 0) 66 2 0) 67 2 0) 68 2 0) 69 2 0) 70 2 0) 71 2 0)
      refine z_rcs hc hH 6 (pc' := 199) (lv' := [(5, .int 3), (7, .int kv), (6, .int jv), (3, .long x), (0, .ref 50), (1, .long sd)]) (st' := [.ref 50]) (μ' := z_ui (z_ui (z_ui (z_ui (z_ui (z_ui (z_ui (z_ui (z_ui (z_ui (z_ui (z_ui (z_ui (z_ui (z_ui (z_ui (z_ui (z_ui (z_ui (z_ui (z_ui μ3 64 0 0) 66 0 0) 67 0 0) 68 0 0) 69 0 0) 70 0 0) 71 0 0) 64 1 0) 66 1 0) 67 1 0) 68 1 0) 69 1 0) 70 1 0) 71 1 0) 64 2 0) 66 2 0) 67 2 0) 68 2 0) 69 2 0) 70 2 0) 71 2 0) (by rfl) ?_
      refine zq_gfr hc hH (by rfl) (ci := 6) (f := 32) (q := 64) (by rfl) (by decide +kernel) (by rfl) (by decide +kernel) ?_
      refine z_rcs hc hH 2 (pc' := 205) (lv' := [(5, .int 3), (7, .int kv), (6, .int jv), (3, .long x), (0, .ref 50), (1, .long sd)]) (st' := [.int 0, .int 3, .ref 64]) (μ' := z_ui (z_ui (z_ui (z_ui (z_ui (z_ui (z_ui (z_ui (z_ui (z_ui (z_ui (z_ui (z_ui (z_ui (z_ui (z_ui (z_ui (z_ui (z_ui (z_ui (z_ui μ3 64 0 0) 66 0 0) 67 0 0) 68 0 0) 69 0 0) 70 0 0) 71 0 0) 64 1 0) 66 1 0) 67 1 0) 68 1 0) 69 1 0) 70 1 0) 71 1 0) 64 2 0) 66 2 0) 67 2 0) 68 2 0) 69 2 0) 70 2 0) 71 2 0) (by rfl) ?_
      refine zq_iast hc hH (by rfl) 4 (oka_i (by decide +kernel)).2 (show vp_in (nI 3) 4 from vp_in_nI (by decide) (by decide)) ?_
      rw [show (3 : Int32).toNatClampNeg = 3 from rfl]
      show Z 0 206 [(5, .int 3), (7, .int kv), (6, .int jv), (3, .long x), (0, .ref 50), (1, .long sd)] [] (z_ui (z_ui (z_ui (z_ui (z_ui (z_ui (z_ui (z_ui (z_ui (z_ui (z_ui (z_ui (z_ui (z_ui (z_ui (z_ui (z_ui (z_ui (z_ui (z_ui (z_ui (z_ui μ3 64 0 0) 66 0 0) 67 0 0) 68 0 0) 69 0 0) 70 0 0) 71 0 0) 64 1 0) 66 1 0) 67 1 0) 68 1 0) 69 1 0) 70 1 0) 71 1 0) 64 2 0) 66 2 0) 67 2 0) 68 2 0) 69 2 0) 70 2 0) 71 2 0) 64 3 0)
      refine z_rcs hc hH 1 (pc' := 207) (lv' := [(5, .int 3), (7, .int kv), (6, .int jv), (3, .long x), (0, .ref 50), (1, .long sd)]) (st' := [.ref 50]) (μ' := z_ui (z_ui (z_ui (z_ui (z_ui (z_ui (z_ui (z_ui (z_ui (z_ui (z_ui (z_ui (z_ui (z_ui (z_ui (z_ui (z_ui (z_ui (z_ui (z_ui (z_ui (z_ui μ3 64 0 0) 66 0 0) 67 0 0) 68 0 0) 69 0 0) 70 0 0) 71 0 0) 64 1 0) 66 1 0) 67 1 0) 68 1 0) 69 1 0) 70 1 0) 71 1 0) 64 2 0) 66 2 0) 67 2 0) 68 2 0) 69 2 0) 70 2 0) 71 2 0) 64 3 0) (by rfl) ?_
      refine zq_gfr hc hH (by rfl) (ci := 6) (f := 34) (q := 66) (by rfl) (by decide +kernel) (by rfl) (by decide +kernel) ?_
      refine z_rcs hc hH 2 (pc' := 213) (lv' := [(5, .int 3), (7, .int kv), (6, .int jv), (3, .long x), (0, .ref 50), (1, .long sd)]) (st' := [.int 0, .int 3, .ref 66]) (μ' := z_ui (z_ui (z_ui (z_ui (z_ui (z_ui (z_ui (z_ui (z_ui (z_ui (z_ui (z_ui (z_ui (z_ui (z_ui (z_ui (z_ui (z_ui (z_ui (z_ui (z_ui (z_ui μ3 64 0 0) 66 0 0) 67 0 0) 68 0 0) 69 0 0) 70 0 0) 71 0 0) 64 1 0) 66 1 0) 67 1 0) 68 1 0) 69 1 0) 70 1 0) 71 1 0) 64 2 0) 66 2 0) 67 2 0) 68 2 0) 69 2 0) 70 2 0) 71 2 0) 64 3 0) (by rfl) ?_
      refine zq_iast hc hH (by rfl) 4 (oka_i (by decide +kernel)).2 (show vp_in (nI 3) 4 from vp_in_nI (by decide) (by decide)) ?_
      rw [show (3 : Int32).toNatClampNeg = 3 from rfl]
      show Z 0 214 [(5, .int 3), (7, .int kv), (6, .int jv), (3, .long x), (0, .ref 50), (1, .long sd)] [] (z_ui (z_ui (z_ui (z_ui (z_ui (z_ui (z_ui (z_ui (z_ui (z_ui (z_ui (z_ui (z_ui (z_ui (z_ui (z_ui (z_ui (z_ui (z_ui (z_ui (z_ui (z_ui (z_ui μ3 64 0 0) 66 0 0) 67 0 0) 68 0 0) 69 0 0) 70 0 0) 71 0 0) 64 1 0) 66 1 0) 67 1 0) 68 1 0) 69 1 0) 70 1 0) 71 1 0) 64 2 0) 66 2 0) 67 2 0) 68 2 0) 69 2 0) 70 2 0) 71 2 0) 64 3 0) 66 3 0)
      refine z_rcs hc hH 1 (pc' := 215) (lv' := [(5, .int 3), (7, .int kv), (6, .int jv), (3, .long x), (0, .ref 50), (1, .long sd)]) (st' := [.ref 50]) (μ' := z_ui (z_ui (z_ui (z_ui (z_ui (z_ui (z_ui (z_ui (z_ui (z_ui (z_ui (z_ui (z_ui (z_ui (z_ui (z_ui (z_ui (z_ui (z_ui (z_ui (z_ui (z_ui (z_ui μ3 64 0 0) 66 0 0) 67 0 0) 68 0 0) 69 0 0) 70 0 0) 71 0 0) 64 1 0) 66 1 0) 67 1 0) 68 1 0) 69 1 0) 70 1 0) 71 1 0) 64 2 0) 66 2 0) 67 2 0) 68 2 0) 69 2 0) 70 2 0) 71 2 0) 64 3 0) 66 3 0) (by rfl) ?_
      refine zq_gfr hc hH (by rfl) (ci := 6) (f := 35) (q := 67) (by rfl) (by decide +kernel) (by rfl) (by decide +kernel) ?_
      refine z_rcs hc hH 2 (pc' := 221) (lv' := [(5, .int 3), (7, .int kv), (6, .int jv), (3, .long x), (0, .ref 50), (1, .long sd)]) (st' := [.int 0, .int 3, .ref 67]) (μ' := z_ui (z_ui (z_ui (z_ui (z_ui (z_ui (z_ui (z_ui (z_ui (z_ui (z_ui (z_ui (z_ui (z_ui (z_ui (z_ui (z_ui (z_ui (z_ui (z_ui (z_ui (z_ui (z_ui μ3 64 0 0) 66 0 0) 67 0 0) 68 0 0) 69 0 0) 70 0 0) 71 0 0) 64 1 0) 66 1 0) 67 1 0) 68 1 0) 69 1 0) 70 1 0) 71 1 0) 64 2 0) 66 2 0) 67 2 0) 68 2 0) 69 2 0) 70 2 0) 71 2 0) 64 3 0) 66 3 0) (by rfl) ?_
      refine zq_iast hc hH (by rfl) 4 (oka_i (by decide +kernel)).2 (show vp_in (nI 3) 4 from vp_in_nI (by decide) (by decide)) ?_
      rw [show (3 : Int32).toNatClampNeg = 3 from rfl]
      show Z 0 222 [(5, .int 3), (7, .int kv), (6, .int jv), (3, .long x), (0, .ref 50), (1, .long sd)] [] (z_ui (z_ui (z_ui (z_ui (z_ui (z_ui (z_ui (z_ui (z_ui (z_ui (z_ui (z_ui (z_ui (z_ui (z_ui (z_ui (z_ui (z_ui (z_ui (z_ui (z_ui (z_ui (z_ui (z_ui μ3 64 0 0) 66 0 0) 67 0 0) 68 0 0) 69 0 0) 70 0 0) 71 0 0) 64 1 0) 66 1 0) 67 1 0) 68 1 0) 69 1 0) 70 1 0) 71 1 0) 64 2 0) 66 2 0) 67 2 0) 68 2 0) 69 2 0) 70 2 0) 71 2 0) 64 3 0) 66 3 0) 67 3 0)
      refine z_rcs hc hH 1 (pc' := 223) (lv' := [(5, .int 3), (7, .int kv), (6, .int jv), (3, .long x), (0, .ref 50), (1, .long sd)]) (st' := [.ref 50]) (μ' := z_ui (z_ui (z_ui (z_ui (z_ui (z_ui (z_ui (z_ui (z_ui (z_ui (z_ui (z_ui (z_ui (z_ui (z_ui (z_ui (z_ui (z_ui (z_ui (z_ui (z_ui (z_ui (z_ui (z_ui μ3 64 0 0) 66 0 0) 67 0 0) 68 0 0) 69 0 0) 70 0 0) 71 0 0) 64 1 0) 66 1 0) 67 1 0) 68 1 0) 69 1 0) 70 1 0) 71 1 0) 64 2 0) 66 2 0) 67 2 0) 68 2 0) 69 2 0) 70 2 0) 71 2 0) 64 3 0) 66 3 0) 67 3 0) (by rfl) ?_
      refine zq_gfr hc hH (by rfl) (ci := 6) (f := 36) (q := 68) (by rfl) (by decide +kernel) (by rfl) (by decide +kernel) ?_
      refine z_rcs hc hH 2 (pc' := 229) (lv' := [(5, .int 3), (7, .int kv), (6, .int jv), (3, .long x), (0, .ref 50), (1, .long sd)]) (st' := [.int 0, .int 3, .ref 68]) (μ' := z_ui (z_ui (z_ui (z_ui (z_ui (z_ui (z_ui (z_ui (z_ui (z_ui (z_ui (z_ui (z_ui (z_ui (z_ui (z_ui (z_ui (z_ui (z_ui (z_ui (z_ui (z_ui (z_ui (z_ui μ3 64 0 0) 66 0 0) 67 0 0) 68 0 0) 69 0 0) 70 0 0) 71 0 0) 64 1 0) 66 1 0) 67 1 0) 68 1 0) 69 1 0) 70 1 0) 71 1 0) 64 2 0) 66 2 0) 67 2 0) 68 2 0) 69 2 0) 70 2 0) 71 2 0) 64 3 0) 66 3 0) 67 3 0) (by rfl) ?_
      refine zq_iast hc hH (by rfl) 4 (oka_i (by decide +kernel)).2 (show vp_in (nI 3) 4 from vp_in_nI (by decide) (by decide)) ?_
      rw [show (3 : Int32).toNatClampNeg = 3 from rfl]
      show Z 0 230 [(5, .int 3), (7, .int kv), (6, .int jv), (3, .long x), (0, .ref 50), (1, .long sd)] [] (z_ui (z_ui (z_ui (z_ui (z_ui (z_ui (z_ui (z_ui (z_ui (z_ui (z_ui (z_ui (z_ui (z_ui (z_ui (z_ui (z_ui (z_ui (z_ui (z_ui (z_ui (z_ui (z_ui (z_ui (z_ui μ3 64 0 0) 66 0 0) 67 0 0) 68 0 0) 69 0 0) 70 0 0) 71 0 0) 64 1 0) 66 1 0) 67 1 0) 68 1 0) 69 1 0) 70 1 0) 71 1 0) 64 2 0) 66 2 0) 67 2 0) 68 2 0) 69 2 0) 70 2 0) 71 2 0) 64 3 0) 66 3 0) 67 3 0) 68 3 0)
      refine z_rcs hc hH 1 (pc' := 231) (lv' := [(5, .int 3), (7, .int kv), (6, .int jv), (3, .long x), (0, .ref 50), (1, .long sd)]) (st' := [.ref 50]) (μ' := z_ui (z_ui (z_ui (z_ui (z_ui (z_ui (z_ui (z_ui (z_ui (z_ui (z_ui (z_ui (z_ui (z_ui (z_ui (z_ui (z_ui (z_ui (z_ui (z_ui (z_ui (z_ui (z_ui (z_ui (z_ui μ3 64 0 0) 66 0 0) 67 0 0) 68 0 0) 69 0 0) 70 0 0) 71 0 0) 64 1 0) 66 1 0) 67 1 0) 68 1 0) 69 1 0) 70 1 0) 71 1 0) 64 2 0) 66 2 0) 67 2 0) 68 2 0) 69 2 0) 70 2 0) 71 2 0) 64 3 0) 66 3 0) 67 3 0) 68 3 0) (by rfl) ?_
      refine zq_gfr hc hH (by rfl) (ci := 6) (f := 37) (q := 69) (by rfl) (by decide +kernel) (by rfl) (by decide +kernel) ?_
      refine z_rcs hc hH 2 (pc' := 237) (lv' := [(5, .int 3), (7, .int kv), (6, .int jv), (3, .long x), (0, .ref 50), (1, .long sd)]) (st' := [.int 0, .int 3, .ref 69]) (μ' := z_ui (z_ui (z_ui (z_ui (z_ui (z_ui (z_ui (z_ui (z_ui (z_ui (z_ui (z_ui (z_ui (z_ui (z_ui (z_ui (z_ui (z_ui (z_ui (z_ui (z_ui (z_ui (z_ui (z_ui (z_ui μ3 64 0 0) 66 0 0) 67 0 0) 68 0 0) 69 0 0) 70 0 0) 71 0 0) 64 1 0) 66 1 0) 67 1 0) 68 1 0) 69 1 0) 70 1 0) 71 1 0) 64 2 0) 66 2 0) 67 2 0) 68 2 0) 69 2 0) 70 2 0) 71 2 0) 64 3 0) 66 3 0) 67 3 0) 68 3 0) (by rfl) ?_
      refine zq_bast hc hH (by rfl) 4 (by decide +kernel) (show vp_in (nI 3) 4 from vp_in_nI (by decide) (by decide)) (by decide) ?_
      rw [show (3 : Int32).toNatClampNeg = 3 from rfl]
      show Z 0 238 [(5, .int 3), (7, .int kv), (6, .int jv), (3, .long x), (0, .ref 50), (1, .long sd)] [] (z_ui (z_ui (z_ui (z_ui (z_ui (z_ui (z_ui (z_ui (z_ui (z_ui (z_ui (z_ui (z_ui (z_ui (z_ui (z_ui (z_ui (z_ui (z_ui (z_ui (z_ui (z_ui (z_ui (z_ui (z_ui (z_ui μ3 64 0 0) 66 0 0) 67 0 0) 68 0 0) 69 0 0) 70 0 0) 71 0 0) 64 1 0) 66 1 0) 67 1 0) 68 1 0) 69 1 0) 70 1 0) 71 1 0) 64 2 0) 66 2 0) 67 2 0) 68 2 0) 69 2 0) 70 2 0) 71 2 0) 64 3 0) 66 3 0) 67 3 0) 68 3 0) 69 3 0)
      refine z_rcs hc hH 1 (pc' := 239) (lv' := [(5, .int 3), (7, .int kv), (6, .int jv), (3, .long x), (0, .ref 50), (1, .long sd)]) (st' := [.ref 50]) (μ' := z_ui (z_ui (z_ui (z_ui (z_ui (z_ui (z_ui (z_ui (z_ui (z_ui (z_ui (z_ui (z_ui (z_ui (z_ui (z_ui (z_ui (z_ui (z_ui (z_ui (z_ui (z_ui (z_ui (z_ui (z_ui (z_ui μ3 64 0 0) 66 0 0) 67 0 0) 68 0 0) 69 0 0) 70 0 0) 71 0 0) 64 1 0) 66 1 0) 67 1 0) 68 1 0) 69 1 0) 70 1 0) 71 1 0) 64 2 0) 66 2 0) 67 2 0) 68 2 0) 69 2 0) 70 2 0) 71 2 0) 64 3 0) 66 3 0) 67 3 0) 68 3 0) 69 3 0) (by rfl) ?_
      refine zq_gfr hc hH (by rfl) (ci := 6) (f := 38) (q := 70) (by rfl) (by decide +kernel) (by rfl) (by decide +kernel) ?_
      refine z_rcs hc hH 2 (pc' := 245) (lv' := [(5, .int 3), (7, .int kv), (6, .int jv), (3, .long x), (0, .ref 50), (1, .long sd)]) (st' := [.int 0, .int 3, .ref 70]) (μ' := z_ui (z_ui (z_ui (z_ui (z_ui (z_ui (z_ui (z_ui (z_ui (z_ui (z_ui (z_ui (z_ui (z_ui (z_ui (z_ui (z_ui (z_ui (z_ui (z_ui (z_ui (z_ui (z_ui (z_ui (z_ui (z_ui μ3 64 0 0) 66 0 0) 67 0 0) 68 0 0) 69 0 0) 70 0 0) 71 0 0) 64 1 0) 66 1 0) 67 1 0) 68 1 0) 69 1 0) 70 1 0) 71 1 0) 64 2 0) 66 2 0) 67 2 0) 68 2 0) 69 2 0) 70 2 0) 71 2 0) 64 3 0) 66 3 0) 67 3 0) 68 3 0) 69 3 0) (by rfl) ?_
      refine zq_bast hc hH (by rfl) 4 (by decide +kernel) (show vp_in (nI 3) 4 from vp_in_nI (by decide) (by decide)) (by decide) ?_
      rw [show (3 : Int32).toNatClampNeg = 3 from rfl]
      show Z 0 246 [(5, .int 3), (7, .int kv), (6, .int jv), (3, .long x), (0, .ref 50), (1, .long sd)] [] (z_ui (z_ui (z_ui (z_ui (z_ui (z_ui (z_ui (z_ui (z_ui (z_ui (z_ui (z_ui (z_ui (z_ui (z_ui (z_ui (z_ui (z_ui (z_ui (z_ui (z_ui (z_ui (z_ui (z_ui (z_ui (z_ui (z_ui μ3 64 0 0) 66 0 0) 67 0 0) 68 0 0) 69 0 0) 70 0 0) 71 0 0) 64 1 0) 66 1 0) 67 1 0) 68 1 0) 69 1 0) 70 1 0) 71 1 0) 64 2 0) 66 2 0) 67 2 0) 68 2 0) 69 2 0) 70 2 0) 71 2 0) 64 3 0) 66 3 0) 67 3 0) 68 3 0) 69 3 0) 70 3 0)
      refine z_rcs hc hH 1 (pc' := 247) (lv' := [(5, .int 3), (7, .int kv), (6, .int jv), (3, .long x), (0, .ref 50), (1, .long sd)]) (st' := [.ref 50]) (μ' := z_ui (z_ui (z_ui (z_ui (z_ui (z_ui (z_ui (z_ui (z_ui (z_ui (z_ui (z_ui (z_ui (z_ui (z_ui (z_ui (z_ui (z_ui (z_ui (z_ui (z_ui (z_ui (z_ui (z_ui (z_ui (z_ui (z_ui μ3 64 0 0) 66 0 0) 67 0 0) 68 0 0) 69 0 0) 70 0 0) 71 0 0) 64 1 0) 66 1 0) 67 1 0) 68 1 0) 69 1 0) 70 1 0) 71 1 0) 64 2 0) 66 2 0) 67 2 0) 68 2 0) 69 2 0) 70 2 0) 71 2 0) 64 3 0) 66 3 0) 67 3 0) 68 3 0) 69 3 0) 70 3 0) (by rfl) ?_
      refine zq_gfr hc hH (by rfl) (ci := 6) (f := 39) (q := 71) (by rfl) (by decide +kernel) (by rfl) (by decide +kernel) ?_
      refine z_rcs hc hH 2 (pc' := 253) (lv' := [(5, .int 3), (7, .int kv), (6, .int jv), (3, .long x), (0, .ref 50), (1, .long sd)]) (st' := [.int 0, .int 3, .ref 71]) (μ' := z_ui (z_ui (z_ui (z_ui (z_ui (z_ui (z_ui (z_ui (z_ui (z_ui (z_ui (z_ui (z_ui (z_ui (z_ui (z_ui (z_ui (z_ui (z_ui (z_ui (z_ui (z_ui (z_ui (z_ui (z_ui (z_ui (z_ui μ3 64 0 0) 66 0 0) 67 0 0) 68 0 0) 69 0 0) 70 0 0) 71 0 0) 64 1 0) 66 1 0) 67 1 0) 68 1 0) 69 1 0) 70 1 0) 71 1 0) 64 2 0) 66 2 0) 67 2 0) 68 2 0) 69 2 0) 70 2 0) 71 2 0) 64 3 0) 66 3 0) 67 3 0) 68 3 0) 69 3 0) 70 3 0) (by rfl) ?_
      refine zq_bast hc hH (by rfl) 4 (by decide +kernel) (show vp_in (nI 3) 4 from vp_in_nI (by decide) (by decide)) (by decide) ?_
      rw [show (3 : Int32).toNatClampNeg = 3 from rfl]
      show Z 0 254 [(5, .int 3), (7, .int kv), (6, .int jv), (3, .long x), (0, .ref 50), (1, .long sd)] [] (z_ui (z_ui (z_ui (z_ui (z_ui (z_ui (z_ui (z_ui (z_ui (z_ui (z_ui (z_ui (z_ui (z_ui (z_ui (z_ui (z_ui (z_ui (z_ui (z_ui (z_ui (z_ui (z_ui (z_ui (z_ui (z_ui (z_ui (z_ui μ3 64 0 0) 66 0 0) 67 0 0) 68 0 0) 69 0 0) 70 0 0) 71 0 0) 64 1 0) 66 1 0) 67 1 0) 68 1 0) 69 1 0) 70 1 0) 71 1 0) 64 2 0) 66 2 0) 67 2 0) 68 2 0) 69 2 0) 70 2 0) 71 2 0) 64 3 0) 66 3 0) 67 3 0) 68 3 0) 69 3 0) 70 3 0) 71 3 0)
      refine z_rcs hc hH 7 (pc' := 263) (lv' := [(5, .int 4), (7, .int kv), (6, .int jv), (3, .long x), (0, .ref 50), (1, .long sd)]) (st' := [.int 52, .ref 50]) (μ' := z_ui (z_ui (z_ui (z_ui (z_ui (z_ui (z_ui (z_ui (z_ui (z_ui (z_ui (z_ui (z_ui (z_ui (z_ui (z_ui (z_ui (z_ui (z_ui (z_ui (z_ui (z_ui (z_ui (z_ui (z_ui (z_ui (z_ui (z_ui μ3 64 0 0) 66 0 0) 67 0 0) 68 0 0) 69 0 0) 70 0 0) 71 0 0) 64 1 0) 66 1 0) 67 1 0) 68 1 0) 69 1 0) 70 1 0) 71 1 0) 64 2 0) 66 2 0) 67 2 0) 68 2 0) 69 2 0) 70 2 0) 71 2 0) 64 3 0) 66 3 0) 67 3 0) 68 3 0) 69 3 0) 70 3 0) 71 3 0) (by rfl) ?_
      refine zq_pfi hc hH (by rfl) (ci := 6) (f := 46) (by rfl) (by decide +kernel) (by rfl) ?_
      show Z 0 266 [(5, .int 4), (7, .int kv), (6, .int jv), (3, .long x), (0, .ref 50), (1, .long sd)] [] (z_ui (z_ui (z_ui (z_ui (z_ui (z_ui (z_ui (z_ui (z_ui (z_ui (z_ui (z_ui (z_ui (z_ui (z_ui (z_ui (z_ui (z_ui (z_ui (z_ui (z_ui (z_ui (z_ui (z_ui (z_ui (z_ui (z_ui (z_ui (z_ui μ3 64 0 0) 66 0 0) 67 0 0) 68 0 0) 69 0 0) 70 0 0) 71 0 0) 64 1 0) 66 1 0) 67 1 0) 68 1 0) 69 1 0) 70 1 0) 71 1 0) 64 2 0) 66 2 0) 67 2 0) 68 2 0) 69 2 0) 70 2 0) 71 2 0) 64 3 0) 66 3 0) 67 3 0) 68 3 0) 69 3 0) 70 3 0) 71 3 0) 50 46 52)
      refine z_rcs hc hH 2 (pc' := 268) (lv' := [(5, .int 4), (7, .int kv), (6, .int jv), (3, .long x), (0, .ref 50), (1, .long sd)]) (st' := [.int 0, .ref 50]) (μ' := z_ui (z_ui (z_ui (z_ui (z_ui (z_ui (z_ui (z_ui (z_ui (z_ui (z_ui (z_ui (z_ui (z_ui (z_ui (z_ui (z_ui (z_ui (z_ui (z_ui (z_ui (z_ui (z_ui (z_ui (z_ui (z_ui (z_ui (z_ui (z_ui μ3 64 0 0) 66 0 0) 67 0 0) 68 0 0) 69 0 0) 70 0 0) 71 0 0) 64 1 0) 66 1 0) 67 1 0) 68 1 0) 69 1 0) 70 1 0) 71 1 0) 64 2 0) 66 2 0) 67 2 0) 68 2 0) 69 2 0) 70 2 0) 71 2 0) 64 3 0) 66 3 0) 67 3 0) 68 3 0) 69 3 0) 70 3 0) 71 3 0) 50 46 52) (by rfl) ?_
      refine zq_pfi hc hH (by rfl) (ci := 6) (f := 47) (by rfl) (by decide +kernel) (by rfl) ?_
      show Z 0 271 [(5, .int 4), (7, .int kv), (6, .int jv), (3, .long x), (0, .ref 50), (1, .long sd)] [] (z_ui (z_ui (z_ui (z_ui (z_ui (z_ui (z_ui (z_ui (z_ui (z_ui (z_ui (z_ui (z_ui (z_ui (z_ui (z_ui (z_ui (z_ui (z_ui (z_ui (z_ui (z_ui (z_ui (z_ui (z_ui (z_ui (z_ui (z_ui (z_ui (z_ui μ3 64 0 0) 66 0 0) 67 0 0) 68 0 0) 69 0 0) 70 0 0) 71 0 0) 64 1 0) 66 1 0) 67 1 0) 68 1 0) 69 1 0) 70 1 0) 71 1 0) 64 2 0) 66 2 0) 67 2 0) 68 2 0) 69 2 0) 70 2 0) 71 2 0) 64 3 0) 66 3 0) 67 3 0) 68 3 0) 69 3 0) 70 3 0) 71 3 0) 50 46 52) 50 47 0)
      refine z_rcs hc hH 2 (pc' := 273) (lv' := [(5, .int 4), (7, .int kv), (6, .int jv), (3, .long x), (0, .ref 50), (1, .long sd)]) (st' := [.int 0, .ref 50]) (μ' := z_ui (z_ui (z_ui (z_ui (z_ui (z_ui (z_ui (z_ui (z_ui (z_ui (z_ui (z_ui (z_ui (z_ui (z_ui (z_ui (z_ui (z_ui (z_ui (z_ui (z_ui (z_ui (z_ui (z_ui (z_ui (z_ui (z_ui (z_ui (z_ui (z_ui μ3 64 0 0) 66 0 0) 67 0 0) 68 0 0) 69 0 0) 70 0 0) 71 0 0) 64 1 0) 66 1 0) 67 1 0) 68 1 0) 69 1 0) 70 1 0) 71 1 0) 64 2 0) 66 2 0) 67 2 0) 68 2 0) 69 2 0) 70 2 0) 71 2 0) 64 3 0) 66 3 0) 67 3 0) 68 3 0) 69 3 0) 70 3 0) 71 3 0) 50 46 52) 50 47 0) (by rfl) ?_
      refine zq_pfi hc hH (by rfl) (ci := 6) (f := 48) (by rfl) (by decide +kernel) (by rfl) ?_
      show Z 0 276 [(5, .int 4), (7, .int kv), (6, .int jv), (3, .long x), (0, .ref 50), (1, .long sd)] [] (z_ui (z_ui (z_ui (z_ui (z_ui (z_ui (z_ui (z_ui (z_ui (z_ui (z_ui (z_ui (z_ui (z_ui (z_ui (z_ui (z_ui (z_ui (z_ui (z_ui (z_ui (z_ui (z_ui (z_ui (z_ui (z_ui (z_ui (z_ui (z_ui (z_ui (z_ui μ3 64 0 0) 66 0 0) 67 0 0) 68 0 0) 69 0 0) 70 0 0) 71 0 0) 64 1 0) 66 1 0) 67 1 0) 68 1 0) 69 1 0) 70 1 0) 71 1 0) 64 2 0) 66 2 0) 67 2 0) 68 2 0) 69 2 0) 70 2 0) 71 2 0) 64 3 0) 66 3 0) 67 3 0) 68 3 0) 69 3 0) 70 3 0) 71 3 0) 50 46 52) 50 47 0) 50 48 0)
      refine z_rcs hc hH 2 (pc' := 278) (lv' := [(5, .int 4), (7, .int kv), (6, .int jv), (3, .long x), (0, .ref 50), (1, .long sd)]) (st' := [.int 0, .ref 50]) (μ' := z_ui (z_ui (z_ui (z_ui (z_ui (z_ui (z_ui (z_ui (z_ui (z_ui (z_ui (z_ui (z_ui (z_ui (z_ui (z_ui (z_ui (z_ui (z_ui (z_ui (z_ui (z_ui (z_ui (z_ui (z_ui (z_ui (z_ui (z_ui (z_ui (z_ui (z_ui μ3 64 0 0) 66 0 0) 67 0 0) 68 0 0) 69 0 0) 70 0 0) 71 0 0) 64 1 0) 66 1 0) 67 1 0) 68 1 0) 69 1 0) 70 1 0) 71 1 0) 64 2 0) 66 2 0) 67 2 0) 68 2 0) 69 2 0) 70 2 0) 71 2 0) 64 3 0) 66 3 0) 67 3 0) 68 3 0) 69 3 0) 70 3 0) 71 3 0) 50 46 52) 50 47 0) 50 48 0) (by rfl) ?_
      refine zq_pfi hc hH (by rfl) (ci := 6) (f := 53) (by rfl) (by decide +kernel) (by rfl) ?_
      show Z 0 281 [(5, .int 4), (7, .int kv), (6, .int jv), (3, .long x), (0, .ref 50), (1, .long sd)] [] (z_ui (z_ui (z_ui (z_ui (z_ui (z_ui (z_ui (z_ui (z_ui (z_ui (z_ui (z_ui (z_ui (z_ui (z_ui (z_ui (z_ui (z_ui (z_ui (z_ui (z_ui (z_ui (z_ui (z_ui (z_ui (z_ui (z_ui (z_ui (z_ui (z_ui (z_ui (z_ui μ3 64 0 0) 66 0 0) 67 0 0) 68 0 0) 69 0 0) 70 0 0) 71 0 0) 64 1 0) 66 1 0) 67 1 0) 68 1 0) 69 1 0) 70 1 0) 71 1 0) 64 2 0) 66 2 0) 67 2 0) 68 2 0) 69 2 0) 70 2 0) 71 2 0) 64 3 0) 66 3 0) 67 3 0) 68 3 0) 69 3 0) 70 3 0) 71 3 0) 50 46 52) 50 47 0) 50 48 0) 50 53 0)
      refine z_rcs hc hH 2 (pc' := 283) (lv' := [(5, .int 4), (7, .int kv), (6, .int jv), (3, .long x), (0, .ref 50), (1, .long sd)]) (st' := [.int 1, .ref 50]) (μ' := z_ui (z_ui (z_ui (z_ui (z_ui (z_ui (z_ui (z_ui (z_ui (z_ui (z_ui (z_ui (z_ui (z_ui (z_ui (z_ui (z_ui (z_ui (z_ui (z_ui (z_ui (z_ui (z_ui (z_ui (z_ui (z_ui (z_ui (z_ui (z_ui (z_ui (z_ui (z_ui μ3 64 0 0) 66 0 0) 67 0 0) 68 0 0) 69 0 0) 70 0 0) 71 0 0) 64 1 0) 66 1 0) 67 1 0) 68 1 0) 69 1 0) 70 1 0) 71 1 0) 64 2 0) 66 2 0) 67 2 0) 68 2 0) 69 2 0) 70 2 0) 71 2 0) 64 3 0) 66 3 0) 67 3 0) 68 3 0) 69 3 0) 70 3 0) 71 3 0) 50 46 52) 50 47 0) 50 48 0) 50 53 0) (by rfl) ?_
      refine zq_pfb hc hH (by rfl) (ci := 6) (f := 56) (by rfl) (by decide +kernel) (by rfl) (by decide) ?_
      show Z 0 286 [(5, .int 4), (7, .int kv), (6, .int jv), (3, .long x), (0, .ref 50), (1, .long sd)] [] (z_ui (z_ui (z_ui (z_ui (z_ui (z_ui (z_ui (z_ui (z_ui (z_ui (z_ui (z_ui (z_ui (z_ui (z_ui (z_ui (z_ui (z_ui (z_ui (z_ui (z_ui (z_ui (z_ui (z_ui (z_ui (z_ui (z_ui (z_ui (z_ui (z_ui (z_ui (z_ui (z_ui μ3 64 0 0) 66 0 0) 67 0 0) 68 0 0) 69 0 0) 70 0 0) 71 0 0) 64 1 0) 66 1 0) 67 1 0) 68 1 0) 69 1 0) 70 1 0) 71 1 0) 64 2 0) 66 2 0) 67 2 0) 68 2 0) 69 2 0) 70 2 0) 71 2 0) 64 3 0) 66 3 0) 67 3 0) 68 3 0) 69 3 0) 70 3 0) 71 3 0) 50 46 52) 50 47 0) 50 48 0) 50 53 0) 50 56 1)
      refine z_rcs hc hH 2 (pc' := 288) (lv' := [(5, .int 4), (7, .int kv), (6, .int jv), (3, .long x), (0, .ref 50), (1, .long sd)]) (st' := [.int 0, .ref 50]) (μ' := z_ui (z_ui (z_ui (z_ui (z_ui (z_ui (z_ui (z_ui (z_ui (z_ui (z_ui (z_ui (z_ui (z_ui (z_ui (z_ui (z_ui (z_ui (z_ui (z_ui (z_ui (z_ui (z_ui (z_ui (z_ui (z_ui (z_ui (z_ui (z_ui (z_ui (z_ui (z_ui (z_ui μ3 64 0 0) 66 0 0) 67 0 0) 68 0 0) 69 0 0) 70 0 0) 71 0 0) 64 1 0) 66 1 0) 67 1 0) 68 1 0) 69 1 0) 70 1 0) 71 1 0) 64 2 0) 66 2 0) 67 2 0) 68 2 0) 69 2 0) 70 2 0) 71 2 0) 64 3 0) 66 3 0) 67 3 0) 68 3 0) 69 3 0) 70 3 0) 71 3 0) 50 46 52) 50 47 0) 50 48 0) 50 53 0) 50 56 1) (by rfl) ?_
      refine zq_pfb hc hH (by rfl) (ci := 6) (f := 59) (by rfl) (by decide +kernel) (by rfl) (by decide) ?_
      show Z 0 291 [(5, .int 4), (7, .int kv), (6, .int jv), (3, .long x), (0, .ref 50), (1, .long sd)] [] (z_ui (z_ui (z_ui (z_ui (z_ui (z_ui (z_ui (z_ui (z_ui (z_ui (z_ui (z_ui (z_ui (z_ui (z_ui (z_ui (z_ui (z_ui (z_ui (z_ui (z_ui (z_ui (z_ui (z_ui (z_ui (z_ui (z_ui (z_ui (z_ui (z_ui (z_ui (z_ui (z_ui (z_ui μ3 64 0 0) 66 0 0) 67 0 0) 68 0 0) 69 0 0) 70 0 0) 71 0 0) 64 1 0) 66 1 0) 67 1 0) 68 1 0) 69 1 0) 70 1 0) 71 1 0) 64 2 0) 66 2 0) 67 2 0) 68 2 0) 69 2 0) 70 2 0) 71 2 0) 64 3 0) 66 3 0) 67 3 0) 68 3 0) 69 3 0) 70 3 0) 71 3 0) 50 46 52) 50 47 0) 50 48 0) 50 53 0) 50 56 1) 50 59 0)
      refine z_rcs hc hH 2 (pc' := 293) (lv' := [(5, .int 4), (7, .int kv), (6, .int jv), (3, .long x), (0, .ref 50), (1, .long sd)]) (st' := [.int 1, .ref 50]) (μ' := z_ui (z_ui (z_ui (z_ui (z_ui (z_ui (z_ui (z_ui (z_ui (z_ui (z_ui (z_ui (z_ui (z_ui (z_ui (z_ui (z_ui (z_ui (z_ui (z_ui (z_ui (z_ui (z_ui (z_ui (z_ui (z_ui (z_ui (z_ui (z_ui (z_ui (z_ui (z_ui (z_ui (z_ui μ3 64 0 0) 66 0 0) 67 0 0) 68 0 0) 69 0 0) 70 0 0) 71 0 0) 64 1 0) 66 1 0) 67 1 0) 68 1 0) 69 1 0) 70 1 0) 71 1 0) 64 2 0) 66 2 0) 67 2 0) 68 2 0) 69 2 0) 70 2 0) 71 2 0) 64 3 0) 66 3 0) 67 3 0) 68 3 0) 69 3 0) 70 3 0) 71 3 0) 50 46 52) 50 47 0) 50 48 0) 50 53 0) 50 56 1) 50 59 0) (by rfl) ?_
      refine zq_pfb hc hH (by rfl) (ci := 6) (f := 55) (by rfl) (by decide +kernel) (by rfl) (by decide) ?_
      show Z 0 296 [(5, .int 4), (7, .int kv), (6, .int jv), (3, .long x), (0, .ref 50), (1, .long sd)] [] (z_ui (z_ui (z_ui (z_ui (z_ui (z_ui (z_ui (z_ui (z_ui (z_ui (z_ui (z_ui (z_ui (z_ui (z_ui (z_ui (z_ui (z_ui (z_ui (z_ui (z_ui (z_ui (z_ui (z_ui (z_ui (z_ui (z_ui (z_ui (z_ui (z_ui (z_ui (z_ui (z_ui (z_ui (z_ui μ3 64 0 0) 66 0 0) 67 0 0) 68 0 0) 69 0 0) 70 0 0) 71 0 0) 64 1 0) 66 1 0) 67 1 0) 68 1 0) 69 1 0) 70 1 0) 71 1 0) 64 2 0) 66 2 0) 67 2 0) 68 2 0) 69 2 0) 70 2 0) 71 2 0) 64 3 0) 66 3 0) 67 3 0) 68 3 0) 69 3 0) 70 3 0) 71 3 0) 50 46 52) 50 47 0) 50 48 0) 50 53 0) 50 56 1) 50 59 0) 50 55 1)
      refine z_rcs hc hH 2 (pc' := 298) (lv' := [(5, .int 4), (7, .int kv), (6, .int jv), (3, .long x), (0, .ref 50), (1, .long sd)]) (st' := [.ref 50, .ref 50]) (μ' := z_ui (z_ui (z_ui (z_ui (z_ui (z_ui (z_ui (z_ui (z_ui (z_ui (z_ui (z_ui (z_ui (z_ui (z_ui (z_ui (z_ui (z_ui (z_ui (z_ui (z_ui (z_ui (z_ui (z_ui (z_ui (z_ui (z_ui (z_ui (z_ui (z_ui (z_ui (z_ui (z_ui (z_ui (z_ui μ3 64 0 0) 66 0 0) 67 0 0) 68 0 0) 69 0 0) 70 0 0) 71 0 0) 64 1 0) 66 1 0) 67 1 0) 68 1 0) 69 1 0) 70 1 0) 71 1 0) 64 2 0) 66 2 0) 67 2 0) 68 2 0) 69 2 0) 70 2 0) 71 2 0) 64 3 0) 66 3 0) 67 3 0) 68 3 0) 69 3 0) 70 3 0) 71 3 0) 50 46 52) 50 47 0) 50 48 0) 50 53 0) 50 56 1) 50 59 0) 50 55 1) (by rfl) ?_
      refine zq_gfi hc hH (by rfl) (ci := 6) (f := 40) (by rfl) (by decide +kernel) (by rfl) ?_
      rw [ui_k (by omega), ui_k (by omega), ui_k (by omega), ui_k (by omega), ui_k (by omega), ui_k (by omega), ui_k (by omega), ui_o (by omega), ui_o (by omega), ui_o (by omega), ui_o (by omega), ui_o (by omega), ui_o (by omega), ui_o (by omega), ui_o (by omega), ui_o (by omega), ui_o (by omega), ui_o (by omega), ui_o (by omega), ui_o (by omega), ui_o (by omega), ui_o (by omega), ui_o (by omega), ui_o (by omega), ui_o (by omega), ui_o (by omega), ui_o (by omega), ui_o (by omega), ui_o (by omega), ui_o (by omega), ui_o (by omega), ui_o (by omega), ui_o (by omega), ui_o (by omega), ui_o (by omega)]
      rw [((hM.2.2.1 50 40 (by decide) (by decide)).trans ((ui_k (by decide)).trans hdl))]
      refine z_rcs hc hH 1 (pc' := 302) (lv' := [(5, .int 4), (7, .int kv), (6, .int jv), (3, .long x), (0, .ref 50), (1, .long sd)]) (st' := [.int 0, .int (nI dl), .ref 50]) (μ' := z_ui (z_ui (z_ui (z_ui (z_ui (z_ui (z_ui (z_ui (z_ui (z_ui (z_ui (z_ui (z_ui (z_ui (z_ui (z_ui (z_ui (z_ui (z_ui (z_ui (z_ui (z_ui (z_ui (z_ui (z_ui (z_ui (z_ui (z_ui (z_ui (z_ui (z_ui (z_ui (z_ui (z_ui (z_ui μ3 64 0 0) 66 0 0) 67 0 0) 68 0 0) 69 0 0) 70 0 0) 71 0 0) 64 1 0) 66 1 0) 67 1 0) 68 1 0) 69 1 0) 70 1 0) 71 1 0) 64 2 0) 66 2 0) 67 2 0) 68 2 0) 69 2 0) 70 2 0) 71 2 0) 64 3 0) 66 3 0) 67 3 0) 68 3 0) 69 3 0) 70 3 0) 71 3 0) 50 46 52) 50 47 0) 50 48 0) 50 53 0) 50 56 1) 50 59 0) 50 55 1) (by rfl) ?_
      refine zq_call hc (by rfl) (gm_draws0 d' (by omega) (z_ui (z_ui (z_ui (z_ui (z_ui (z_ui (z_ui (z_ui (z_ui (z_ui (z_ui (z_ui (z_ui (z_ui (z_ui (z_ui (z_ui (z_ui (z_ui (z_ui (z_ui (z_ui (z_ui (z_ui (z_ui (z_ui (z_ui (z_ui (z_ui (z_ui (z_ui (z_ui (z_ui (z_ui (z_ui μ3 64 0 0) 66 0 0) 67 0 0) 68 0 0) 69 0 0) 70 0 0) 71 0 0) 64 1 0) 66 1 0) 67 1 0) 68 1 0) 69 1 0) 70 1 0) 71 1 0) 64 2 0) 66 2 0) 67 2 0) 68 2 0) 69 2 0) 70 2 0) 71 2 0) 64 3 0) 66 3 0) 67 3 0) 68 3 0) 69 3 0) 70 3 0) 71 3 0) 50 46 52) 50 47 0) 50 48 0) 50 53 0) 50 56 1) 50 59 0) 50 55 1) dl 52 (wlN sd 52) hdl4 (by decide) (by rw [ui_k (by omega), ui_k (by omega), ui_k (by omega), ui_k (by omega), ui_k (by omega), ui_k (by omega), ui_s]; exact rfl) (wlN_e sd (by decide)).2 (by rw [ui_o (by omega), ui_o (by omega), ui_o (by omega), ui_o (by omega), ui_o (by omega), ui_o (by omega), ui_o (by omega), ui_o (by omega), ui_o (by omega), ui_o (by omega), ui_o (by omega), ui_o (by omega), ui_o (by omega), ui_o (by omega), ui_o (by omega), ui_o (by omega), ui_o (by omega), ui_o (by omega), ui_o (by omega), ui_o (by omega), ui_o (by omega), ui_o (by omega), ui_o (by omega), ui_o (by omega), ui_o (by omega), ui_o (by omega), ui_o (by omega), ui_o (by omega), ui_o (by omega), ui_o (by omega), ui_o (by omega), ui_o (by omega), ui_o (by omega), ui_o (by omega), ui_o (by omega)]; exact ((hM.1 52 (by decide)).trans (wlN_e sd (by decide)).1))) (by decide +kernel) (fun r9 μ9 hq => ?_)
      obtain ⟨rfl, rfl⟩ := hq
      show Z 0 305 [(5, .int 4), (7, .int kv), (6, .int jv), (3, .long x), (0, .ref 50), (1, .long sd)] [] (dM0 (z_ui (z_ui (z_ui (z_ui (z_ui (z_ui (z_ui (z_ui (z_ui (z_ui (z_ui (z_ui (z_ui (z_ui (z_ui (z_ui (z_ui (z_ui (z_ui (z_ui (z_ui (z_ui (z_ui (z_ui (z_ui (z_ui (z_ui (z_ui (z_ui (z_ui (z_ui (z_ui (z_ui (z_ui (z_ui μ3 64 0 0) 66 0 0) 67 0 0) 68 0 0) 69 0 0) 70 0 0) 71 0 0) 64 1 0) 66 1 0) 67 1 0) 68 1 0) 69 1 0) 70 1 0) 71 1 0) 64 2 0) 66 2 0) 67 2 0) 68 2 0) 69 2 0) 70 2 0) 71 2 0) 64 3 0) 66 3 0) 67 3 0) 68 3 0) 69 3 0) 70 3 0) 71 3 0) 50 46 52) 50 47 0) 50 48 0) 50 53 0) 50 56 1) 50 59 0) 50 55 1) dl 52 (wlN sd 52))
      refine z_rcs hc hH 1 (pc' := 306) (lv' := [(5, .int 4), (7, .int kv), (6, .int jv), (3, .long x), (0, .ref 50), (1, .long sd)]) (st' := [.int 1]) (μ' := dM0 (z_ui (z_ui (z_ui (z_ui (z_ui (z_ui (z_ui (z_ui (z_ui (z_ui (z_ui (z_ui (z_ui (z_ui (z_ui (z_ui (z_ui (z_ui (z_ui (z_ui (z_ui (z_ui (z_ui (z_ui (z_ui (z_ui (z_ui (z_ui (z_ui (z_ui (z_ui (z_ui (z_ui (z_ui (z_ui μ3 64 0 0) 66 0 0) 67 0 0) 68 0 0) 69 0 0) 70 0 0) 71 0 0) 64 1 0) 66 1 0) 67 1 0) 68 1 0) 69 1 0) 70 1 0) 71 1 0) 64 2 0) 66 2 0) 67 2 0) 68 2 0) 69 2 0) 70 2 0) 71 2 0) 64 3 0) 66 3 0) 67 3 0) 68 3 0) 69 3 0) 70 3 0) 71 3 0) 50 46 52) 50 47 0) 50 48 0) 50 53 0) 50 56 1) 50 59 0) 50 55 1) dl 52 (wlN sd 52)) (by rfl) ?_
      exact hr 0 306 _ _ _ (some (.int 1)) (by decide +kernel) (by rfl) (⟨rfl, μ3, hM, rfl⟩)
    · have h2 : (decide ((μ.1 50 54) = 0)) = false := decide_eq_false (cn_eq.mp h2)
      exact absurd (Eq.trans (Eq.symm (he)) h2) (by decide)

/-- is there such a discard -/
noncomputable def RVc (μ : zM) (p0 p1 : Int32) : Prop := vp_in p0 4 ∧ ¬ p1 < 0 ∧ p1 < μ.1 (18 + 8 * p0.toNatClampNeg) 2
noncomputable def RVv (μ : zM) (p0 p1 : Int32) : Int32 := bif decide (p1 < 0) then (-1 : Int32) else bif decide (86 ≤ p1) then (-1 : Int32) else μ.1 (24 + 8 * p0.toNatClampNeg) p1.toNatClampNeg
noncomputable def KVw (μ : zM) (x : Int32) : Int32 := bif decide ((μ.1 2 1) = 0) then (-1 : Int32) else bif decide (x < 0) then (-1 : Int32) else bif decide (136 ≤ x) then (-1 : Int32) else μ.1 3 x.toNatClampNeg
noncomputable def RVX (μ : zM) (p0 p1 : Int32) (r : Option Value) (μ' : zM) : Prop := (r = some (.int 1) ∧ μ' = μ ∧ ¬ RVc μ p0 p1) ∨ (r = some (.int 0) ∧ RVc μ p0 p1 ∧ μ' = z_uj μ 78 0 (RVv μ p0 p1).toInt64)
noncomputable def KVX (μ : zM) (p0 : Int32) (r : Option Value) (μ' : zM) : Prop := (r = some (.int 1) ∧ μ' = μ ∧ KVw μ p0 = -1) ∨ (r = some (.int 0) ∧ ¬ KVw μ p0 = -1 ∧ μ' = z_uj μ 78 0 (KVw μ p0).toInt64)
theorem sI_x9 (μ : zM) (p0 : Int32) : z_C 700 mi_X6_isSeat [.int p0] μ (fun r μ' => μ' = μ ∧ ∃ x, x = nB (sI p0) ∧ r = some (.int x)) := z_C_mono (gc_isSeat 700 (by decide) μ p0) (fun r μ' z => ⟨z.1, _, rfl, z.2⟩)
theorem sI_yes {y : Int32} (h : vp_in y 4) : sI y = true := by
  obtain ⟨s, hs, rfl⟩ := vp_in_of h (by decide)
  exact sI_n hs
theorem sI_n9 {x p0 : Int32} (e : x = nB (sI p0)) (g : x = 0) : ¬ vp_in p0 4 := fun h => by
  rw [sI_yes h, g] at e
  exact absurd e (by decide)
theorem sI_v9 {x p0 : Int32} (e : x = nB (sI p0)) (g : ¬ x = 0) : vp_in p0 4 := by
  by_cases h : vp_in p0 4
  · exact h
  · rw [sI_no h] at e
    exact absurd e g
theorem at_x9 (μ : zM) {p0 : Int32} {s : Nat} (hs : s < 4) (e : p0 = nI s) : z_C 700 mi_X6_at [.ref 0, .int p0] μ (fun r μ' => μ' = μ ∧ ∃ q, q = 18 + 8 * s ∧ r = some (.ref q)) := by
  rw [e]; exact z_C_mono (gc_at4 700 (by decide) μ s hs) (fun r μ' z => ⟨z.1, _, rfl, z.2⟩)
theorem RV_eq {μ : zM} {p0 : Int32} {s : Nat} (e : p0 = nI s) (hs : s < 4 := by assumption) : μ.1 (18 + 8 * s) 2 = μ.1 (18 + 8 * p0.toNatClampNeg) 2 := by
  rw [e, nI_clamp (by omega)]
theorem RV_lt {μ : zM} {p0 p1 : Int32} {s : Nat} (e : p0 = nI s) (h : p1 < μ.1 (18 + 8 * p0.toNatClampNeg) 2) (hs : s < 4 := by assumption) : p1 < μ.1 (18 + 8 * s) 2 := by
  rw [RV_eq e hs]; exact h
theorem th_x9 (μ : zM) {p0 p1 : Int32} {s q : Nat} (hs : s < 4) (e : p0 = nI s) (hq : q = 18 + 8 * s) : z_C 700 mi_X2_thrown [.ref q, .int p1] μ (fun r μ' => μ' = μ ∧ ∃ x, x = RVv μ p0 p1 ∧ r = some (.int x)) := by
  rw [hq]
  refine z_C_mono (gc_thrown 700 (by decide) μ s hs p1) (fun r μ' z => ⟨z.2, RVv μ p0 p1, rfl, ?_⟩)
  rw [z.1]
  unfold RVv
  rw [e, nI_clamp (by omega)]
  cases decide (p1 < 0) <;> cases decide (86 ≤ p1) <;> rfl
theorem kv_x9 (μ : zM) (p0 : Int32) : z_C 700 mi_X4_kindAt [.ref 2, .int p0] μ (fun r μ' => μ' = μ ∧ ∃ x, x = KVw μ p0 ∧ r = some (.int x)) := z_C_mono (gc_kindAt 700 (by decide) μ p0) (fun r μ' z => ⟨z.1, _, rfl, z.2⟩)
theorem rv_n {μ : zM} (hH : a_H μ) (R : RCl μ μ) {s : Nat} (hs : s < 4) : ∃ n, n < 87 ∧ μ.1 66 s = nI n := by
  have b : (μ.1 66 s).toInt.toNat ≤ 86 := R.rb s hs
  have z : 0 ≤ (μ.1 66 s).toInt := (hH 66 s).1
  exact a_nI (x := μ.1 66 s) (n := 87) z (by omega) (by decide)
theorem i32_0 {x : Int32} (h : ¬ x < 0) : 0 ≤ x.toInt := by
  rw [Int32.lt_iff_toInt_lt, show (0 : Int32).toInt = 0 from by decide] at h
  omega
theorem nI_m19 {v : Nat} (hv : v < 34) : ¬ nI v = -1 := fun e => by
  have z : (nI v).toInt = (-1 : Int32).toInt := by rw [e]
  rw [nI_toInt (by omega), show (-1 : Int32).toInt = -1 from by decide] at z
  omega
theorem is_d {μ : zM} (hH : a_H μ) (h : ¬ μ.1 50 55 = 0) : μ.1 50 55 = 1 := by
  have z : 0 ≤ (μ.1 50 55).toInt ∧ (μ.1 50 55).toInt ≤ 1 := hH 50 55
  obtain ⟨t, ht, e⟩ := a_nI (x := μ.1 50 55) (n := 2) z.1 (by omega) (by decide)
  rcases Nat.lt_or_ge t 1 with g | g
  · obtain rfl : t = 0 := by omega
    exact absurd e h
  · obtain rfl : t = 1 := by omega
    exact e
theorem RVv_i {μ : zM} (R : RCl μ μ) {s i : Nat} (hs : s < 4) (hi : i < 86) : RVv μ (nI s) (nI i) = μ.1 65 (136 * s + i) := by
  have e : decide ((86 : Int32) ≤ nI i) = false := decide_eq_false (by rw [Int32.le_iff_toInt_le, nI_toInt (by omega), show (86 : Int32).toInt = 86 from by decide]; omega)
  have e1 : (nI s).toNatClampNeg = s := nI_clamp (by omega)
  have e2 : (nI i).toNatClampNeg = i := nI_clamp (by omega)
  unfold RVv
  rw [kn_l0 (show i < 2147483648 by omega), e, cond_false, cond_false, e1, e2]
  exact R.rv s i hs hi
theorem KVw_i {μ : zM} (R : RCl μ μ) {i : Nat} (hi : i < 136) (h0 : ¬ μ.1 50 55 = 0) : KVw μ (nI i) = μ.1 59 i := by
  have e : decide ((136 : Int32) ≤ nI i) = false := decide_eq_false (by rw [Int32.le_iff_toInt_le, nI_toInt (by omega), show (136 : Int32).toInt = 136 from by decide]; omega)
  have e2 : (nI i).toNatClampNeg = i := nI_clamp (by omega)
  have e3 : decide (μ.1 2 1 = 0) = false := decide_eq_false (by rw [R.sd]; exact h0)
  unfold KVw
  rw [e3, kn_l0 (show i < 2147483648 by omega), e, cond_false, cond_false, cond_false, e2]
  exact R.wl i hi
theorem lgm_riverN {d : Nat} (hd : 705 ≤ d) {μ : zM} (h : LGm μ) {p0 p1 : Int32} (hn : ¬ RVc μ p0 p1) : z_C d mi_X7_river [.ref 50, .int p0, .int p1] μ (fun r μ' => LGm μ' ∧ (∃ x, r = some (.int x)) ∧ μ'.1 50 0 = 1) := by
  have k : z_C d mi_X7_river [.ref 50, .int p0, .int p1] μ (fun r μ' => LGm μ' ∧ a_rok ak_128.2.2.2.2 r) := lq_k (i := 128) (K := ak_128) rfl (by omega) (by decide) (by decide) rfl (by decide) [.ref 50, .int p0, .int p1] μ h ⟨⟨50, by decide, rfl⟩, ⟨_, rfl, bI_top _⟩, ⟨_, rfl, bI_top _⟩, trivial⟩
  by_cases hv : vp_in p0 4
  · obtain ⟨s, hs, rfl⟩ := vp_in_of hv (by decide)
    by_cases h0 : p1 < 0
    · exact z_C_mono (zC_and d k (gm_riverN d (by omega) μ s hs p1 (decide_eq_true h0))) (fun r μ' z => ⟨z.1.1, ⟨_, z.2.1⟩, by rw [z.2.2]; exact ui_s⟩)
    · have hg : ¬ p1 < μ.1 66 s := fun e => hn ⟨hv, h0, by rw [show (nI s).toNatClampNeg = s from nI_clamp (by omega), h.2.1.ds s hs]; exact e⟩
      exact z_C_mono (zC_and d k (gm_riverG d (by omega) μ s hs p1 (decide_eq_false h0) (decide_eq_false hg))) (fun r μ' z => ⟨z.1.1, ⟨_, z.2.1⟩, by rw [z.2.2]; exact ui_s⟩)
  · exact z_C_mono (zC_and d k (gm_riverS d (by omega) μ p0 p1 (isS_no hv))) (fun r μ' z => ⟨z.1.1, ⟨_, z.2.1⟩, by rw [z.2.2]; exact ui_s⟩)
theorem lgm_riverY {d : Nat} (hd : 705 ≤ d) {μ : zM} (h : LGm μ) {p0 p1 : Int32} (hy : RVc μ p0 p1) {v : Int64} {μ1 : zM} (e1 : μ1 = z_uj μ 78 0 v) (hv : LGm μ1) : z_C d mi_X7_river [.ref 50, .int p0, .int p1] μ1 (fun r μ' => LGm μ' ∧ r = some (.int (RVv μ p0 p1)) ∧ μ'.1 50 0 = 0 ∧ μ'.2.1 78 0 = v) := by
  subst e1
  have k : z_C d mi_X7_river [.ref 50, .int p0, .int p1] (z_uj μ 78 0 v) (fun r μ' => LGm μ' ∧ a_rok ak_128.2.2.2.2 r) := lq_k (i := 128) (K := ak_128) rfl (by omega) (by decide) (by decide) rfl (by decide) [.ref 50, .int p0, .int p1] (z_uj μ 78 0 v) hv ⟨⟨50, by decide, rfl⟩, ⟨_, rfl, bI_top _⟩, ⟨_, rfl, bI_top _⟩, trivial⟩
  obtain ⟨h0, h1, h2⟩ := hy
  obtain ⟨s, hs, rfl⟩ := vp_in_of h0 (by decide)
  obtain ⟨n, hn, e66⟩ := rv_n h.1.1.1 h.2.1 hs
  rw [show (nI s).toNatClampNeg = s from nI_clamp (by omega), h.2.1.ds s hs, e66, Int32.lt_iff_toInt_lt, nI_toInt (by omega)] at h2
  obtain ⟨i, hi, rfl⟩ := a_nI (x := p1) (n := n) (i32_0 h1) h2 (by omega)
  refine z_C_mono (zC_and d k (gm_riverI d (by omega) (z_uj μ 78 0 v) s i n hs hi (by omega) e66)) (fun r μ' q => ⟨q.1.1, ?_, ?_, ?_⟩)
  · rw [q.2.1, RVv_i h.2.1 hs (by omega)]
    rfl
  · rw [q.2.2]
    exact ui_s
  · rw [q.2.2]
    exact ui_j.trans uj_s
theorem lgm_wallN {d : Nat} (hd : 705 ≤ d) {μ : zM} (h : LGm μ) {p0 : Int32} (hn : KVw μ p0 = -1) : z_C d mi_X7_wall [.ref 50, .int p0] μ (fun r μ' => LGm μ' ∧ (∃ x, r = some (.int x)) ∧ μ'.1 50 0 = 1) := by
  have k : z_C d mi_X7_wall [.ref 50, .int p0] μ (fun r μ' => LGm μ' ∧ a_rok ak_134.2.2.2.2 r) := lq_k (i := 134) (K := ak_134) rfl (by omega) (by decide) (by decide) rfl (by decide) [.ref 50, .int p0] μ h ⟨⟨50, by decide, rfl⟩, ⟨_, rfl, bI_top _⟩, trivial⟩
  by_cases h0 : μ.1 50 55 = 0
  · exact z_C_mono (zC_and d k (gm_wallD d (by omega) μ p0 (decide_eq_true h0))) (fun r μ' z => ⟨z.1.1, ⟨_, z.2.1⟩, by rw [z.2.2]; exact ui_s⟩)
  · by_cases h1 : p0 < 0
    · exact z_C_mono (zC_and d k (gm_wallN d (by omega) μ p0 (decide_eq_false h0) (decide_eq_true h1))) (fun r μ' z => ⟨z.1.1, ⟨_, z.2.1⟩, by rw [z.2.2]; exact ui_s⟩)
    · by_cases h2 : p0 < 136
      · exfalso
        have h3 := h2
        rw [Int32.lt_iff_toInt_lt, show (136 : Int32).toInt = 136 from by decide] at h3
        obtain ⟨i, hi, rfl⟩ := a_nI (x := p0) (n := 136) (i32_0 h1) h3 (by decide)
        obtain ⟨sd, hw⟩ := h.2.1.wp (is_d h.1.1.1 h0)
        obtain ⟨v, hv, ev⟩ := wlF_in sd i hi
        rw [KVw_i h.2.1 hi h0, hw i hi, ev] at hn
        exact nI_m19 hv hn
      · exact z_C_mono (zC_and d k (gm_wallG d (by omega) μ p0 (decide_eq_false h0) (decide_eq_false h1) (decide_eq_false h2))) (fun r μ' z => ⟨z.1.1, ⟨_, z.2.1⟩, by rw [z.2.2]; exact ui_s⟩)
theorem lgm_wallY {d : Nat} (hd : 705 ≤ d) {μ : zM} (h : LGm μ) {p0 : Int32} (hy : ¬ KVw μ p0 = -1) {v : Int64} {μ1 : zM} (e1 : μ1 = z_uj μ 78 0 v) (hv : LGm μ1) : z_C d mi_X7_wall [.ref 50, .int p0] μ1 (fun r μ' => LGm μ' ∧ r = some (.int (KVw μ p0)) ∧ μ'.1 50 0 = 0 ∧ μ'.2.1 78 0 = v) := by
  subst e1
  have k : z_C d mi_X7_wall [.ref 50, .int p0] (z_uj μ 78 0 v) (fun r μ' => LGm μ' ∧ a_rok ak_134.2.2.2.2 r) := lq_k (i := 134) (K := ak_134) rfl (by omega) (by decide) (by decide) rfl (by decide) [.ref 50, .int p0] (z_uj μ 78 0 v) hv ⟨⟨50, by decide, rfl⟩, ⟨_, rfl, bI_top _⟩, trivial⟩
  have h0 : ¬ μ.1 50 55 = 0 := fun e => hy (by
    have e3 : decide (μ.1 2 1 = 0) = true := decide_eq_true (by rw [h.2.1.sd]; exact e)
    unfold KVw
    rw [e3, cond_true])
  have e3 : decide (μ.1 2 1 = 0) = false := decide_eq_false (by rw [h.2.1.sd]; exact h0)
  have h1 : ¬ p0 < 0 := fun e => hy (by
    unfold KVw
    rw [e3, cond_false, decide_eq_true e, cond_true])
  have h2 : ¬ (136 : Int32) ≤ p0 := fun e => hy (by
    unfold KVw
    rw [e3, cond_false, decide_eq_false h1, cond_false, decide_eq_true e, cond_true])
  have h3 : p0.toInt < 136 := by
    rw [Int32.le_iff_toInt_le, show (136 : Int32).toInt = 136 from by decide] at h2
    omega
  obtain ⟨i, hi, rfl⟩ := a_nI (x := p0) (n := 136) (i32_0 h1) h3 (by decide)
  refine z_C_mono (zC_and d k (gm_wallI d (by omega) (z_uj μ 78 0 v) i hi (decide_eq_false h0))) (fun r μ' q => ⟨q.1.1, ?_, ?_, ?_⟩)
  · rw [q.2.1, KVw_i h.2.1 hi h0]
    rfl
  · rw [q.2.2]
    exact ui_s
  · rw [q.2.2]
    exact ui_j.trans uj_s

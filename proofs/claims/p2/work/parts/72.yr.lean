/-! what holds between the law's calls, with the SETS of the desks; what they are worth -/
set_option maxRecDepth 8000
def SVd (a b : Int32) : Prop := bI 0 3 a ∧ bI 0 33 b ∧ (a = 0 → sr b)
def DS (μ : zM) (q : Nat) : Prop := (∀ i, i < q → μ.1 12 i = μ.1 75 i ∧ μ.1 13 i = μ.1 76 i ∧ SVd (μ.1 75 i) (μ.1 76 i)) ∧ ∀ k, k < 34 → bI 0 4 (μ.1 11 k)
def LJ (μ : zM) : Prop := GI μ ∧ ∃ q, RD μ q ∧ DS μ q
def md_r3 (md : List (Nat × Nat)) : Bool := md.all (fun q => !((Nat.ble 9 q.1 && Nat.ble q.1 13) || (Nat.ble 74 q.1 && Nat.ble q.1 76)))
theorem md_r3_r {md : List (Nat × Nat)} (h : md_r3 md = true) {r k : Nat} (hr : (9 ≤ r ∧ r ≤ 13) ∨ (74 ≤ r ∧ r ≤ 76)) : a_md md r k = false := by
  refine a_md_row (List.all_eq_true.mpr (fun q hq => ?_))
  have t := List.all_eq_true.mp h q hq
  rw [Bool.not_eq_true'] at t ⊢
  rw [← Bool.not_eq_true]
  intro e
  have e := z_beq e
  rw [e] at t
  rcases hr with hr | hr
  · rw [Nat.ble_eq_true_of_le hr.1, Nat.ble_eq_true_of_le hr.2] at t
    simp at t
  · rw [Nat.ble_eq_true_of_le hr.1, Nat.ble_eq_true_of_le hr.2] at t
    simp at t
theorem DS.fz {md : List (Nat × Nat)} {μ μ' : zM} {q : Nat} (h : DS μ q) (hz : a_Fz md μ μ') (hm : md_r3 md = true) : DS μ' q := by
  have e : ∀ r k, (9 ≤ r ∧ r ≤ 13) ∨ (74 ≤ r ∧ r ≤ 76) → μ'.1 r k = μ.1 r k := fun r k hr => a_Fz_at hz r k (md_r3_r hm hr)
  refine ⟨fun i hi => ?_, fun k hk => ?_⟩
  · rw [e 12 i (by omega), e 13 i (by omega), e 75 i (by omega), e 76 i (by omega)]; exact h.1 i hi
  · rw [e 11 k (by omega)]; exact h.2 k hk
theorem LJ.li {μ : zM} (h : LJ μ) : LI μ := ⟨h.1, h.2.elim fun q hq => ⟨q, hq.1⟩⟩
theorem LJ.keep {md : List (Nat × Nat)} {μ μ' : zM} (h : LJ μ) (hH : a_H μ') (hz : a_Fz md μ μ') (h1 : md_ok md = true) (h2 : (md_rd md && md_r3 md) = true) : LJ μ' := ⟨h.1.keep hH hz h1, h.2.elim fun q hq => ⟨q, hq.1.fz hz (z_and h2).1, hq.2.fz hz (z_and h2).2⟩⟩
theorem lj_k {d i : Nat} {K : aQ} (hk : (a_Ks.take 139)[i]? = some K) (hd : 695 ≤ d) (h1 : md_ok K.2.2.2.1 = true) (h2 : (md_rd K.2.2.2.1 && md_r3 K.2.2.2.1) = true) (h3 : K.2.2.1 = []) (As : List Value) (μ : zM) (h : LJ μ) (ha : aArg K.2.1 As) : z_C d K.1 As μ (fun r μ' => LJ μ' ∧ a_rok K.2.2.2.2 r) := z_C_mono (a_use hk hd As μ (aArg_pre ha h3) h.1.1) (fun r μ' q => ⟨h.keep q.1 q.2.1 h1 h2, q.2.2⟩)
def zLj (r : Option Value) (μ' : zM) : Prop := LJ μ' ∧ ∃ x, r = some (.int x)
theorem lj_g {d j : Nat} {As : List Value} {μ : zM} (h : LJ μ) (hc : z_C d j As μ (zPG μ)) : z_C d j As μ zLj := z_C_mono hc (fun r μ' q => ⟨⟨q.2.1, h.2.elim fun n hn => ⟨n, hn.1.fz q.2.2 (by decide), hn.2.fz q.2.2 (by decide)⟩⟩, q.1⟩)
theorem lj_e {d j : Nat} {As : List Value} {μ : zM} (h : LJ μ) (hc : z_C d j As μ (zPE μ)) : z_C d j As μ zLj := z_C_mono hc (fun r μ' q => ⟨⟨⟨q.2.1.1, q.2.1.2.1, fun hp => q.2.2.elim (fun e => absurd e hp) (fun hz => (h.1.2.2 (by rw [← a_Fz_at hz 50 44 (by decide)]; exact hp)).keep hz (by decide))⟩, h.2.elim fun n hn => ⟨n, hn.1.fz q.2.1.2.2 (by decide), hn.2.fz q.2.1.2.2 (by decide)⟩⟩, q.1⟩)
theorem lj_X7_claim {d : Nat} (hd : 700 ≤ d) (μ : zM) (s : Int32) (h : LJ μ) : z_C d mi_X7_claim [.ref 50, .int s] μ zLj := by
  by_cases hp : μ.1 50 44 = 0 ∨ μ.1 50 44 = 1
  · refine z_C_mono (bs_X7_claim_b hd [.ref 50, .int s] μ (aArg_preF ⟨⟨50, by decide, rfl⟩, ⟨_, rfl, bI_top _⟩, trivial⟩ (fun f hf => ?_)) h.1.1) (fun r μ' q => ⟨h.keep q.1 q.2.1 (by decide) (by decide), ?_⟩)
    · rw [List.mem_singleton.mp hf]
      refine ⟨50, rfl, rfl, by decide, μ.1 50 44, rfl, ?_⟩
      rcases hp with e | e <;> rw [e] <;> exact ⟨by decide, by decide⟩
    · obtain ⟨v9, rfl, x9, rfl, -⟩ := q.2.2
      exact ⟨x9, rfl⟩
  · have hP := h.1.2.2 (fun e => hp (Or.inl e))
    have t0 := hP.2.2.2.2.1 (fun e => absurd (Or.inr e) hp)
    refine z_C_mono (bs_X7_claim_a hd [.ref 50, .int s] μ (aArg_preF ⟨⟨50, by decide, rfl⟩, ⟨_, rfl, bI_top _⟩, trivial⟩ (fun f hf => ?_)) h.1.1) (fun r μ' q => ⟨h.keep q.1 q.2.1 (by decide) (by decide), ?_⟩)
    · rw [List.mem_singleton.mp hf]
      exact ⟨50, rfl, rfl, by decide, μ.1 50 49, rfl, t0, (h.1.1 50 49).2⟩
    · obtain ⟨v9, rfl, x9, rfl, -⟩ := q.2.2
      exact ⟨x9, rfl⟩
theorem lj_X7_win {d : Nat} (hd : 702 ≤ d) (μ : zM) (h : LJ μ) : z_C d mi_X7_win [.ref 50] μ zLj := lj_e h (fc_X7_win d hd μ h.1.1 h.1.2.1 (fun h1 h2 => (h.1.2.2 (by rw [h1]; decide)).2.2.2.2.1 (fun _ => h2)))
theorem lj_X7_nine {d : Nat} (hd : 702 ≤ d) (μ : zM) (h : LJ μ) : z_C d mi_X7_nine [.ref 50] μ zLj := lj_e h (fc_X7_nine d hd μ h.1.1 h.1.2.1)
theorem LJ_desk {μ μ1 μ2 : zM} {q : Nat} (h : GI μ) (h1 : F9 μ μ1) (h2 : zMf μ1 μ2) (h3 : RD μ2 q) (h4 : DS μ2 q) : LJ μ2 := ⟨(LI_desk h h1 h2 h3).1, q, h3, h4⟩
theorem b4_add {x y : Int32} (hx : bI 0 4 x) (hy : bI 0 4 y) (h : x + y ≤ 4) : bI 0 4 (x + y) := by
  obtain ⟨a, ha, rfl⟩ := a_nI (x := x) (n := 5) hx.1 (by have := hx.2; omega) (by decide)
  obtain ⟨b, hb, rfl⟩ := a_nI (x := y) (n := 5) hy.1 (by have := hy.2; omega) (by decide)
  rw [nI_add] at h ⊢
  rw [Int32.le_iff_toInt_le, nI_toInt (by omega)] at h
  have h : ((a + b : Nat) : Int) ≤ 4 := h
  exact bd_nI (by omega) ⟨by omega, by omega⟩
theorem se_b (s : Int32) : bI 0 4 (se s) := by unfold se; split <;> first | exact ⟨by decide, by decide⟩ | (split <;> exact ⟨by decide, by decide⟩)
theorem ljm_lay {d : Nat} (hd : 4 ≤ d) {μ μ1 : zM} {k n : Int32} {r1 : Option Value} (h : LJ μ) (hF : F9 μ μ1) (hx : (r1 = some (.int 1) ∧ z_layok μ k n ∧ μ1 = z_put μ k n) ∨ (r1 = some (.int 0) ∧ ¬ z_layok μ k n ∧ μ1 = μ)) : z_C d mi_X7_lay [.ref 50, .int k, .int n] μ1 (fun r2 μ2 => LJ μ2 ∧ ((r1 = some (.int 1) ∧ r2 = some (.int 1)) ∨ (r1 = some (.int 0) ∧ r2 = some (.int 0)))) := by
  obtain ⟨hg, q, hq, hs⟩ := h
  refine z_C_mono (fc_X7_lay d hd μ1 k n q hq.1 ((hF.1 50 66 (by decide) (by decide) (by decide) (by decide) (by omega)).trans hq.2.1)) (fun r2 μ2 hm => ?_)
  obtain ⟨g1, g2⟩ := RD_lay hq hx hm
  refine ⟨LJ_desk hg hF hm.1 g1 ⟨fun i hi => ?_, fun j hj => ?_⟩, g2⟩
  · have e12 : μ1.1 12 i = μ.1 12 i ∧ μ1.1 13 i = μ.1 13 i := by
      rcases hx with ⟨_, _, e⟩ | ⟨_, _, e⟩
      · rw [e]; unfold z_put
        exact ⟨by rw [z_ui_rd, if_neg (by omega), z_ui_rd, if_neg (by omega), z_ui_rd, if_neg (by omega)], by rw [z_ui_rd, if_neg (by omega), z_ui_rd, if_neg (by omega), z_ui_rd, if_neg (by omega)]⟩
      · rw [e]; exact ⟨rfl, rfl⟩
    rw [hm.1.X (r := 12) (k := i) (by decide), hm.1.X (r := 13) (k := i) (by decide), e12.1, e12.2, hm.2.1, hm.2.2.1, hF.1 75 i (by decide) (by decide) (by decide) (by decide) (by omega), hF.1 76 i (by decide) (by decide) (by decide) (by decide) (by omega)]
    exact hs.1 i hi
  · rw [hm.1.X (by decide)]
    rcases hx with ⟨_, hl, e⟩ | ⟨_, _, e⟩
    · rw [e]
      unfold z_put
      rw [z_ui_rd, if_neg (by omega), z_ui_rd]
      by_cases c : j = k.toNatClampNeg
      · rw [if_pos ⟨rfl, c⟩]
        try rw [z_ui_rd, if_neg (by omega)]
        refine b4_add (hs.2 _ (by rw [← c]; exact hj)) ?_ (Int32.not_lt.mp hl.2.2.2.1)
        have h1 := hl.2.1
        have h2 := hl.2.2.1
        rw [Int32.lt_iff_toInt_lt] at h1
        rw [Int32.le_iff_toInt_le] at h2
        have h1 : ¬ n.toInt < 1 := h1
        have h2 : n.toInt ≤ 4 := h2
        exact ⟨by omega, by omega⟩
      · rw [if_neg (fun z => c z.2), z_ui_rd, if_neg (by omega)]; exact hs.2 j hj
    · rw [e]; exact hs.2 j hj
theorem ljm_set {d : Nat} (hd : 4 ≤ d) {μ μ1 : zM} {s k : Int32} {q : Nat} {r1 : Option Value} (hg : GI μ) (hq : RD μ q) (hs : DS μ q) (hF : F9 μ μ1) (hx : (r1 = some (.int 1) ∧ z_setX μ s k ∧ zSX μ s k q μ1) ∨ (r1 = some (.int 0) ∧ ¬ z_setX μ s k ∧ μ1 = μ)) : z_C d mi_X7_set [.ref 50, .int s, .int k] μ1 (fun r2 μ2 => LJ μ2 ∧ ((r1 = some (.int 1) ∧ r2 = some (.int 1)) ∨ (r1 = some (.int 0) ∧ r2 = some (.int 0)))) := by
  have e66 : μ1.1 50 66 = μ.1 50 66 := hF.1 50 66 (by decide) (by decide) (by decide) (by decide) (by omega)
  have e74 : μ1.1 74 = μ.1 74 := funext fun i => hF.1 74 i (by decide) (by decide) (by decide) (by decide) (by omega)
  have e75 : ∀ i, μ1.1 75 i = μ.1 75 i := fun i => hF.1 75 i (by decide) (by decide) (by decide) (by decide) (by omega)
  have e76 : ∀ i, μ1.1 76 i = μ.1 76 i := fun i => hF.1 76 i (by decide) (by decide) (by decide) (by decide) (by omega)
  refine z_C_mono (fc_X7_set d hd μ1 s k q hq.1 (e66.trans hq.2.1) (by rw [e74, e66]; exact hq.sm3)) (fun r2 μ2 hm => ?_)
  obtain ⟨⟨q', g1⟩, g2⟩ := RD_set hq hx hm
  have g2' := g2
  refine ⟨LJ_desk hg hF hm.1 g1 ?_, g2⟩
  have l4 := hq.1
  have l4' := g1.1
  have x94 : μ2.1 9 4 = μ1.1 9 4 := hm.1.X (by decide)
  rcases hx with ⟨f1, hl, e⟩ | ⟨f1, _, e⟩
  · have r2' : r2 = some (.int 1) := by
      rcases g2' with ⟨_, z⟩ | ⟨z, _⟩
      · exact z
      · rw [f1] at z; injection z with z; injection z with z; exact absurd z (by decide)
    have hq' : q' = q + 1 := by
      have a := g1.2.2.1
      rw [x94, e.2.2.2.1] at a
      exact ((nI_eq (by omega) (by omega)).mp a).symm
    have m75 : (∀ i, μ2.1 75 i = if i = q then s else μ1.1 75 i) ∧ (∀ i, μ2.1 76 i = if i = q then k else μ1.1 76 i) := by
      rcases hm.2.2 with ⟨_, _, z1, z2, _⟩ | ⟨z, _⟩
      · exact ⟨z1, z2⟩
      · rw [r2'] at z; injection z with z; injection z with z; exact absurd z (by decide)
    subst hq'
    refine ⟨fun i hi => ?_, fun j hj => ?_⟩
    · rw [hm.1.X (r := 12) (k := i) (by decide), hm.1.X (r := 13) (k := i) (by decide), e.2.2.2.2.1, e.2.2.2.2.2.1, m75.1, m75.2]
      by_cases c : i = q
      · rw [if_pos c, if_pos c, if_pos c, if_pos c]
        have hv := vp_in_iff.mp hl.1
        have h1 := hl.2.1
        have h2 := hl.2.2.1
        rw [Int32.lt_iff_toInt_lt] at h1
        rw [Int32.le_iff_toInt_le] at h2
        have h1 : ¬ s.toInt < 0 := h1
        have h2 : s.toInt ≤ 3 := h2
        exact ⟨rfl, rfl, ⟨by omega, by omega⟩, ⟨by omega, by omega⟩, hl.2.2.2.1⟩
      · rw [if_neg c, if_neg c, if_neg c, if_neg c, e75, e76]; exact hs.1 i (by omega)
    · rw [hm.1.X (by decide), e.2.1]
      split
      · rename_i c
        have z := hl.2.2.2.2.2 (j - k.toNatClampNeg) (by omega)
        rw [show k.toNatClampNeg + (j - k.toNatClampNeg) = j by omega] at z
        exact b4_add (hs.2 j hj) (se_b s) z
      · exact hs.2 j hj
  · have r2' : r2 = some (.int 0) := by
      rcases g2' with ⟨z, _⟩ | ⟨_, z⟩
      · rw [f1] at z; injection z with z; injection z with z; exact absurd z (by decide)
      · exact z
    have hq' : q' = q := by
      have a := g1.2.2.1
      rw [x94, e, hq.2.2.1] at a
      exact ((nI_eq (by omega) (by omega)).mp a).symm
    have m75 : μ2.1 75 = μ1.1 75 ∧ μ2.1 76 = μ1.1 76 := by
      rcases hm.2.2 with ⟨z, _⟩ | ⟨_, _, z1, z2, _⟩
      · rw [r2'] at z; injection z with z; injection z with z; exact absurd z (by decide)
      · exact ⟨z1, z2⟩
    subst hq'
    refine ⟨fun i hi => ?_, fun j hj => ?_⟩
    · rw [hm.1.X (r := 12) (k := i) (by decide), hm.1.X (r := 13) (k := i) (by decide), m75.1, m75.2, e]; exact hs.1 i hi
    · rw [hm.1.X (by decide), e]; exact hs.2 j hj
theorem ljm_clear {d : Nat} (hd : 1 ≤ d) {μ μ1 : zM} (hg : GI μ) (hF : F9 μ μ1) (hx : (∀ k, k < 34 → μ1.1 10 k = 0 ∧ μ1.1 11 k = 0) ∧ μ1.1 9 4 = 0 ∧ μ1.1 9 5 = 0) : z_C d mi_X7_clear [.ref 50] μ1 (fun r μ2 => r = none ∧ LJ μ2) := z_C_mono (fc_X7_clear d hd μ1) (fun r μ2 h => ⟨h.1, LJ_desk hg hF ⟨fun r k _ _ _ _ r5 _ _ r8 => h.2.2.2.1 r k r5 (fun e => r8 ⟨e.1, e.2.elim Or.inl (fun z => Or.inr (Or.inr z))⟩), Or.inl (h.2.2.2.1 50 4 (by decide) (by decide)), h.2.2.2.2⟩ (RD_clear (μ := μ) hx ⟨h.2.1, h.2.2.1, h.2.2.2.1⟩) ⟨fun i hi => absurd hi (by omega), fun j hj => by rw [h.2.2.2.1 11 j (by decide) (by omega), (hx.1 j hj).2]; exact ⟨by decide, by decide⟩⟩⟩)
/-- the desk as natural numbers -/
def DW (μ : zM) (q : Nat) (w aw sL lL : Nat → Nat) : Prop := (RD μ q) ∧ (∀ j, j < 34 → μ.1 74 j = nI (w j) ∧ w j ≤ 4) ∧ (RW μ 11 aw) ∧ (q = 0 → ∀ k, k < 34 → aw k = w k) ∧ (∀ j, j < q → (μ.1 75 j = nI (sL j) ∧ μ.1 76 j = nI (lL j) ∧ μ.1 12 j = nI (sL j) ∧ μ.1 13 j = nI (lL j)) ∧ sL j ≤ 3 ∧ lL j < 34 ∧ (sL j = 0 → rs (lL j)))
theorem DW.rd {μ : zM} {q : Nat} {w aw sL lL : Nat → Nat} (h : DW μ q w aw sL lL) : RD μ q := h.1
theorem DW.h74 {μ : zM} {q : Nat} {w aw sL lL : Nat → Nat} (h : DW μ q w aw sL lL) : ∀ j, j < 34 → μ.1 74 j = nI (w j) ∧ w j ≤ 4 := h.2.1
theorem DW.h11 {μ : zM} {q : Nat} {w aw sL lL : Nat → Nat} (h : DW μ q w aw sL lL) : RW μ 11 aw := h.2.2.1
theorem DW.h0 {μ : zM} {q : Nat} {w aw sL lL : Nat → Nat} (h : DW μ q w aw sL lL) : q = 0 → ∀ k, k < 34 → aw k = w k := h.2.2.2.1
theorem DW.hl {μ : zM} {q : Nat} {w aw sL lL : Nat → Nat} (h : DW μ q w aw sL lL) : ∀ j, j < q → (μ.1 75 j = nI (sL j) ∧ μ.1 76 j = nI (lL j) ∧ μ.1 12 j = nI (sL j) ∧ μ.1 13 j = nI (lL j)) ∧ sL j ≤ 3 ∧ lL j < 34 ∧ (sL j = 0 → rs (lL j)) := h.2.2.2.2
theorem LJ.dw {μ : zM} (h : LJ μ) : ∃ q w aw sL lL, DW μ q w aw sL lL := by
  obtain ⟨_, q, hr, hs⟩ := h
  have nn : ∀ (x : Int32) (n : Nat), n < 1000 → bI 0 (n : Int) x → x = nI x.toInt.toNat ∧ x.toInt.toNat ≤ n := fun x n hn hb => by
    obtain ⟨t, ht, e⟩ := a_nI (x := x) (n := n + 1) hb.1 (by have := hb.2; omega) (by omega)
    rw [e, nI_toInt (by omega)]
    exact ⟨rfl, by show t ≤ n; omega⟩
  refine ⟨q, fun k => (μ.1 74 k).toInt.toNat, fun k => (μ.1 11 k).toInt.toNat, fun k => (μ.1 75 k).toInt.toNat, fun k => (μ.1 76 k).toInt.toNat, hr, fun j hj => nn _ 4 (by omega) (hr.2.2.2.2.2.2 j hj), fun j hj => by have := nn _ 4 (by omega) (hs.2 j hj); exact ⟨this.1, by have := this.2; show (μ.1 11 j).toInt.toNat ≤ 5; omega⟩, fun z k hk => ?_, fun j hj => ?_⟩
  · have e := hr.2.2.2.2.2.1 k hk
    rw [z] at e
    have e : μ.1 11 k = μ.1 74 k := e
    show (μ.1 11 k).toInt.toNat = _
    rw [e]
  · have z := hs.1 j hj
    have a := nn _ 3 (by omega) z.2.2.1
    have b := nn _ 33 (by omega) z.2.2.2.1
    refine ⟨⟨a.1, b.1, z.1.trans a.1, z.2.1.trans b.1⟩, a.2, by have := b.2; show (μ.1 76 j).toInt.toNat < 34; omega, fun y => ?_⟩
    have y : (μ.1 75 j).toInt.toNat = 0 := y
    have s0 := z.2.2.2.2 (by rw [a.1, y]; rfl)
    rw [b.1] at s0
    exact (sr_rs (μ.1 76 j).toInt.toNat (by have := b.2; omega)).mp s0
theorem DW.keep {md : List (Nat × Nat)} {μ μ' : zM} {q : Nat} {w aw sL lL : Nat → Nat} (h : DW μ q w aw sL lL) (hz : a_Fz md μ μ') (h2 : (md_rd md && md_r3 md) = true) : DW μ' q w aw sL lL := by
  have e : ∀ r k, (9 ≤ r ∧ r ≤ 13) ∨ (74 ≤ r ∧ r ≤ 76) → μ'.1 r k = μ.1 r k := fun r k hr => a_Fz_at hz r k (md_r3_r (z_and h2).2 hr)
  exact ⟨h.rd.fz hz (z_and h2).1, fun j hj => by rw [e 74 j (by omega)]; exact h.h74 j hj, fun j hj => by rw [e 11 j (by omega)]; exact h.h11 j hj, h.h0, fun j hj => by rw [e 75 j (by omega), e 76 j (by omega), e 12 j (by omega), e 13 j (by omega)]; exact h.hl j hj⟩
def VAL (w : Nat → Nat) (q : Nat) (k : Int32) : Prop := sn w 34 + 3 * q = 14 ∧ vp_in k 34 ∧ 0 < w k.toNatClampNeg
def WQ (μ1 : zM) (k wi de : Int32) (dr : Bool) (told : Int64) : Prop := ∃ q w aw sL lL, DW μ1 q w aw sL lL ∧ ((¬ VAL w q k ∧ bqC μ1 = (0, 0, 0, 0)) ∨ (VAL w q k ∧ ∃ κ, KC κ w aw q sL lL k dr told (27 + (wi &&& 3)) (rw9 wi) (de &&& 63) ∧ CI (SCl κ w q sL lL 34) 5000 μ1))
theorem lj_wx {d : Nat} (hd : 9 ≤ d) {μ : zM} (h : LJ μ) (k wi de : Int32) (dr : Bool) (told : Int64) : z_C d mi_X6_worth [.ref 0, .int k, .int (nB dr), .long told, .int wi, .int de] μ (fun r μ1 => LJ μ1 ∧ r = some (.int (bqC μ1).1) ∧ WQ μ1 k wi de dr told) := by
  obtain ⟨q, w, aw, sL, lL, hw⟩ := h.dw
  have w10 : RW μ 10 w := fun j hj => by rw [hw.rd.2.2.2.1 j hj, (hw.h74 j hj).1]; exact ⟨rfl, by have := (hw.h74 j hj).2; omega⟩
  refine z_C_mono (fb_X6_worth d hd μ w aw q hw.rd.1 sL lL (fun j hj => ⟨(hw.hl j hj).2.1, (hw.hl j hj).2.2.1⟩) (fun j hj => (hw.h74 j hj).2) w10 hw.h11 hw.h0 hw.rd.2.2.1 (by rw [hw.rd.2.2.2.2.1]; exact sm_sn 34 (fun j hj => (hw.h74 j hj).1)) (fun j hj => ⟨(hw.hl j hj).1.2.2.1, (hw.hl j hj).1.2.2.2⟩) h.1.1 k wi de dr told) (fun r μ1 z => ⟨h.keep z.2.1 z.2.2.1 (by decide) (by decide), z.1, q, w, aw, sL, lL, hw.keep z.2.2.1 (by decide), z.2.2.2⟩)
theorem lj_wm {d : Nat} (hd : 15 ≤ d) {μ1 : zM} (h : LJ μ1) {k wi de : Int32} {dr : Bool} {told : Int64} (hW : WQ μ1 k wi de dr told) : z_C d mi_X7_worth [.ref 50, .int k, .int (nB dr), .long told, .int wi, .int de] μ1 (fun r μ2 => LJ μ2 ∧ r = some (.int (bqC μ1).1) ∧ μ2.2.1 50 67 = (bqC μ1).2.2.2 ∧ a_Fz mdWo μ1 μ2) := by
  obtain ⟨q, w, aw, sL, lL, hw, hv⟩ := hW
  refine z_C_mono (fr_X7_worth d hd μ1 w q hw.rd hw.h74 sL lL (fun j hj => ⟨(hw.hl j hj).1.1, (hw.hl j hj).2.1, (hw.hl j hj).1.2.1, (hw.hl j hj).2.2.1⟩) h.1.1 k wi de dr told) (fun r μ2 z => ?_)
  obtain ⟨H2, F2, κ, b, e, ef, hb⟩ := z
  refine ⟨h.keep H2 F2 (by decide) (by decide), ?_⟩
  suffices hh : (bqC μ1).1 = b.1 ∧ (bqC μ1).2.2.2 = b.2.2.2 from ⟨by rw [e, hh.1], by rw [ef, hh.2], F2⟩
  rcases hv with ⟨nv, e0⟩ | ⟨v, κC, hC, hI⟩
  · have b0 : b = (0, 0, 0, 0) := by
      rcases hb with ⟨_, e⟩ | ⟨z, _, hB⟩
      · exact e
      · exact hB.1.resolve_right (fun y => nv ⟨y.1, z⟩)
    rw [e0, b0]
    exact ⟨rfl, rfl⟩
  · rcases hb with ⟨z, _⟩ | ⟨z, hM, hB⟩
    · exact absurd v.2 z
    · have hkn : k.toNatClampNeg < 34 := by have := vp_in_iff.mp v.2.1; rw [Int32.toNatClampNeg]; omega
      have ek : k = nI k.toNatClampNeg := by
        have hv := vp_in_iff.mp v.2.1
        rw [← Int32.toInt_inj, nI_toInt (by omega), Int32.toNatClampNeg]
        omega
      rw [ek] at hC hM
      have q4 := hw.rd.1
      have haw : ∀ i, i < 34 → ofv (κ.1 58 i) (κ.1 52) (κ.1 53) (nI i) q = nI (aw i) ∧ aw i < 100 := fun i hi => by
        refine ⟨?_, by have := (hw.h11 i hi).2; omega⟩
        rw [hM.r58 i hi, ofv_cg (s' := μ1.1 75) (l' := μ1.1 76) q (fun j hj => ⟨by rw [(hM.r52 j hj).1, (hw.hl j hj).1.1], by rw [(hM.r52 j hj).2.2.1, (hw.hl j hj).1.2.1]⟩), ← (hw.h74 i hi).1, ← hw.rd.2.2.2.2.2.1 i hi]
        exact (hw.h11 i hi).1
      have := both q4 hkn v.1 (fun j hj => (hw.hl j hj).2) haw hw.h0 hC hM hI hB
      exact ⟨this.1, this.2.2⟩

/-! what holds between the law's calls; every call keeps it -/
theorem fz_of {md : List (Nat × Nat)} {μ μ' : zM} (h1 : ∀ r k, a_md md r k = false → μ'.1 r k = μ.1 r k) (h2 : μ'.2 = μ.2) : a_Fz md μ μ' := ⟨fun r k hm => ⟨h1 r k hm, by rw [h2]⟩, fun r _ => by rw [h2]⟩
theorem md_ne {md : List (Nat × Nat)} {r k a : Nat} (hm : a_md md r k = false) (ha : a_mda md a = true) : r ≠ a := fun e => by
  rw [a_mda_md (r := r) (by rw [e]; exact ha) k] at hm
  exact absurd hm (by decide)
theorem md_nc {md : List (Nat × Nat)} {r k a b : Nat} (hm : a_md md r k = false) (ha : a_md md a b = true) : ¬ (r = a ∧ k = b) := fun e => by
  rw [e.1, e.2, ha] at hm
  exact absurd hm (by decide)
theorem RD.fz {md : List (Nat × Nat)} {μ μ' : zM} {q : Nat} (h : RD μ q) (hz : a_Fz md μ μ') (hm : (md.all (fun q => !((Nat.ble 9 q.1 && Nat.ble q.1 11) || ((Nat.ble 74 q.1 && Nat.ble q.1 76) || (Nat.beq q.1 50 && (Nat.beq q.2 66 || Nat.beq q.2 9999)))))) = true) : RD μ' q := by
  refine h.keep (fun r k hk => a_Fz_at hz r k ?_)
  unfold a_md
  rw [List.any_eq_false]
  intro q hq hb
  have t := List.all_eq_true.mp hm q hq
  obtain ⟨b1, b2⟩ := z_and hb
  have b1 := z_beq b1
  rw [b1] at t
  rcases hk with hk | hk | hk
  · rw [Nat.ble_eq_true_of_le hk.1, Nat.ble_eq_true_of_le hk.2] at t
    simp at t
  · rw [Nat.ble_eq_true_of_le hk.1, Nat.ble_eq_true_of_le hk.2] at t
    simp at t
  · rw [hk.2] at b2
    rw [hk.1, b2] at t
    simp at t
/-- what the game and the desks leave to others -/
def md_ok (md : List (Nat × Nat)) : Bool := (md.all (fun q => !(Nat.beq q.1 60 || Nat.beq q.1 64 || Nat.beq q.1 66 || (Nat.beq q.1 50 && (Nat.beq q.2 9999 || (Nat.ble 44 q.2 && Nat.ble q.2 49) || Nat.beq q.2 57))))) && ((md.all (fun q => !Nat.beq q.1 72)) && !(a_md md 50 44))
def md_rd (md : List (Nat × Nat)) : Bool := md.all (fun q => !((Nat.ble 9 q.1 && Nat.ble q.1 11) || ((Nat.ble 74 q.1 && Nat.ble q.1 76) || (Nat.beq q.1 50 && (Nat.beq q.2 66 || Nat.beq q.2 9999)))))
theorem GI.keep {md : List (Nat × Nat)} {μ μ' : zM} (h : GI μ) (hH : a_H μ') (hz : a_Fz md μ μ') (hm : md_ok md = true) : GI μ' := by
  obtain ⟨m1, m2⟩ := z_and hm
  obtain ⟨m2, m3⟩ := z_and m2
  refine ⟨hH, GW_keep h.2.1 hz m2, fun q => (h.2.2 ?_).keep hz m1⟩
  rw [← a_Fz_at hz 50 44 (by simpa using m3)]
  exact q
def LI (μ : zM) : Prop := GI μ ∧ ∃ q, RD μ q
theorem LI.keep {md : List (Nat × Nat)} {μ μ' : zM} (h : LI μ) (hH : a_H μ') (hz : a_Fz md μ μ') (h1 : md_ok md = true) (h2 : md_rd md = true) : LI μ' := ⟨h.1.keep hH hz h1, h.2.elim fun q hq => ⟨q, hq.fz hz h2⟩⟩
/-- a method that the checker knows -/
theorem lc_k {d i : Nat} {K : aQ} (hk : (a_Ks.take 139)[i]? = some K) (hd : 695 ≤ d) (h1 : md_ok K.2.2.2.1 = true) (h2 : md_rd K.2.2.2.1 = true) (h3 : K.2.2.1 = []) (As : List Value) (μ : zM) (h : LI μ) (ha : aArg K.2.1 As) : z_C d K.1 As μ (fun r μ' => LI μ' ∧ a_rok K.2.2.2.2 r) := z_C_mono (a_use hk hd As μ (aArg_pre ha h3) h.1.1) (fun r μ' q => ⟨h.keep q.1 q.2.1 h1 h2, q.2.2⟩)
def zLi (r : Option Value) (μ' : zM) : Prop := LI μ' ∧ ∃ x, r = some (.int x)
theorem lc_g {d j : Nat} {As : List Value} {μ : zM} (h : LI μ) (hc : z_C d j As μ (zPG μ)) : z_C d j As μ zLi := z_C_mono hc (fun r μ' q => ⟨⟨q.2.1, h.2.elim fun n hn => ⟨n, hn.fz q.2.2 (by decide)⟩⟩, q.1⟩)
theorem lc_e {d j : Nat} {As : List Value} {μ : zM} (h : LI μ) (hc : z_C d j As μ (zPE μ)) : z_C d j As μ zLi := z_C_mono hc (fun r μ' q => ⟨⟨⟨q.2.1.1, q.2.1.2.1, fun hp => q.2.2.elim (fun e => absurd e hp) (fun hz => (h.1.2.2 (by rw [← a_Fz_at hz 50 44 (by decide)]; exact hp)).keep hz (by decide))⟩, h.2.elim fun n hn => ⟨n, hn.fz q.2.1.2.2 (by decide)⟩⟩, q.1⟩)
theorem aArg_preF {K : aQ} {As : List Value} {μ : zM} (h : aArg K.2.1 As) (h2 : ∀ f ∈ K.2.2.1, ∃ r, As[f.1]? = some (.ref r) ∧ (z_sh r).1 = 0 ∧ r < 79 ∧ a_ok f.2.2 (z_gv μ (z_sh r).2.1 r f.2.1)) : a_pre1 K As μ := by
  obtain ⟨q1, q2, -⟩ := aArg_pre (K := (K.1, K.2.1, [], K.2.2.2)) (μ := μ) h rfl
  exact ⟨q1, q2, h2⟩
theorem lc_X7_claim {d : Nat} (hd : 700 ≤ d) (μ : zM) (s : Int32) (h : LI μ) : z_C d mi_X7_claim [.ref 50, .int s] μ zLi := by
  by_cases hp : μ.1 50 44 = 0 ∨ μ.1 50 44 = 1
  · refine z_C_mono (bs_X7_claim_b hd [.ref 50, .int s] μ (aArg_preF ⟨⟨50, by decide, rfl⟩, ⟨_, rfl, bI_top _⟩, trivial⟩ (fun f hf => ?_)) h.1.1) (fun r μ' q => ⟨h.keep q.1 q.2.1 (by decide) (by decide), ?_⟩)
    · rw [List.mem_singleton.mp hf]
      refine ⟨50, rfl, rfl, by decide, μ.1 50 44, rfl, ?_⟩
      rcases hp with e | e <;> rw [e] <;> exact ⟨by decide, by decide⟩
    · obtain ⟨v9, rfl, x9, rfl, -⟩ := q.2.2
      exact ⟨x9, rfl⟩
  · have hP := h.1.2.2 (fun e => hp (Or.inl e))
    have t0 := hP.2.2.2.2.1 (fun e => absurd (Or.inr e) hp)
    refine z_C_mono (bs_X7_claim_a hd [.ref 50, .int s] μ (aArg_preF ⟨⟨50, by decide, rfl⟩, ⟨_, rfl, bI_top _⟩, trivial⟩ (fun f hf => ?_)) h.1.1) (fun r μ' q => ⟨h.keep q.1 q.2.1 (by decide) (by decide), ?_⟩)
    · rw [List.mem_singleton.mp hf]
      exact ⟨50, rfl, rfl, by decide, μ.1 50 49, rfl, t0, (h.1.1 50 49).2⟩
    · obtain ⟨v9, rfl, x9, rfl, -⟩ := q.2.2
      exact ⟨x9, rfl⟩
theorem lc_X7_win {d : Nat} (hd : 702 ≤ d) (μ : zM) (h : LI μ) : z_C d mi_X7_win [.ref 50] μ zLi := lc_e h (fc_X7_win d hd μ h.1.1 h.1.2.1 (fun h1 h2 => (h.1.2.2 (by rw [h1]; decide)).2.2.2.2.1 (fun _ => h2)))
theorem lc_X7_nine {d : Nat} (hd : 702 ≤ d) (μ : zM) (h : LI μ) : z_C d mi_X7_nine [.ref 50] μ zLi := lc_e h (fc_X7_nine d hd μ h.1.1 h.1.2.1)
/-! the desks -/
def F9 (μ μ' : zM) : Prop := (∀ r k, r ≠ 10 → r ≠ 11 → r ≠ 12 → r ≠ 13 → ¬ (r = 9 ∧ (k = 4 ∨ k = 5)) → μ'.1 r k = μ.1 r k) ∧ μ'.2 = μ.2
theorem F9.fz {μ μ' : zM} (h : F9 μ μ') : a_Fz [(9, 4), (9, 5), (10, 9999), (11, 9999), (12, 9999), (13, 9999)] μ μ' := fz_of (fun r k hm => h.1 r k (md_ne hm (by decide)) (md_ne hm (by decide)) (md_ne hm (by decide)) (md_ne hm (by decide)) (fun e => e.2.elim (fun e2 => md_nc hm (a := 9) (b := 4) (by decide) ⟨e.1, e2⟩) (fun e2 => md_nc hm (a := 9) (b := 5) (by decide) ⟨e.1, e2⟩))) h.2
theorem F9.H {μ μ' : zM} (h : F9 μ μ') (hH : a_H μ) (h4 : bI 0 4 (μ'.1 9 4)) : a_H μ' := by
  intro r k
  by_cases e1 : r = 10 ∨ r = 11 ∨ r = 12 ∨ r = 13
  · rcases e1 with rfl | rfl | rfl | rfl <;> exact bI_top _
  · by_cases e2 : r = 9 ∧ (k = 4 ∨ k = 5)
    · obtain ⟨rfl, rfl | rfl⟩ := e2
      · exact h4
      · exact bI_top _
    · rw [h.1 r k (by omega) (by omega) (by omega) (by omega) e2]
      exact hH r k
theorem zMf.fz {μ μ' : zM} (h : zMf μ μ') : a_Fz [(51, 9999), (52, 9999), (53, 9999), (58, 9999), (74, 9999), (75, 9999), (76, 9999), (50, 0), (50, 4), (50, 66)] μ μ' := fz_of (fun r k hm => h.1 r k (md_ne hm (by decide)) (md_ne hm (by decide)) (md_ne hm (by decide)) (md_ne hm (by decide)) (md_ne hm (by decide)) (md_ne hm (by decide)) (md_ne hm (by decide)) (fun e => e.2.elim (fun e2 => md_nc hm (a := 50) (b := 0) (by decide) ⟨e.1, e2⟩) (fun e2 => e2.elim (fun e2 => md_nc hm (a := 50) (b := 4) (by decide) ⟨e.1, e2⟩) (fun e2 => md_nc hm (a := 50) (b := 66) (by decide) ⟨e.1, e2⟩)))) h.2.2
theorem LI_desk {μ μ1 μ2 : zM} {q : Nat} (h : GI μ) (h1 : F9 μ μ1) (h2 : zMf μ1 μ2) (h3 : RD μ2 q) : LI μ2 := by
  have e9 : μ1.1 9 4 = nI q := (h2.X (by decide)).symm.trans h3.2.2.1
  have l := h3.1
  have hH1 := h1.H h.1 (by rw [e9]; exact bd_nI (by omega) ⟨by omega, by omega⟩)
  have hH2 := a_H_Mf hH1 h2 (by rw [h3.2.1]; exact bd_nI (by omega) ⟨by omega, by omega⟩)
  exact ⟨(h.keep hH1 h1.fz (by decide)).keep hH2 h2.fz (by decide), q, h3⟩
theorem F9_rf (μ : zM) : F9 μ μ := ⟨fun _ _ _ _ _ _ _ => rfl, rfl⟩
theorem F9_put (μ : zM) (k n : Int32) : F9 μ (z_put μ k n) := ⟨fun r i r1 r2 _ _ r3 => by unfold z_put; rw [z_ui_rd, if_neg (fun z => r3 ⟨z.1, Or.inr z.2⟩), z_ui_rd, if_neg (fun z => r2 z.1), z_ui_rd, if_neg (fun z => r1 z.1)], rfl⟩
theorem zSX.f9 {μ μ' : zM} {s k : Int32} {q : Nat} (h : zSX μ s k q μ') : F9 μ μ' := ⟨fun r i r1 r2 r3 r4 r5 => h.2.2.2.2.2.2.1 r i r1 r2 r3 r4 r5, h.2.2.2.2.2.2.2⟩
/-- the class's lay -/
theorem lx_lay {d : Nat} (hd : 4 ≤ d) (μ : zM) (k n : Int32) : z_C d mi_X6_lay [.ref 0, .int k, .int n] μ (fun r μ1 => F9 μ μ1 ∧ ((r = some (.int 1) ∧ z_layok μ k n ∧ μ1 = z_put μ k n) ∨ (r = some (.int 0) ∧ ¬ z_layok μ k n ∧ μ1 = μ))) := z_C_mono (fc_X6_lay d hd μ k n) (fun r μ1 h => ⟨h.elim (fun e => by rw [e.2.2]; exact F9_put _ _ _) (fun e => by rw [e.2.2]; exact F9_rf _), h⟩)
/-- both desks are laid on -/
theorem lm_lay {d : Nat} (hd : 4 ≤ d) {μ μ1 : zM} {k n : Int32} {r1 : Option Value} (h : LI μ) (hF : F9 μ μ1) (hx : (r1 = some (.int 1) ∧ z_layok μ k n ∧ μ1 = z_put μ k n) ∨ (r1 = some (.int 0) ∧ ¬ z_layok μ k n ∧ μ1 = μ)) : z_C d mi_X7_lay [.ref 50, .int k, .int n] μ1 (fun r2 μ2 => LI μ2 ∧ ((r1 = some (.int 1) ∧ r2 = some (.int 1)) ∨ (r1 = some (.int 0) ∧ r2 = some (.int 0)))) := by
  obtain ⟨hg, q, hq⟩ := h
  refine z_C_mono (fc_X7_lay d hd μ1 k n q hq.1 ((hF.1 50 66 (by decide) (by decide) (by decide) (by decide) (by omega)).trans hq.2.1)) (fun r2 μ2 hm => ?_)
  obtain ⟨g1, g2⟩ := RD_lay hq hx hm
  exact ⟨LI_desk hg hF hm.1 g1, g2⟩
theorem lx_set {d : Nat} (hd : 4 ≤ d) {μ : zM} (s k : Int32) {q : Nat} (hq : RD μ q) : z_C d mi_X6_set [.ref 0, .int s, .int k] μ (fun r μ1 => F9 μ μ1 ∧ ((r = some (.int 1) ∧ z_setX μ s k ∧ zSX μ s k q μ1) ∨ (r = some (.int 0) ∧ ¬ z_setX μ s k ∧ μ1 = μ))) := z_C_mono (fc_X6_set d hd μ s k q hq.2.2.1 (by rw [hq.2.2.2.2.1, hq.2.2.1, ← hq.2.1]; exact hq.sm3)) (fun r μ1 h => ⟨h.elim (fun e => e.2.2.f9) (fun e => by rw [e.2.2]; exact F9_rf _), h⟩)
theorem lm_set {d : Nat} (hd : 4 ≤ d) {μ μ1 : zM} {s k : Int32} {q : Nat} {r1 : Option Value} (hg : GI μ) (hq : RD μ q) (hF : F9 μ μ1) (hx : (r1 = some (.int 1) ∧ z_setX μ s k ∧ zSX μ s k q μ1) ∨ (r1 = some (.int 0) ∧ ¬ z_setX μ s k ∧ μ1 = μ)) : z_C d mi_X7_set [.ref 50, .int s, .int k] μ1 (fun r2 μ2 => LI μ2 ∧ ((r1 = some (.int 1) ∧ r2 = some (.int 1)) ∨ (r1 = some (.int 0) ∧ r2 = some (.int 0)))) := by
  have e66 : μ1.1 50 66 = μ.1 50 66 := hF.1 50 66 (by decide) (by decide) (by decide) (by decide) (by omega)
  have e74 : μ1.1 74 = μ.1 74 := funext fun i => hF.1 74 i (by decide) (by decide) (by decide) (by decide) (by omega)
  refine z_C_mono (fc_X7_set d hd μ1 s k q hq.1 (e66.trans hq.2.1) (by rw [e74, e66]; exact hq.sm3)) (fun r2 μ2 hm => ?_)
  obtain ⟨⟨q', g1⟩, g2⟩ := RD_set hq hx hm
  exact ⟨LI_desk hg hF hm.1 g1, g2⟩
theorem lx_clear {d : Nat} (hd : 2 ≤ d) (μ : zM) : z_C d mi_X6_clear [.ref 0] μ (fun r μ1 => r = none ∧ F9 μ μ1 ∧ (∀ k, k < 34 → μ1.1 10 k = 0 ∧ μ1.1 11 k = 0) ∧ μ1.1 9 4 = 0 ∧ μ1.1 9 5 = 0) := z_C_mono (fc_X6_clear d hd μ) (fun r μ1 h => ⟨h.1, ⟨fun r k r1 r2 _ _ r5 => h.2.2.2.2.1 r k r1 r2 r5, h.2.2.2.2.2⟩, h.2.1, h.2.2.1, h.2.2.2.1⟩)
theorem lm_clear {d : Nat} (hd : 1 ≤ d) {μ μ1 : zM} (hg : GI μ) (hF : F9 μ μ1) (hx : (∀ k, k < 34 → μ1.1 10 k = 0 ∧ μ1.1 11 k = 0) ∧ μ1.1 9 4 = 0 ∧ μ1.1 9 5 = 0) : z_C d mi_X7_clear [.ref 50] μ1 (fun r μ2 => r = none ∧ LI μ2) := z_C_mono (fc_X7_clear d hd μ1) (fun r μ2 h => ⟨h.1, LI_desk hg hF ⟨fun r k _ _ _ _ r5 _ _ r8 => h.2.2.2.1 r k r5 (fun e => r8 ⟨e.1, e.2.elim Or.inl (fun z => Or.inr (Or.inr z))⟩), Or.inl (h.2.2.2.1 50 4 (by decide) (by decide)), h.2.2.2.2⟩ (RD_clear (μ := μ) hx ⟨h.2.1, h.2.2.1, h.2.2.2.1⟩)⟩)
